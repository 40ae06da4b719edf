/-! printed by wip/whole/gen/mkparts.py: what the tables say, by name -/
theorem ing_J4 : ∀ w ∈ u_ws RJ4 TJ4 4, w ∈ q_gw := fun w h => List.mem_filter.mpr ⟨(show ∀ w ∈ u_ws RJ4 TJ4 4, w ∈ lw_tbl by decide +kernel) w h, (show ∀ w ∈ u_ws RJ4 TJ4 4, goodWord w = true by decide +kernel) w h⟩
theorem ing_X0 : ∀ w ∈ u_ws RX0 TX0 9, w ∈ q_gw := fun w h => List.mem_filter.mpr ⟨(show ∀ w ∈ u_ws RX0 TX0 9, w ∈ lw_tbl by decide +kernel) w h, (show ∀ w ∈ u_ws RX0 TX0 9, goodWord w = true by decide +kernel) w h⟩
theorem ing_X1 : ∀ w ∈ u_ws RX1 TX1 4, w ∈ q_gw := fun w h => List.mem_filter.mpr ⟨(show ∀ w ∈ u_ws RX1 TX1 4, w ∈ lw_tbl by decide +kernel) w h, (show ∀ w ∈ u_ws RX1 TX1 4, goodWord w = true by decide +kernel) w h⟩
theorem ing_X2 : ∀ w ∈ u_ws RX2 TX2 3, w ∈ q_gw := fun w h => List.mem_filter.mpr ⟨(show ∀ w ∈ u_ws RX2 TX2 3, w ∈ lw_tbl by decide +kernel) w h, (show ∀ w ∈ u_ws RX2 TX2 3, goodWord w = true by decide +kernel) w h⟩
theorem ing_X3 : ∀ w ∈ u_ws RX3 TX3 13, w ∈ q_gw := fun w h => List.mem_filter.mpr ⟨(show ∀ w ∈ u_ws RX3 TX3 13, w ∈ lw_tbl by decide +kernel) w h, (show ∀ w ∈ u_ws RX3 TX3 13, goodWord w = true by decide +kernel) w h⟩
theorem ing_X4 : ∀ w ∈ u_ws RX4 TX4 7, w ∈ q_gw := fun w h => List.mem_filter.mpr ⟨(show ∀ w ∈ u_ws RX4 TX4 7, w ∈ lw_tbl by decide +kernel) w h, (show ∀ w ∈ u_ws RX4 TX4 7, goodWord w = true by decide +kernel) w h⟩
theorem ing_X5 : ∀ w ∈ u_ws RX5 TX5 3, w ∈ q_gw := fun w h => List.mem_filter.mpr ⟨(show ∀ w ∈ u_ws RX5 TX5 3, w ∈ lw_tbl by decide +kernel) w h, (show ∀ w ∈ u_ws RX5 TX5 3, goodWord w = true by decide +kernel) w h⟩
theorem ing_X6 : ∀ w ∈ u_ws RX6 TX6 6, w ∈ q_gw := fun w h => List.mem_filter.mpr ⟨(show ∀ w ∈ u_ws RX6 TX6 6, w ∈ lw_tbl by decide +kernel) w h, (show ∀ w ∈ u_ws RX6 TX6 6, goodWord w = true by decide +kernel) w h⟩
theorem ing_X7 : ∀ w ∈ u_ws RX7 TX7 2, w ∈ q_gw := fun w h => List.mem_filter.mpr ⟨(show ∀ w ∈ u_ws RX7 TX7 2, w ∈ lw_tbl by decide +kernel) w h, (show ∀ w ∈ u_ws RX7 TX7 2, goodWord w = true by decide +kernel) w h⟩
theorem ing_X8 : ∀ w ∈ u_ws RX8 TX8 11, w ∈ q_gw := fun w h => List.mem_filter.mpr ⟨(show ∀ w ∈ u_ws RX8 TX8 11, w ∈ lw_tbl by decide +kernel) w h, (show ∀ w ∈ u_ws RX8 TX8 11, goodWord w = true by decide +kernel) w h⟩
theorem ing_X9 : ∀ w ∈ u_ws RX9 TX9 36, w ∈ q_gw := fun w h => List.mem_filter.mpr ⟨(show ∀ w ∈ u_ws RX9 TX9 36, w ∈ lw_tbl by decide +kernel) w h, (show ∀ w ∈ u_ws RX9 TX9 36, goodWord w = true by decide +kernel) w h⟩
theorem ac_int : Cond.arrayClass .int ∈ q_gw := List.mem_filter.mpr ⟨List.mem_of_getElem? (i := 109) (by decide +kernel), by decide +kernel⟩
theorem ac_byte : Cond.arrayClass .byte ∈ q_gw := List.mem_filter.mpr ⟨List.mem_of_getElem? (i := 110) (by decide +kernel), by decide +kernel⟩
theorem ac_boolean : Cond.arrayClass .boolean ∈ q_gw := List.mem_filter.mpr ⟨List.mem_of_getElem? (i := 1023) (by decide +kernel), by decide +kernel⟩
theorem oi_i : Cond.instanceMethod objectInit ∈ q_gw := List.mem_filter.mpr ⟨List.mem_of_getElem? (i := 72) (by decide +kernel), by decide +kernel⟩
theorem oi_c : Cond.code objectInit ⟨#[0xb1]⟩ 1 none ∈ q_gw := List.mem_filter.mpr ⟨List.mem_of_getElem? (i := 73) (by decide +kernel), by decide +kernel⟩
abbrev mX8_init : q_M := (RX8, yX8_init, cX8_init, 1, none)
theorem mt_X8_init : q_MT mX8_init 0 := ⟨List.mem_filter.mpr ⟨List.mem_of_getElem? (i := 70) (by decide +kernel), by decide +kernel⟩, List.mem_filter.mpr ⟨List.mem_of_getElem? (i := 45) (by decide +kernel), by decide +kernel⟩, by decide +kernel, by decide +kernel, by decide +kernel⟩
theorem mi_X8_init : Cond.instanceMethod yX8_init ∈ q_gw := List.mem_filter.mpr ⟨List.mem_of_getElem? (i := 69) (by decide +kernel), by decide +kernel⟩
abbrev mJ4_init_da8c8 : q_M := (RJ4, yJ4_init_da8c8, cJ4_init_da8c8, 1, none)
theorem mt_J4_init_da8c8 : q_MT mJ4_init_da8c8 0 := ⟨List.mem_filter.mpr ⟨List.mem_of_getElem? (i := 82) (by decide +kernel), by decide +kernel⟩, List.mem_filter.mpr ⟨List.mem_of_getElem? (i := 47) (by decide +kernel), by decide +kernel⟩, by decide +kernel, by decide +kernel, by decide +kernel⟩
theorem mi_J4_init_da8c8 : Cond.instanceMethod yJ4_init_da8c8 ∈ q_gw := List.mem_filter.mpr ⟨List.mem_of_getElem? (i := 81) (by decide +kernel), by decide +kernel⟩
abbrev mJ5_init_d00df : q_M := (RJ5, yJ5_init_d00df, cJ5_init_d00df, 2, none)
theorem mt_J5_init_d00df : q_MT mJ5_init_d00df 1 := ⟨List.mem_filter.mpr ⟨List.mem_of_getElem? (i := 85) (by decide +kernel), by decide +kernel⟩, List.mem_filter.mpr ⟨List.mem_of_getElem? (i := 46) (by decide +kernel), by decide +kernel⟩, by decide +kernel, by decide +kernel, by decide +kernel⟩
theorem mi_J5_init_d00df : Cond.instanceMethod yJ5_init_d00df ∈ q_gw := List.mem_filter.mpr ⟨List.mem_of_getElem? (i := 84) (by decide +kernel), by decide +kernel⟩
abbrev mJ2_newBytesFor_77867 : q_M := (RJ2, yJ2_newBytesFor_77867, cJ2_newBytesFor_77867, 1, (some (.array .byte)))
theorem mt_J2_newBytesFor_77867 : q_MT mJ2_newBytesFor_77867 1 := ⟨List.mem_filter.mpr ⟨List.mem_of_getElem? (i := 91) (by decide +kernel), by decide +kernel⟩, List.mem_filter.mpr ⟨List.mem_of_getElem? (i := 49) (by decide +kernel), by decide +kernel⟩, by decide +kernel, by decide +kernel, by decide +kernel⟩
theorem ms_J2_newBytesFor_77867 : Cond.static yJ2_newBytesFor_77867 ∈ q_gw := List.mem_filter.mpr ⟨List.mem_of_getElem? (i := 90) (by decide +kernel), by decide +kernel⟩
abbrev mJ2_newBytesLength_0f7a4 : q_M := (RJ2, yJ2_newBytesLength_0f7a4, cJ2_newBytesLength_0f7a4, 1, (some .int))
theorem mt_J2_newBytesLength_0f7a4 : q_MT mJ2_newBytesLength_0f7a4 1 := ⟨List.mem_filter.mpr ⟨List.mem_of_getElem? (i := 94) (by decide +kernel), by decide +kernel⟩, List.mem_filter.mpr ⟨List.mem_of_getElem? (i := 49) (by decide +kernel), by decide +kernel⟩, by decide +kernel, by decide +kernel, by decide +kernel⟩
theorem ms_J2_newBytesLength_0f7a4 : Cond.static yJ2_newBytesLength_0f7a4 ∈ q_gw := List.mem_filter.mpr ⟨List.mem_of_getElem? (i := 93) (by decide +kernel), by decide +kernel⟩
abbrev mX5_init : q_M := (RX5, yX5_init, cX5_init, 1, none)
theorem mt_X5_init : q_MT mX5_init 0 := ⟨List.mem_filter.mpr ⟨List.mem_of_getElem? (i := 115) (by decide +kernel), by decide +kernel⟩, List.mem_filter.mpr ⟨List.mem_of_getElem? (i := 50) (by decide +kernel), by decide +kernel⟩, by decide +kernel, by decide +kernel, by decide +kernel⟩
theorem mi_X5_init : Cond.instanceMethod yX5_init ∈ q_gw := List.mem_filter.mpr ⟨List.mem_of_getElem? (i := 114) (by decide +kernel), by decide +kernel⟩
abbrev mX7_init : q_M := (RX7, yX7_init, cX7_init, 2, none)
theorem mt_X7_init : q_MT mX7_init 1 := ⟨List.mem_filter.mpr ⟨List.mem_of_getElem? (i := 133) (by decide +kernel), by decide +kernel⟩, List.mem_filter.mpr ⟨List.mem_of_getElem? (i := 51) (by decide +kernel), by decide +kernel⟩, by decide +kernel, by decide +kernel, by decide +kernel⟩
theorem mi_X7_init : Cond.instanceMethod yX7_init ∈ q_gw := List.mem_filter.mpr ⟨List.mem_of_getElem? (i := 132) (by decide +kernel), by decide +kernel⟩
abbrev mX6_init : q_M := (RX6, yX6_init, cX6_init, 2, none)
theorem mt_X6_init : q_MT mX6_init 1 := ⟨List.mem_filter.mpr ⟨List.mem_of_getElem? (i := 146) (by decide +kernel), by decide +kernel⟩, List.mem_filter.mpr ⟨List.mem_of_getElem? (i := 52) (by decide +kernel), by decide +kernel⟩, by decide +kernel, by decide +kernel, by decide +kernel⟩
theorem mi_X6_init : Cond.instanceMethod yX6_init ∈ q_gw := List.mem_filter.mpr ⟨List.mem_of_getElem? (i := 145) (by decide +kernel), by decide +kernel⟩
abbrev mX1_init : q_M := (RX1, yX1_init, cX1_init, 2, none)
theorem mt_X1_init : q_MT mX1_init 1 := ⟨List.mem_filter.mpr ⟨List.mem_of_getElem? (i := 177) (by decide +kernel), by decide +kernel⟩, List.mem_filter.mpr ⟨List.mem_of_getElem? (i := 53) (by decide +kernel), by decide +kernel⟩, by decide +kernel, by decide +kernel, by decide +kernel⟩
theorem mi_X1_init : Cond.instanceMethod yX1_init ∈ q_gw := List.mem_filter.mpr ⟨List.mem_of_getElem? (i := 176) (by decide +kernel), by decide +kernel⟩
abbrev mX8_puzzle : q_M := (RX8, yX8_puzzle, cX8_puzzle, 4, (some .int))
theorem mt_X8_puzzle : q_MT mX8_puzzle 3 := ⟨List.mem_filter.mpr ⟨List.mem_of_getElem? (i := 230) (by decide +kernel), by decide +kernel⟩, List.mem_filter.mpr ⟨List.mem_of_getElem? (i := 45) (by decide +kernel), by decide +kernel⟩, by decide +kernel, by decide +kernel, by decide +kernel⟩
theorem mi_X8_puzzle : Cond.instanceMethod yX8_puzzle ∈ q_gw := List.mem_filter.mpr ⟨List.mem_of_getElem? (i := 228) (by decide +kernel), by decide +kernel⟩
abbrev mX8_canCome : q_M := (RX8, yX8_canCome, cX8_canCome, 4, (some .boolean))
theorem mt_X8_canCome : q_MT mX8_canCome 3 := ⟨List.mem_filter.mpr ⟨List.mem_of_getElem? (i := 234) (by decide +kernel), by decide +kernel⟩, List.mem_filter.mpr ⟨List.mem_of_getElem? (i := 45) (by decide +kernel), by decide +kernel⟩, by decide +kernel, by decide +kernel, by decide +kernel⟩
theorem mi_X8_canCome : Cond.instanceMethod yX8_canCome ∈ q_gw := List.mem_filter.mpr ⟨List.mem_of_getElem? (i := 233) (by decide +kernel), by decide +kernel⟩
abbrev mX4_init : q_M := (RX4, yX4_init, cX4_init, 5, none)
theorem mt_X4_init : q_MT mX4_init 3 := ⟨List.mem_filter.mpr ⟨List.mem_of_getElem? (i := 238) (by decide +kernel), by decide +kernel⟩, List.mem_filter.mpr ⟨List.mem_of_getElem? (i := 55) (by decide +kernel), by decide +kernel⟩, by decide +kernel, by decide +kernel, by decide +kernel⟩
theorem mi_X4_init : Cond.instanceMethod yX4_init ∈ q_gw := List.mem_filter.mpr ⟨List.mem_of_getElem? (i := 237) (by decide +kernel), by decide +kernel⟩
abbrev mX3_init : q_M := (RX3, yX3_init, cX3_init, 5, none)
theorem mt_X3_init : q_MT mX3_init 4 := ⟨List.mem_filter.mpr ⟨List.mem_of_getElem? (i := 245) (by decide +kernel), by decide +kernel⟩, List.mem_filter.mpr ⟨List.mem_of_getElem? (i := 56) (by decide +kernel), by decide +kernel⟩, by decide +kernel, by decide +kernel, by decide +kernel⟩
theorem mi_X3_init : Cond.instanceMethod yX3_init ∈ q_gw := List.mem_filter.mpr ⟨List.mem_of_getElem? (i := 244) (by decide +kernel), by decide +kernel⟩
abbrev mX3_addGap : q_M := (RX3, yX3_addGap, cX3_addGap, 1, none)
theorem mt_X3_addGap : q_MT mX3_addGap 0 := ⟨List.mem_filter.mpr ⟨List.mem_of_getElem? (i := 250) (by decide +kernel), by decide +kernel⟩, List.mem_filter.mpr ⟨List.mem_of_getElem? (i := 56) (by decide +kernel), by decide +kernel⟩, by decide +kernel, by decide +kernel, by decide +kernel⟩
theorem mi_X3_addGap : Cond.instanceMethod yX3_addGap ∈ q_gw := List.mem_filter.mpr ⟨List.mem_of_getElem? (i := 249) (by decide +kernel), by decide +kernel⟩
abbrev mX3_addPlace : q_M := (RX3, yX3_addPlace, cX3_addPlace, 3, none)
theorem mt_X3_addPlace : q_MT mX3_addPlace 1 := ⟨List.mem_filter.mpr ⟨List.mem_of_getElem? (i := 254) (by decide +kernel), by decide +kernel⟩, List.mem_filter.mpr ⟨List.mem_of_getElem? (i := 56) (by decide +kernel), by decide +kernel⟩, by decide +kernel, by decide +kernel, by decide +kernel⟩
theorem mi_X3_addPlace : Cond.instanceMethod yX3_addPlace ∈ q_gw := List.mem_filter.mpr ⟨List.mem_of_getElem? (i := 253) (by decide +kernel), by decide +kernel⟩
abbrev mX8_holds : q_M := (RX8, yX8_holds, cX8_holds, 2, (some .boolean))
theorem mt_X8_holds : q_MT mX8_holds 2 := ⟨List.mem_filter.mpr ⟨List.mem_of_getElem? (i := 257) (by decide +kernel), by decide +kernel⟩, List.mem_filter.mpr ⟨List.mem_of_getElem? (i := 45) (by decide +kernel), by decide +kernel⟩, by decide +kernel, by decide +kernel, by decide +kernel⟩
theorem ms_X8_holds : Cond.static yX8_holds ∈ q_gw := List.mem_filter.mpr ⟨List.mem_of_getElem? (i := 256) (by decide +kernel), by decide +kernel⟩
abbrev mX4_clearDesk : q_M := (RX4, yX4_clearDesk, cX4_clearDesk, 1, none)
theorem mt_X4_clearDesk : q_MT mX4_clearDesk 0 := ⟨List.mem_filter.mpr ⟨List.mem_of_getElem? (i := 314) (by decide +kernel), by decide +kernel⟩, List.mem_filter.mpr ⟨List.mem_of_getElem? (i := 55) (by decide +kernel), by decide +kernel⟩, by decide +kernel, by decide +kernel, by decide +kernel⟩
theorem mi_X4_clearDesk : Cond.instanceMethod yX4_clearDesk ∈ q_gw := List.mem_filter.mpr ⟨List.mem_of_getElem? (i := 312) (by decide +kernel), by decide +kernel⟩
abbrev mX4_full : q_M := (RX4, yX4_full, cX4_full, 1, (some .int))
theorem mt_X4_full : q_MT mX4_full 0 := ⟨List.mem_filter.mpr ⟨List.mem_of_getElem? (i := 318) (by decide +kernel), by decide +kernel⟩, List.mem_filter.mpr ⟨List.mem_of_getElem? (i := 55) (by decide +kernel), by decide +kernel⟩, by decide +kernel, by decide +kernel, by decide +kernel⟩
theorem mi_X4_full : Cond.instanceMethod yX4_full ∈ q_gw := List.mem_filter.mpr ⟨List.mem_of_getElem? (i := 316) (by decide +kernel), by decide +kernel⟩
abbrev mJ7_fill_53178 : q_M := (RJ7, yJ7_fill_53178, cJ7_fill_53178, 4, none)
theorem mt_J7_fill_53178 : q_MT mJ7_fill_53178 2 := ⟨List.mem_filter.mpr ⟨List.mem_of_getElem? (i := 321) (by decide +kernel), by decide +kernel⟩, List.mem_filter.mpr ⟨List.mem_of_getElem? (i := 57) (by decide +kernel), by decide +kernel⟩, by decide +kernel, by decide +kernel, by decide +kernel⟩
theorem ms_J7_fill_53178 : Cond.static yJ7_fill_53178 ∈ q_gw := List.mem_filter.mpr ⟨List.mem_of_getElem? (i := 320) (by decide +kernel), by decide +kernel⟩
abbrev mX8_admit : q_M := (RX8, yX8_admit, cX8_admit, 2, (some .int))
theorem mt_X8_admit : q_MT mX8_admit 1 := ⟨List.mem_filter.mpr ⟨List.mem_of_getElem? (i := 360) (by decide +kernel), by decide +kernel⟩, List.mem_filter.mpr ⟨List.mem_of_getElem? (i := 45) (by decide +kernel), by decide +kernel⟩, by decide +kernel, by decide +kernel, by decide +kernel⟩
theorem mi_X8_admit : Cond.instanceMethod yX8_admit ∈ q_gw := List.mem_filter.mpr ⟨List.mem_of_getElem? (i := 359) (by decide +kernel), by decide +kernel⟩
abbrev mX8_run : q_M := (RX8, yX8_run, cX8_run, 7, (some .int))
theorem mt_X8_run : q_MT mX8_run 4 := ⟨List.mem_filter.mpr ⟨List.mem_of_getElem? (i := 364) (by decide +kernel), by decide +kernel⟩, List.mem_filter.mpr ⟨List.mem_of_getElem? (i := 45) (by decide +kernel), by decide +kernel⟩, by decide +kernel, by decide +kernel, by decide +kernel⟩
theorem mi_X8_run : Cond.instanceMethod yX8_run ∈ q_gw := List.mem_filter.mpr ⟨List.mem_of_getElem? (i := 362) (by decide +kernel), by decide +kernel⟩
abbrev mX8_puzzleAt : q_M := (RX8, yX8_puzzleAt, cX8_puzzleAt, 2, (some (.object "RunPictures$Puzzle")))
theorem mt_X8_puzzleAt : q_MT mX8_puzzleAt 1 := ⟨List.mem_filter.mpr ⟨List.mem_of_getElem? (i := 368) (by decide +kernel), by decide +kernel⟩, List.mem_filter.mpr ⟨List.mem_of_getElem? (i := 45) (by decide +kernel), by decide +kernel⟩, by decide +kernel, by decide +kernel, by decide +kernel⟩
theorem mi_X8_puzzleAt : Cond.instanceMethod yX8_puzzleAt ∈ q_gw := List.mem_filter.mpr ⟨List.mem_of_getElem? (i := 367) (by decide +kernel), by decide +kernel⟩
abbrev mX8_lineAt : q_M := (RX8, yX8_lineAt, cX8_lineAt, 2, (some (.object "RunPictures$Line")))
theorem mt_X8_lineAt : q_MT mX8_lineAt 2 := ⟨List.mem_filter.mpr ⟨List.mem_of_getElem? (i := 371) (by decide +kernel), by decide +kernel⟩, List.mem_filter.mpr ⟨List.mem_of_getElem? (i := 45) (by decide +kernel), by decide +kernel⟩, by decide +kernel, by decide +kernel, by decide +kernel⟩
theorem ms_X8_lineAt : Cond.static yX8_lineAt ∈ q_gw := List.mem_filter.mpr ⟨List.mem_of_getElem? (i := 370) (by decide +kernel), by decide +kernel⟩
abbrev mX3_append : q_M := (RX3, yX3_append, cX3_append, 6, (some .boolean))
theorem mt_X3_append : q_MT mX3_append 2 := ⟨List.mem_filter.mpr ⟨List.mem_of_getElem? (i := 375) (by decide +kernel), by decide +kernel⟩, List.mem_filter.mpr ⟨List.mem_of_getElem? (i := 56) (by decide +kernel), by decide +kernel⟩, by decide +kernel, by decide +kernel, by decide +kernel⟩
theorem mi_X3_append : Cond.instanceMethod yX3_append ∈ q_gw := List.mem_filter.mpr ⟨List.mem_of_getElem? (i := 373) (by decide +kernel), by decide +kernel⟩
abbrev mX8_told : q_M := (RX8, yX8_told, cX8_told, 4, (some .int))
theorem mt_X8_told : q_MT mX8_told 2 := ⟨List.mem_filter.mpr ⟨List.mem_of_getElem? (i := 380) (by decide +kernel), by decide +kernel⟩, List.mem_filter.mpr ⟨List.mem_of_getElem? (i := 45) (by decide +kernel), by decide +kernel⟩, by decide +kernel, by decide +kernel, by decide +kernel⟩
theorem mi_X8_told : Cond.instanceMethod yX8_told ∈ q_gw := List.mem_filter.mpr ⟨List.mem_of_getElem? (i := 378) (by decide +kernel), by decide +kernel⟩
abbrev mX4_allRuns : q_M := (RX4, yX4_allRuns, cX4_allRuns, 3, (some .int))
theorem mt_X4_allRuns : q_MT mX4_allRuns 0 := ⟨List.mem_filter.mpr ⟨List.mem_of_getElem? (i := 384) (by decide +kernel), by decide +kernel⟩, List.mem_filter.mpr ⟨List.mem_of_getElem? (i := 55) (by decide +kernel), by decide +kernel⟩, by decide +kernel, by decide +kernel, by decide +kernel⟩
theorem mi_X4_allRuns : Cond.instanceMethod yX4_allRuns ∈ q_gw := List.mem_filter.mpr ⟨List.mem_of_getElem? (i := 382) (by decide +kernel), by decide +kernel⟩
abbrev mX4_decidedCells : q_M := (RX4, yX4_decidedCells, cX4_decidedCells, 4, (some .int))
theorem mt_X4_decidedCells : q_MT mX4_decidedCells 1 := ⟨List.mem_filter.mpr ⟨List.mem_of_getElem? (i := 388) (by decide +kernel), by decide +kernel⟩, List.mem_filter.mpr ⟨List.mem_of_getElem? (i := 55) (by decide +kernel), by decide +kernel⟩, by decide +kernel, by decide +kernel, by decide +kernel⟩
theorem mi_X4_decidedCells : Cond.instanceMethod yX4_decidedCells ∈ q_gw := List.mem_filter.mpr ⟨List.mem_of_getElem? (i := 386) (by decide +kernel), by decide +kernel⟩
abbrev mX8_isOne : q_M := (RX8, yX8_isOne, cX8_isOne, 1, (some .boolean))
theorem mt_X8_isOne : q_MT mX8_isOne 1 := ⟨List.mem_filter.mpr ⟨List.mem_of_getElem? (i := 391) (by decide +kernel), by decide +kernel⟩, List.mem_filter.mpr ⟨List.mem_of_getElem? (i := 45) (by decide +kernel), by decide +kernel⟩, by decide +kernel, by decide +kernel, by decide +kernel⟩
theorem ms_X8_isOne : Cond.static yX8_isOne ∈ q_gw := List.mem_filter.mpr ⟨List.mem_of_getElem? (i := 390) (by decide +kernel), by decide +kernel⟩
abbrev mJ6_bitCount_0f7a4 : q_M := (RJ6, yJ6_bitCount_0f7a4, cJ6_bitCount_0f7a4, 1, (some .int))
theorem mt_J6_bitCount_0f7a4 : q_MT mJ6_bitCount_0f7a4 1 := ⟨List.mem_filter.mpr ⟨List.mem_of_getElem? (i := 394) (by decide +kernel), by decide +kernel⟩, List.mem_filter.mpr ⟨List.mem_of_getElem? (i := 58) (by decide +kernel), by decide +kernel⟩, by decide +kernel, by decide +kernel, by decide +kernel⟩
theorem ms_J6_bitCount_0f7a4 : Cond.static yJ6_bitCount_0f7a4 ∈ q_gw := List.mem_filter.mpr ⟨List.mem_of_getElem? (i := 393) (by decide +kernel), by decide +kernel⟩
abbrev mX8_clue : q_M := (RX8, yX8_clue, cX8_clue, 6, (some .int))
theorem mt_X8_clue : q_MT mX8_clue 4 := ⟨List.mem_filter.mpr ⟨List.mem_of_getElem? (i := 401) (by decide +kernel), by decide +kernel⟩, List.mem_filter.mpr ⟨List.mem_of_getElem? (i := 45) (by decide +kernel), by decide +kernel⟩, by decide +kernel, by decide +kernel, by decide +kernel⟩
theorem mi_X8_clue : Cond.instanceMethod yX8_clue ∈ q_gw := List.mem_filter.mpr ⟨List.mem_of_getElem? (i := 399) (by decide +kernel), by decide +kernel⟩
abbrev mX8_fresh : q_M := (RX8, yX8_fresh, cX8_fresh, 3, (some .boolean))
theorem mt_X8_fresh : q_MT mX8_fresh 1 := ⟨List.mem_filter.mpr ⟨List.mem_of_getElem? (i := 405) (by decide +kernel), by decide +kernel⟩, List.mem_filter.mpr ⟨List.mem_of_getElem? (i := 45) (by decide +kernel), by decide +kernel⟩, by decide +kernel, by decide +kernel, by decide +kernel⟩
theorem mi_X8_fresh : Cond.instanceMethod yX8_fresh ∈ q_gw := List.mem_filter.mpr ⟨List.mem_of_getElem? (i := 403) (by decide +kernel), by decide +kernel⟩
abbrev mX8_choose : q_M := (RX8, yX8_choose, cX8_choose, 5, (some .boolean))
theorem mt_X8_choose : q_MT mX8_choose 3 := ⟨List.mem_filter.mpr ⟨List.mem_of_getElem? (i := 409) (by decide +kernel), by decide +kernel⟩, List.mem_filter.mpr ⟨List.mem_of_getElem? (i := 45) (by decide +kernel), by decide +kernel⟩, by decide +kernel, by decide +kernel, by decide +kernel⟩
theorem mi_X8_choose : Cond.instanceMethod yX8_choose ∈ q_gw := List.mem_filter.mpr ⟨List.mem_of_getElem? (i := 407) (by decide +kernel), by decide +kernel⟩
abbrev mX4_deskHolds : q_M := (RX4, yX4_deskHolds, cX4_deskHolds, 3, (some .boolean))
theorem mt_X4_deskHolds : q_MT mX4_deskHolds 2 := ⟨List.mem_filter.mpr ⟨List.mem_of_getElem? (i := 413) (by decide +kernel), by decide +kernel⟩, List.mem_filter.mpr ⟨List.mem_of_getElem? (i := 55) (by decide +kernel), by decide +kernel⟩, by decide +kernel, by decide +kernel, by decide +kernel⟩
theorem mi_X4_deskHolds : Cond.instanceMethod yX4_deskHolds ∈ q_gw := List.mem_filter.mpr ⟨List.mem_of_getElem? (i := 411) (by decide +kernel), by decide +kernel⟩
abbrev mX4_hasCell : q_M := (RX4, yX4_hasCell, cX4_hasCell, 2, (some .boolean))
theorem mt_X4_hasCell : q_MT mX4_hasCell 1 := ⟨List.mem_filter.mpr ⟨List.mem_of_getElem? (i := 417) (by decide +kernel), by decide +kernel⟩, List.mem_filter.mpr ⟨List.mem_of_getElem? (i := 55) (by decide +kernel), by decide +kernel⟩, by decide +kernel, by decide +kernel, by decide +kernel⟩
theorem mi_X4_hasCell : Cond.instanceMethod yX4_hasCell ∈ q_gw := List.mem_filter.mpr ⟨List.mem_of_getElem? (i := 415) (by decide +kernel), by decide +kernel⟩
abbrev mX8_bar : q_M := (RX8, yX8_bar, cX8_bar, 5, (some .boolean))
theorem mt_X8_bar : q_MT mX8_bar 3 := ⟨List.mem_filter.mpr ⟨List.mem_of_getElem? (i := 422) (by decide +kernel), by decide +kernel⟩, List.mem_filter.mpr ⟨List.mem_of_getElem? (i := 45) (by decide +kernel), by decide +kernel⟩, by decide +kernel, by decide +kernel, by decide +kernel⟩
theorem mi_X8_bar : Cond.instanceMethod yX8_bar ∈ q_gw := List.mem_filter.mpr ⟨List.mem_of_getElem? (i := 420) (by decide +kernel), by decide +kernel⟩
abbrev mX8_set : q_M := (RX8, yX8_set, cX8_set, 4, (some .int))
theorem mt_X8_set : q_MT mX8_set 2 := ⟨List.mem_filter.mpr ⟨List.mem_of_getElem? (i := 427) (by decide +kernel), by decide +kernel⟩, List.mem_filter.mpr ⟨List.mem_of_getElem? (i := 45) (by decide +kernel), by decide +kernel⟩, by decide +kernel, by decide +kernel, by decide +kernel⟩
theorem mi_X8_set : Cond.instanceMethod yX8_set ∈ q_gw := List.mem_filter.mpr ⟨List.mem_of_getElem? (i := 425) (by decide +kernel), by decide +kernel⟩
abbrev mX8_step : q_M := (RX8, yX8_step, cX8_step, 5, (some .int))
theorem mt_X8_step : q_MT mX8_step 2 := ⟨List.mem_filter.mpr ⟨List.mem_of_getElem? (i := 432) (by decide +kernel), by decide +kernel⟩, List.mem_filter.mpr ⟨List.mem_of_getElem? (i := 45) (by decide +kernel), by decide +kernel⟩, by decide +kernel, by decide +kernel, by decide +kernel⟩
theorem mi_X8_step : Cond.instanceMethod yX8_step ∈ q_gw := List.mem_filter.mpr ⟨List.mem_of_getElem? (i := 430) (by decide +kernel), by decide +kernel⟩
abbrev mX7_narrow : q_M := (RX7, yX7_narrow, cX7_narrow, 7, (some .int))
theorem mt_X7_narrow : q_MT mX7_narrow 2 := ⟨List.mem_filter.mpr ⟨List.mem_of_getElem? (i := 436) (by decide +kernel), by decide +kernel⟩, List.mem_filter.mpr ⟨List.mem_of_getElem? (i := 51) (by decide +kernel), by decide +kernel⟩, by decide +kernel, by decide +kernel, by decide +kernel⟩
theorem mi_X7_narrow : Cond.instanceMethod yX7_narrow ∈ q_gw := List.mem_filter.mpr ⟨List.mem_of_getElem? (i := 434) (by decide +kernel), by decide +kernel⟩
abbrev mX5_weigh : q_M := (RX5, yX5_weigh, cX5_weigh, 8, (some .boolean))
theorem mt_X5_weigh : q_MT mX5_weigh 2 := ⟨List.mem_filter.mpr ⟨List.mem_of_getElem? (i := 440) (by decide +kernel), by decide +kernel⟩, List.mem_filter.mpr ⟨List.mem_of_getElem? (i := 50) (by decide +kernel), by decide +kernel⟩, by decide +kernel, by decide +kernel, by decide +kernel⟩
theorem mi_X5_weigh : Cond.instanceMethod yX5_weigh ∈ q_gw := List.mem_filter.mpr ⟨List.mem_of_getElem? (i := 438) (by decide +kernel), by decide +kernel⟩
abbrev mX3_cellAt : q_M := (RX3, yX3_cellAt, cX3_cellAt, 2, (some .int))
theorem mt_X3_cellAt : q_MT mX3_cellAt 1 := ⟨List.mem_filter.mpr ⟨List.mem_of_getElem? (i := 444) (by decide +kernel), by decide +kernel⟩, List.mem_filter.mpr ⟨List.mem_of_getElem? (i := 56) (by decide +kernel), by decide +kernel⟩, by decide +kernel, by decide +kernel, by decide +kernel⟩
theorem mi_X3_cellAt : Cond.instanceMethod yX3_cellAt ∈ q_gw := List.mem_filter.mpr ⟨List.mem_of_getElem? (i := 442) (by decide +kernel), by decide +kernel⟩
abbrev mX5_coloursOf : q_M := (RX5, yX5_coloursOf, cX5_coloursOf, 4, (some .int))
theorem mt_X5_coloursOf : q_MT mX5_coloursOf 2 := ⟨List.mem_filter.mpr ⟨List.mem_of_getElem? (i := 447) (by decide +kernel), by decide +kernel⟩, List.mem_filter.mpr ⟨List.mem_of_getElem? (i := 50) (by decide +kernel), by decide +kernel⟩, by decide +kernel, by decide +kernel, by decide +kernel⟩
theorem ms_X5_coloursOf : Cond.static yX5_coloursOf ∈ q_gw := List.mem_filter.mpr ⟨List.mem_of_getElem? (i := 446) (by decide +kernel), by decide +kernel⟩
abbrev mX8_ways : q_M := (RX8, yX8_ways, cX8_ways, 5, (some .int))
theorem mt_X8_ways : q_MT mX8_ways 2 := ⟨List.mem_filter.mpr ⟨List.mem_of_getElem? (i := 453) (by decide +kernel), by decide +kernel⟩, List.mem_filter.mpr ⟨List.mem_of_getElem? (i := 45) (by decide +kernel), by decide +kernel⟩, by decide +kernel, by decide +kernel, by decide +kernel⟩
theorem mi_X8_ways : Cond.instanceMethod yX8_ways ∈ q_gw := List.mem_filter.mpr ⟨List.mem_of_getElem? (i := 451) (by decide +kernel), by decide +kernel⟩
abbrev mX5_countFillings : q_M := (RX5, yX5_countFillings, cX5_countFillings, 5, (some .int))
theorem mt_X5_countFillings : q_MT mX5_countFillings 2 := ⟨List.mem_filter.mpr ⟨List.mem_of_getElem? (i := 457) (by decide +kernel), by decide +kernel⟩, List.mem_filter.mpr ⟨List.mem_of_getElem? (i := 50) (by decide +kernel), by decide +kernel⟩, by decide +kernel, by decide +kernel, by decide +kernel⟩
theorem mi_X5_countFillings : Cond.instanceMethod yX5_countFillings ∈ q_gw := List.mem_filter.mpr ⟨List.mem_of_getElem? (i := 455) (by decide +kernel), by decide +kernel⟩
abbrev mX5_countOn : q_M := (RX5, yX5_countOn, cX5_countOn, 5, none)
theorem mt_X5_countOn : q_MT mX5_countOn 2 := ⟨List.mem_filter.mpr ⟨List.mem_of_getElem? (i := 462) (by decide +kernel), by decide +kernel⟩, List.mem_filter.mpr ⟨List.mem_of_getElem? (i := 50) (by decide +kernel), by decide +kernel⟩, by decide +kernel, by decide +kernel, by decide +kernel⟩
theorem mi_X5_countOn : Cond.instanceMethod yX5_countOn ∈ q_gw := List.mem_filter.mpr ⟨List.mem_of_getElem? (i := 461) (by decide +kernel), by decide +kernel⟩
abbrev mX8_settle : q_M := (RX8, yX8_settle, cX8_settle, 4, (some .int))
theorem mt_X8_settle : q_MT mX8_settle 1 := ⟨List.mem_filter.mpr ⟨List.mem_of_getElem? (i := 466) (by decide +kernel), by decide +kernel⟩, List.mem_filter.mpr ⟨List.mem_of_getElem? (i := 45) (by decide +kernel), by decide +kernel⟩, by decide +kernel, by decide +kernel, by decide +kernel⟩
theorem mi_X8_settle : Cond.instanceMethod yX8_settle ∈ q_gw := List.mem_filter.mpr ⟨List.mem_of_getElem? (i := 464) (by decide +kernel), by decide +kernel⟩
abbrev mX4_everyLine : q_M := (RX4, yX4_everyLine, cX4_everyLine, 1, (some .int))
theorem mt_X4_everyLine : q_MT mX4_everyLine 0 := ⟨List.mem_filter.mpr ⟨List.mem_of_getElem? (i := 473) (by decide +kernel), by decide +kernel⟩, List.mem_filter.mpr ⟨List.mem_of_getElem? (i := 55) (by decide +kernel), by decide +kernel⟩, by decide +kernel, by decide +kernel, by decide +kernel⟩
theorem mi_X4_everyLine : Cond.instanceMethod yX4_everyLine ∈ q_gw := List.mem_filter.mpr ⟨List.mem_of_getElem? (i := 471) (by decide +kernel), by decide +kernel⟩
abbrev mX7_bringToRest : q_M := (RX7, yX7_bringToRest, cX7_bringToRest, 9, (some .int))
theorem mt_X7_bringToRest : q_MT mX7_bringToRest 3 := ⟨List.mem_filter.mpr ⟨List.mem_of_getElem? (i := 477) (by decide +kernel), by decide +kernel⟩, List.mem_filter.mpr ⟨List.mem_of_getElem? (i := 51) (by decide +kernel), by decide +kernel⟩, by decide +kernel, by decide +kernel, by decide +kernel⟩
theorem mi_X7_bringToRest : Cond.instanceMethod yX7_bringToRest ∈ q_gw := List.mem_filter.mpr ⟨List.mem_of_getElem? (i := 475) (by decide +kernel), by decide +kernel⟩
abbrev mX8_search : q_M := (RX8, yX8_search, cX8_search, 5, (some .int))
theorem mt_X8_search : q_MT mX8_search 3 := ⟨List.mem_filter.mpr ⟨List.mem_of_getElem? (i := 483) (by decide +kernel), by decide +kernel⟩, List.mem_filter.mpr ⟨List.mem_of_getElem? (i := 45) (by decide +kernel), by decide +kernel⟩, by decide +kernel, by decide +kernel, by decide +kernel⟩
theorem mi_X8_search : Cond.instanceMethod yX8_search ∈ q_gw := List.mem_filter.mpr ⟨List.mem_of_getElem? (i := 481) (by decide +kernel), by decide +kernel⟩
abbrev mX6_seek : q_M := (RX6, yX6_seek, cX6_seek, 10, (some .int))
theorem mt_X6_seek : q_MT mX6_seek 3 := ⟨List.mem_filter.mpr ⟨List.mem_of_getElem? (i := 487) (by decide +kernel), by decide +kernel⟩, List.mem_filter.mpr ⟨List.mem_of_getElem? (i := 52) (by decide +kernel), by decide +kernel⟩, by decide +kernel, by decide +kernel, by decide +kernel⟩
theorem mi_X6_seek : Cond.instanceMethod yX6_seek ∈ q_gw := List.mem_filter.mpr ⟨List.mem_of_getElem? (i := 485) (by decide +kernel), by decide +kernel⟩
abbrev mX6_levelAt : q_M := (RX6, yX6_levelAt, cX6_levelAt, 2, (some (.object "RunPictures$Level")))
theorem mt_X6_levelAt : q_MT mX6_levelAt 1 := ⟨List.mem_filter.mpr ⟨List.mem_of_getElem? (i := 491) (by decide +kernel), by decide +kernel⟩, List.mem_filter.mpr ⟨List.mem_of_getElem? (i := 52) (by decide +kernel), by decide +kernel⟩, by decide +kernel, by decide +kernel, by decide +kernel⟩
theorem mi_X6_levelAt : Cond.instanceMethod yX6_levelAt ∈ q_gw := List.mem_filter.mpr ⟨List.mem_of_getElem? (i := 490) (by decide +kernel), by decide +kernel⟩
abbrev mX2_init : q_M := (RX2, yX2_init, cX2_init, 1, none)
theorem mt_X2_init : q_MT mX2_init 0 := ⟨List.mem_filter.mpr ⟨List.mem_of_getElem? (i := 495) (by decide +kernel), by decide +kernel⟩, List.mem_filter.mpr ⟨List.mem_of_getElem? (i := 60) (by decide +kernel), by decide +kernel⟩, by decide +kernel, by decide +kernel, by decide +kernel⟩
theorem mi_X2_init : Cond.instanceMethod yX2_init ∈ q_gw := List.mem_filter.mpr ⟨List.mem_of_getElem? (i := 494) (by decide +kernel), by decide +kernel⟩
abbrev mX6_staysOpen : q_M := (RX6, yX6_staysOpen, cX6_staysOpen, 4, (some .boolean))
theorem mt_X6_staysOpen : q_MT mX6_staysOpen 3 := ⟨List.mem_filter.mpr ⟨List.mem_of_getElem? (i := 514) (by decide +kernel), by decide +kernel⟩, List.mem_filter.mpr ⟨List.mem_of_getElem? (i := 52) (by decide +kernel), by decide +kernel⟩, by decide +kernel, by decide +kernel, by decide +kernel⟩
theorem mi_X6_staysOpen : Cond.instanceMethod yX6_staysOpen ∈ q_gw := List.mem_filter.mpr ⟨List.mem_of_getElem? (i := 513) (by decide +kernel), by decide +kernel⟩
abbrev mX6_keepPicture : q_M := (RX6, yX6_keepPicture, cX6_keepPicture, 3, none)
theorem mt_X6_keepPicture : q_MT mX6_keepPicture 1 := ⟨List.mem_filter.mpr ⟨List.mem_of_getElem? (i := 520) (by decide +kernel), by decide +kernel⟩, List.mem_filter.mpr ⟨List.mem_of_getElem? (i := 52) (by decide +kernel), by decide +kernel⟩, by decide +kernel, by decide +kernel, by decide +kernel⟩
theorem mi_X6_keepPicture : Cond.instanceMethod yX6_keepPicture ∈ q_gw := List.mem_filter.mpr ⟨List.mem_of_getElem? (i := 519) (by decide +kernel), by decide +kernel⟩
abbrev mX8_firstOf : q_M := (RX8, yX8_firstOf, cX8_firstOf, 2, (some .int))
theorem mt_X8_firstOf : q_MT mX8_firstOf 1 := ⟨List.mem_filter.mpr ⟨List.mem_of_getElem? (i := 523) (by decide +kernel), by decide +kernel⟩, List.mem_filter.mpr ⟨List.mem_of_getElem? (i := 45) (by decide +kernel), by decide +kernel⟩, by decide +kernel, by decide +kernel, by decide +kernel⟩
theorem ms_X8_firstOf : Cond.static yX8_firstOf ∈ q_gw := List.mem_filter.mpr ⟨List.mem_of_getElem? (i := 522) (by decide +kernel), by decide +kernel⟩
abbrev mX2_pickCell : q_M := (RX2, yX2_pickCell, cX2_pickCell, 5, none)
theorem mt_X2_pickCell : q_MT mX2_pickCell 1 := ⟨List.mem_filter.mpr ⟨List.mem_of_getElem? (i := 528) (by decide +kernel), by decide +kernel⟩, List.mem_filter.mpr ⟨List.mem_of_getElem? (i := 60) (by decide +kernel), by decide +kernel⟩, by decide +kernel, by decide +kernel, by decide +kernel⟩
theorem mi_X2_pickCell : Cond.instanceMethod yX2_pickCell ∈ q_gw := List.mem_filter.mpr ⟨List.mem_of_getElem? (i := 526) (by decide +kernel), by decide +kernel⟩
abbrev mX2_takeColour : q_M := (RX2, yX2_takeColour, cX2_takeColour, 2, (some .int))
theorem mt_X2_takeColour : q_MT mX2_takeColour 0 := ⟨List.mem_filter.mpr ⟨List.mem_of_getElem? (i := 534) (by decide +kernel), by decide +kernel⟩, List.mem_filter.mpr ⟨List.mem_of_getElem? (i := 60) (by decide +kernel), by decide +kernel⟩, by decide +kernel, by decide +kernel, by decide +kernel⟩
theorem mi_X2_takeColour : Cond.instanceMethod yX2_takeColour ∈ q_gw := List.mem_filter.mpr ⟨List.mem_of_getElem? (i := 532) (by decide +kernel), by decide +kernel⟩
abbrev mX4_linesThrough : q_M := (RX4, yX4_linesThrough, cX4_linesThrough, 3, (some .int))
theorem mt_X4_linesThrough : q_MT mX4_linesThrough 1 := ⟨List.mem_filter.mpr ⟨List.mem_of_getElem? (i := 539) (by decide +kernel), by decide +kernel⟩, List.mem_filter.mpr ⟨List.mem_of_getElem? (i := 55) (by decide +kernel), by decide +kernel⟩, by decide +kernel, by decide +kernel, by decide +kernel⟩
theorem mi_X4_linesThrough : Cond.instanceMethod yX4_linesThrough ∈ q_gw := List.mem_filter.mpr ⟨List.mem_of_getElem? (i := 537) (by decide +kernel), by decide +kernel⟩
abbrev mX8_found : q_M := (RX8, yX8_found, cX8_found, 2, (some .int))
theorem mt_X8_found : q_MT mX8_found 1 := ⟨List.mem_filter.mpr ⟨List.mem_of_getElem? (i := 543) (by decide +kernel), by decide +kernel⟩, List.mem_filter.mpr ⟨List.mem_of_getElem? (i := 45) (by decide +kernel), by decide +kernel⟩, by decide +kernel, by decide +kernel, by decide +kernel⟩
theorem mi_X8_found : Cond.instanceMethod yX8_found ∈ q_gw := List.mem_filter.mpr ⟨List.mem_of_getElem? (i := 541) (by decide +kernel), by decide +kernel⟩
abbrev mX8_picture : q_M := (RX8, yX8_picture, cX8_picture, 3, (some .int))
theorem mt_X8_picture : q_MT mX8_picture 2 := ⟨List.mem_filter.mpr ⟨List.mem_of_getElem? (i := 547) (by decide +kernel), by decide +kernel⟩, List.mem_filter.mpr ⟨List.mem_of_getElem? (i := 45) (by decide +kernel), by decide +kernel⟩, by decide +kernel, by decide +kernel, by decide +kernel⟩
theorem mi_X8_picture : Cond.instanceMethod yX8_picture ∈ q_gw := List.mem_filter.mpr ⟨List.mem_of_getElem? (i := 545) (by decide +kernel), by decide +kernel⟩
abbrev mX8_grade : q_M := (RX8, yX8_grade, cX8_grade, 3, (some .int))
theorem mt_X8_grade : q_MT mX8_grade 1 := ⟨List.mem_filter.mpr ⟨List.mem_of_getElem? (i := 551) (by decide +kernel), by decide +kernel⟩, List.mem_filter.mpr ⟨List.mem_of_getElem? (i := 45) (by decide +kernel), by decide +kernel⟩, by decide +kernel, by decide +kernel, by decide +kernel⟩
theorem mi_X8_grade : Cond.instanceMethod yX8_grade ∈ q_gw := List.mem_filter.mpr ⟨List.mem_of_getElem? (i := 549) (by decide +kernel), by decide +kernel⟩
abbrev mX1_assess : q_M := (RX1, yX1_assess, cX1_assess, 4, (some .int))
theorem mt_X1_assess : q_MT mX1_assess 1 := ⟨List.mem_filter.mpr ⟨List.mem_of_getElem? (i := 555) (by decide +kernel), by decide +kernel⟩, List.mem_filter.mpr ⟨List.mem_of_getElem? (i := 53) (by decide +kernel), by decide +kernel⟩, by decide +kernel, by decide +kernel, by decide +kernel⟩
theorem mi_X1_assess : Cond.instanceMethod yX1_assess ∈ q_gw := List.mem_filter.mpr ⟨List.mem_of_getElem? (i := 553) (by decide +kernel), by decide +kernel⟩
abbrev mX1_passOfProbes : q_M := (RX1, yX1_passOfProbes, cX1_passOfProbes, 5, (some .int))
theorem mt_X1_passOfProbes : q_MT mX1_passOfProbes 1 := ⟨List.mem_filter.mpr ⟨List.mem_of_getElem? (i := 565) (by decide +kernel), by decide +kernel⟩, List.mem_filter.mpr ⟨List.mem_of_getElem? (i := 53) (by decide +kernel), by decide +kernel⟩, by decide +kernel, by decide +kernel, by decide +kernel⟩
theorem mi_X1_passOfProbes : Cond.instanceMethod yX1_passOfProbes ∈ q_gw := List.mem_filter.mpr ⟨List.mem_of_getElem? (i := 564) (by decide +kernel), by decide +kernel⟩
abbrev mX8_probes : q_M := (RX8, yX8_probes, cX8_probes, 1, (some .int))
theorem mt_X8_probes : q_MT mX8_probes 0 := ⟨List.mem_filter.mpr ⟨List.mem_of_getElem? (i := 573) (by decide +kernel), by decide +kernel⟩, List.mem_filter.mpr ⟨List.mem_of_getElem? (i := 45) (by decide +kernel), by decide +kernel⟩, by decide +kernel, by decide +kernel, by decide +kernel⟩
theorem mi_X8_probes : Cond.instanceMethod yX8_probes ∈ q_gw := List.mem_filter.mpr ⟨List.mem_of_getElem? (i := 571) (by decide +kernel), by decide +kernel⟩
abbrev mX8_paint : q_M := (RX8, yX8_paint, cX8_paint, 4, (some .boolean))
theorem mt_X8_paint : q_MT mX8_paint 3 := ⟨List.mem_filter.mpr ⟨List.mem_of_getElem? (i := 577) (by decide +kernel), by decide +kernel⟩, List.mem_filter.mpr ⟨List.mem_of_getElem? (i := 45) (by decide +kernel), by decide +kernel⟩, by decide +kernel, by decide +kernel, by decide +kernel⟩
theorem mi_X8_paint : Cond.instanceMethod yX8_paint ∈ q_gw := List.mem_filter.mpr ⟨List.mem_of_getElem? (i := 575) (by decide +kernel), by decide +kernel⟩
abbrev mX8_make : q_M := (RX8, yX8_make, cX8_make, 6, (some .int))
theorem mt_X8_make : q_MT mX8_make 3 := ⟨List.mem_filter.mpr ⟨List.mem_of_getElem? (i := 581) (by decide +kernel), by decide +kernel⟩, List.mem_filter.mpr ⟨List.mem_of_getElem? (i := 45) (by decide +kernel), by decide +kernel⟩, by decide +kernel, by decide +kernel, by decide +kernel⟩
theorem mi_X8_make : Cond.instanceMethod yX8_make ∈ q_gw := List.mem_filter.mpr ⟨List.mem_of_getElem? (i := 579) (by decide +kernel), by decide +kernel⟩
abbrev mX8_cutCanvas : q_M := (RX8, yX8_cutCanvas, cX8_cutCanvas, 7, (some .boolean))
theorem mt_X8_cutCanvas : q_MT mX8_cutCanvas 3 := ⟨List.mem_filter.mpr ⟨List.mem_of_getElem? (i := 585) (by decide +kernel), by decide +kernel⟩, List.mem_filter.mpr ⟨List.mem_of_getElem? (i := 45) (by decide +kernel), by decide +kernel⟩, by decide +kernel, by decide +kernel, by decide +kernel⟩
theorem mi_X8_cutCanvas : Cond.instanceMethod yX8_cutCanvas ∈ q_gw := List.mem_filter.mpr ⟨List.mem_of_getElem? (i := 584) (by decide +kernel), by decide +kernel⟩
abbrev mX3_readRuns : q_M := (RX3, yX3_readRuns, cX3_readRuns, 6, none)
theorem mt_X3_readRuns : q_MT mX3_readRuns 1 := ⟨List.mem_filter.mpr ⟨List.mem_of_getElem? (i := 589) (by decide +kernel), by decide +kernel⟩, List.mem_filter.mpr ⟨List.mem_of_getElem? (i := 56) (by decide +kernel), by decide +kernel⟩, by decide +kernel, by decide +kernel, by decide +kernel⟩
theorem mi_X3_readRuns : Cond.instanceMethod yX3_readRuns ∈ q_gw := List.mem_filter.mpr ⟨List.mem_of_getElem? (i := 587) (by decide +kernel), by decide +kernel⟩
abbrev mX8_turn : q_M := (RX8, yX8_turn, cX8_turn, 4, (some .int))
theorem mt_X8_turn : q_MT mX8_turn 2 := ⟨List.mem_filter.mpr ⟨List.mem_of_getElem? (i := 595) (by decide +kernel), by decide +kernel⟩, List.mem_filter.mpr ⟨List.mem_of_getElem? (i := 45) (by decide +kernel), by decide +kernel⟩, by decide +kernel, by decide +kernel, by decide +kernel⟩
theorem mi_X8_turn : Cond.instanceMethod yX8_turn ∈ q_gw := List.mem_filter.mpr ⟨List.mem_of_getElem? (i := 593) (by decide +kernel), by decide +kernel⟩
abbrev mX4_turned : q_M := (RX4, yX4_turned, cX4_turned, 6, (some (.object "RunPictures$Puzzle")))
theorem mt_X4_turned : q_MT mX4_turned 1 := ⟨List.mem_filter.mpr ⟨List.mem_of_getElem? (i := 599) (by decide +kernel), by decide +kernel⟩, List.mem_filter.mpr ⟨List.mem_of_getElem? (i := 55) (by decide +kernel), by decide +kernel⟩, by decide +kernel, by decide +kernel, by decide +kernel⟩
theorem mi_X4_turned : Cond.instanceMethod yX4_turned ∈ q_gw := List.mem_filter.mpr ⟨List.mem_of_getElem? (i := 597) (by decide +kernel), by decide +kernel⟩
abbrev mX4_sourceOf : q_M := (RX4, yX4_sourceOf, cX4_sourceOf, 7, (some .int))
theorem mt_X4_sourceOf : q_MT mX4_sourceOf 2 := ⟨List.mem_filter.mpr ⟨List.mem_of_getElem? (i := 605) (by decide +kernel), by decide +kernel⟩, List.mem_filter.mpr ⟨List.mem_of_getElem? (i := 55) (by decide +kernel), by decide +kernel⟩, by decide +kernel, by decide +kernel, by decide +kernel⟩
theorem mi_X4_sourceOf : Cond.instanceMethod yX4_sourceOf ∈ q_gw := List.mem_filter.mpr ⟨List.mem_of_getElem? (i := 604) (by decide +kernel), by decide +kernel⟩
abbrev mX4_isBackwards : q_M := (RX4, yX4_isBackwards, cX4_isBackwards, 3, (some .boolean))
theorem mt_X4_isBackwards : q_MT mX4_isBackwards 2 := ⟨List.mem_filter.mpr ⟨List.mem_of_getElem? (i := 609) (by decide +kernel), by decide +kernel⟩, List.mem_filter.mpr ⟨List.mem_of_getElem? (i := 55) (by decide +kernel), by decide +kernel⟩, by decide +kernel, by decide +kernel, by decide +kernel⟩
theorem mi_X4_isBackwards : Cond.instanceMethod yX4_isBackwards ∈ q_gw := List.mem_filter.mpr ⟨List.mem_of_getElem? (i := 608) (by decide +kernel), by decide +kernel⟩
abbrev mX3_copyRuns : q_M := (RX3, yX3_copyRuns, cX3_copyRuns, 5, none)
theorem mt_X3_copyRuns : q_MT mX3_copyRuns 2 := ⟨List.mem_filter.mpr ⟨List.mem_of_getElem? (i := 613) (by decide +kernel), by decide +kernel⟩, List.mem_filter.mpr ⟨List.mem_of_getElem? (i := 56) (by decide +kernel), by decide +kernel⟩, by decide +kernel, by decide +kernel, by decide +kernel⟩
theorem mi_X3_copyRuns : Cond.instanceMethod yX3_copyRuns ∈ q_gw := List.mem_filter.mpr ⟨List.mem_of_getElem? (i := 611) (by decide +kernel), by decide +kernel⟩
abbrev mX8_same : q_M := (RX8, yX8_same, cX8_same, 6, (some .int))
theorem mt_X8_same : q_MT mX8_same 2 := ⟨List.mem_filter.mpr ⟨List.mem_of_getElem? (i := 617) (by decide +kernel), by decide +kernel⟩, List.mem_filter.mpr ⟨List.mem_of_getElem? (i := 45) (by decide +kernel), by decide +kernel⟩, by decide +kernel, by decide +kernel, by decide +kernel⟩
theorem mi_X8_same : Cond.instanceMethod yX8_same ∈ q_gw := List.mem_filter.mpr ⟨List.mem_of_getElem? (i := 615) (by decide +kernel), by decide +kernel⟩
abbrev mX4_turnsInto : q_M := (RX4, yX4_turnsInto, cX4_turnsInto, 6, (some .boolean))
theorem mt_X4_turnsInto : q_MT mX4_turnsInto 2 := ⟨List.mem_filter.mpr ⟨List.mem_of_getElem? (i := 621) (by decide +kernel), by decide +kernel⟩, List.mem_filter.mpr ⟨List.mem_of_getElem? (i := 55) (by decide +kernel), by decide +kernel⟩, by decide +kernel, by decide +kernel, by decide +kernel⟩
theorem mi_X4_turnsInto : Cond.instanceMethod yX4_turnsInto ∈ q_gw := List.mem_filter.mpr ⟨List.mem_of_getElem? (i := 619) (by decide +kernel), by decide +kernel⟩
abbrev mX3_hasRunsOf : q_M := (RX3, yX3_hasRunsOf, cX3_hasRunsOf, 5, (some .boolean))
theorem mt_X3_hasRunsOf : q_MT mX3_hasRunsOf 2 := ⟨List.mem_filter.mpr ⟨List.mem_of_getElem? (i := 625) (by decide +kernel), by decide +kernel⟩, List.mem_filter.mpr ⟨List.mem_of_getElem? (i := 56) (by decide +kernel), by decide +kernel⟩, by decide +kernel, by decide +kernel, by decide +kernel⟩
theorem mi_X3_hasRunsOf : Cond.instanceMethod yX3_hasRunsOf ∈ q_gw := List.mem_filter.mpr ⟨List.mem_of_getElem? (i := 623) (by decide +kernel), by decide +kernel⟩
abbrev mX8_game : q_M := (RX8, yX8_game, cX8_game, 3, (some .int))
theorem mt_X8_game : q_MT mX8_game 1 := ⟨List.mem_filter.mpr ⟨List.mem_of_getElem? (i := 629) (by decide +kernel), by decide +kernel⟩, List.mem_filter.mpr ⟨List.mem_of_getElem? (i := 45) (by decide +kernel), by decide +kernel⟩, by decide +kernel, by decide +kernel, by decide +kernel⟩
theorem mi_X8_game : Cond.instanceMethod yX8_game ∈ q_gw := List.mem_filter.mpr ⟨List.mem_of_getElem? (i := 627) (by decide +kernel), by decide +kernel⟩
abbrev mX0_init : q_M := (RX0, yX0_init, cX0_init, 3, none)
theorem mt_X0_init : q_MT mX0_init 2 := ⟨List.mem_filter.mpr ⟨List.mem_of_getElem? (i := 633) (by decide +kernel), by decide +kernel⟩, List.mem_filter.mpr ⟨List.mem_of_getElem? (i := 61) (by decide +kernel), by decide +kernel⟩, by decide +kernel, by decide +kernel, by decide +kernel⟩
theorem mi_X0_init : Cond.instanceMethod yX0_init ∈ q_gw := List.mem_filter.mpr ⟨List.mem_of_getElem? (i := 632) (by decide +kernel), by decide +kernel⟩
abbrev mX8_mark : q_M := (RX8, yX8_mark, cX8_mark, 5, (some .boolean))
theorem mt_X8_mark : q_MT mX8_mark 3 := ⟨List.mem_filter.mpr ⟨List.mem_of_getElem? (i := 673) (by decide +kernel), by decide +kernel⟩, List.mem_filter.mpr ⟨List.mem_of_getElem? (i := 45) (by decide +kernel), by decide +kernel⟩, by decide +kernel, by decide +kernel, by decide +kernel⟩
theorem mi_X8_mark : Cond.instanceMethod yX8_mark ∈ q_gw := List.mem_filter.mpr ⟨List.mem_of_getElem? (i := 671) (by decide +kernel), by decide +kernel⟩
abbrev mX8_gameAt : q_M := (RX8, yX8_gameAt, cX8_gameAt, 2, (some (.object "RunPictures$Game")))
theorem mt_X8_gameAt : q_MT mX8_gameAt 1 := ⟨List.mem_filter.mpr ⟨List.mem_of_getElem? (i := 677) (by decide +kernel), by decide +kernel⟩, List.mem_filter.mpr ⟨List.mem_of_getElem? (i := 45) (by decide +kernel), by decide +kernel⟩, by decide +kernel, by decide +kernel, by decide +kernel⟩
theorem mi_X8_gameAt : Cond.instanceMethod yX8_gameAt ∈ q_gw := List.mem_filter.mpr ⟨List.mem_of_getElem? (i := 676) (by decide +kernel), by decide +kernel⟩
abbrev mX0_change : q_M := (RX0, yX0_change, cX0_change, 3, (some .boolean))
theorem mt_X0_change : q_MT mX0_change 2 := ⟨List.mem_filter.mpr ⟨List.mem_of_getElem? (i := 681) (by decide +kernel), by decide +kernel⟩, List.mem_filter.mpr ⟨List.mem_of_getElem? (i := 61) (by decide +kernel), by decide +kernel⟩, by decide +kernel, by decide +kernel, by decide +kernel⟩
theorem mi_X0_change : Cond.instanceMethod yX0_change ∈ q_gw := List.mem_filter.mpr ⟨List.mem_of_getElem? (i := 679) (by decide +kernel), by decide +kernel⟩
abbrev mX8_marked : q_M := (RX8, yX8_marked, cX8_marked, 4, (some .int))
theorem mt_X8_marked : q_MT mX8_marked 2 := ⟨List.mem_filter.mpr ⟨List.mem_of_getElem? (i := 685) (by decide +kernel), by decide +kernel⟩, List.mem_filter.mpr ⟨List.mem_of_getElem? (i := 45) (by decide +kernel), by decide +kernel⟩, by decide +kernel, by decide +kernel, by decide +kernel⟩
theorem mi_X8_marked : Cond.instanceMethod yX8_marked ∈ q_gw := List.mem_filter.mpr ⟨List.mem_of_getElem? (i := 683) (by decide +kernel), by decide +kernel⟩
abbrev mX8_undo : q_M := (RX8, yX8_undo, cX8_undo, 3, (some .int))
theorem mt_X8_undo : q_MT mX8_undo 1 := ⟨List.mem_filter.mpr ⟨List.mem_of_getElem? (i := 689) (by decide +kernel), by decide +kernel⟩, List.mem_filter.mpr ⟨List.mem_of_getElem? (i := 45) (by decide +kernel), by decide +kernel⟩, by decide +kernel, by decide +kernel, by decide +kernel⟩
theorem mi_X8_undo : Cond.instanceMethod yX8_undo ∈ q_gw := List.mem_filter.mpr ⟨List.mem_of_getElem? (i := 687) (by decide +kernel), by decide +kernel⟩
abbrev mX0_takeBack : q_M := (RX0, yX0_takeBack, cX0_takeBack, 2, (some .int))
theorem mt_X0_takeBack : q_MT mX0_takeBack 0 := ⟨List.mem_filter.mpr ⟨List.mem_of_getElem? (i := 693) (by decide +kernel), by decide +kernel⟩, List.mem_filter.mpr ⟨List.mem_of_getElem? (i := 61) (by decide +kernel), by decide +kernel⟩, by decide +kernel, by decide +kernel, by decide +kernel⟩
theorem mi_X0_takeBack : Cond.instanceMethod yX0_takeBack ∈ q_gw := List.mem_filter.mpr ⟨List.mem_of_getElem? (i := 691) (by decide +kernel), by decide +kernel⟩
abbrev mX8_redo : q_M := (RX8, yX8_redo, cX8_redo, 3, (some .int))
theorem mt_X8_redo : q_MT mX8_redo 1 := ⟨List.mem_filter.mpr ⟨List.mem_of_getElem? (i := 697) (by decide +kernel), by decide +kernel⟩, List.mem_filter.mpr ⟨List.mem_of_getElem? (i := 45) (by decide +kernel), by decide +kernel⟩, by decide +kernel, by decide +kernel, by decide +kernel⟩
theorem mi_X8_redo : Cond.instanceMethod yX8_redo ∈ q_gw := List.mem_filter.mpr ⟨List.mem_of_getElem? (i := 695) (by decide +kernel), by decide +kernel⟩
abbrev mX0_doAgain : q_M := (RX0, yX0_doAgain, cX0_doAgain, 2, (some .int))
theorem mt_X0_doAgain : q_MT mX0_doAgain 0 := ⟨List.mem_filter.mpr ⟨List.mem_of_getElem? (i := 701) (by decide +kernel), by decide +kernel⟩, List.mem_filter.mpr ⟨List.mem_of_getElem? (i := 61) (by decide +kernel), by decide +kernel⟩, by decide +kernel, by decide +kernel, by decide +kernel⟩
theorem mi_X0_doAgain : Cond.instanceMethod yX0_doAgain ∈ q_gw := List.mem_filter.mpr ⟨List.mem_of_getElem? (i := 699) (by decide +kernel), by decide +kernel⟩
abbrev mX8_hint : q_M := (RX8, yX8_hint, cX8_hint, 4, (some .int))
theorem mt_X8_hint : q_MT mX8_hint 1 := ⟨List.mem_filter.mpr ⟨List.mem_of_getElem? (i := 705) (by decide +kernel), by decide +kernel⟩, List.mem_filter.mpr ⟨List.mem_of_getElem? (i := 45) (by decide +kernel), by decide +kernel⟩, by decide +kernel, by decide +kernel, by decide +kernel⟩
theorem mi_X8_hint : Cond.instanceMethod yX8_hint ∈ q_gw := List.mem_filter.mpr ⟨List.mem_of_getElem? (i := 703) (by decide +kernel), by decide +kernel⟩
abbrev mX8_adviceFor : q_M := (RX8, yX8_adviceFor, cX8_adviceFor, 6, (some .int))
theorem mt_X8_adviceFor : q_MT mX8_adviceFor 1 := ⟨List.mem_filter.mpr ⟨List.mem_of_getElem? (i := 709) (by decide +kernel), by decide +kernel⟩, List.mem_filter.mpr ⟨List.mem_of_getElem? (i := 45) (by decide +kernel), by decide +kernel⟩, by decide +kernel, by decide +kernel, by decide +kernel⟩
theorem mi_X8_adviceFor : Cond.instanceMethod yX8_adviceFor ∈ q_gw := List.mem_filter.mpr ⟨List.mem_of_getElem? (i := 708) (by decide +kernel), by decide +kernel⟩
abbrev mX0_marksAsSets : q_M := (RX0, yX0_marksAsSets, cX0_marksAsSets, 3, none)
theorem mt_X0_marksAsSets : q_MT mX0_marksAsSets 1 := ⟨List.mem_filter.mpr ⟨List.mem_of_getElem? (i := 713) (by decide +kernel), by decide +kernel⟩, List.mem_filter.mpr ⟨List.mem_of_getElem? (i := 61) (by decide +kernel), by decide +kernel⟩, by decide +kernel, by decide +kernel, by decide +kernel⟩
theorem mi_X0_marksAsSets : Cond.instanceMethod yX0_marksAsSets ∈ q_gw := List.mem_filter.mpr ⟨List.mem_of_getElem? (i := 711) (by decide +kernel), by decide +kernel⟩
abbrev mX8_state : q_M := (RX8, yX8_state, cX8_state, 4, (some .int))
theorem mt_X8_state : q_MT mX8_state 2 := ⟨List.mem_filter.mpr ⟨List.mem_of_getElem? (i := 721) (by decide +kernel), by decide +kernel⟩, List.mem_filter.mpr ⟨List.mem_of_getElem? (i := 45) (by decide +kernel), by decide +kernel⟩, by decide +kernel, by decide +kernel, by decide +kernel⟩
theorem mi_X8_state : Cond.instanceMethod yX8_state ∈ q_gw := List.mem_filter.mpr ⟨List.mem_of_getElem? (i := 719) (by decide +kernel), by decide +kernel⟩
abbrev mX0_markedCells : q_M := (RX0, yX0_markedCells, cX0_markedCells, 3, (some .int))
theorem mt_X0_markedCells : q_MT mX0_markedCells 0 := ⟨List.mem_filter.mpr ⟨List.mem_of_getElem? (i := 725) (by decide +kernel), by decide +kernel⟩, List.mem_filter.mpr ⟨List.mem_of_getElem? (i := 61) (by decide +kernel), by decide +kernel⟩, by decide +kernel, by decide +kernel, by decide +kernel⟩
theorem mi_X0_markedCells : Cond.instanceMethod yX0_markedCells ∈ q_gw := List.mem_filter.mpr ⟨List.mem_of_getElem? (i := 723) (by decide +kernel), by decide +kernel⟩
abbrev mX8_brokenLines : q_M := (RX8, yX8_brokenLines, cX8_brokenLines, 5, (some .int))
theorem mt_X8_brokenLines : q_MT mX8_brokenLines 1 := ⟨List.mem_filter.mpr ⟨List.mem_of_getElem? (i := 729) (by decide +kernel), by decide +kernel⟩, List.mem_filter.mpr ⟨List.mem_of_getElem? (i := 45) (by decide +kernel), by decide +kernel⟩, by decide +kernel, by decide +kernel, by decide +kernel⟩
theorem mi_X8_brokenLines : Cond.instanceMethod yX8_brokenLines ∈ q_gw := List.mem_filter.mpr ⟨List.mem_of_getElem? (i := 728) (by decide +kernel), by decide +kernel⟩
abbrev mX8_write : q_M := (RX8, yX8_write, cX8_write, 5, (some .int))
theorem mt_X8_write : q_MT mX8_write 2 := ⟨List.mem_filter.mpr ⟨List.mem_of_getElem? (i := 733) (by decide +kernel), by decide +kernel⟩, List.mem_filter.mpr ⟨List.mem_of_getElem? (i := 45) (by decide +kernel), by decide +kernel⟩, by decide +kernel, by decide +kernel, by decide +kernel⟩
theorem mi_X8_write : Cond.instanceMethod yX8_write ∈ q_gw := List.mem_filter.mpr ⟨List.mem_of_getElem? (i := 731) (by decide +kernel), by decide +kernel⟩
abbrev mJ4_setLength_d00df : q_M := (RJ4, yJ4_setLength_d00df, cJ4_setLength_d00df, 2, none)
theorem mt_J4_setLength_d00df : q_MT mJ4_setLength_d00df 1 := ⟨List.mem_filter.mpr ⟨List.mem_of_getElem? (i := 737) (by decide +kernel), by decide +kernel⟩, List.mem_filter.mpr ⟨List.mem_of_getElem? (i := 47) (by decide +kernel), by decide +kernel⟩, by decide +kernel, by decide +kernel, by decide +kernel⟩
theorem mi_J4_setLength_d00df : Cond.instanceMethod yJ4_setLength_d00df ∈ q_gw := List.mem_filter.mpr ⟨List.mem_of_getElem? (i := 735) (by decide +kernel), by decide +kernel⟩
abbrev mJ5_setLength_d00df : q_M := (RJ5, yJ5_setLength_d00df, cJ5_setLength_d00df, 2, none)
theorem mt_J5_setLength_d00df : q_MT mJ5_setLength_d00df 1 := ⟨List.mem_filter.mpr ⟨List.mem_of_getElem? (i := 740) (by decide +kernel), by decide +kernel⟩, List.mem_filter.mpr ⟨List.mem_of_getElem? (i := 46) (by decide +kernel), by decide +kernel⟩, by decide +kernel, by decide +kernel, by decide +kernel⟩
theorem mi_J5_setLength_d00df : Cond.instanceMethod yJ5_setLength_d00df ∈ q_gw := List.mem_filter.mpr ⟨List.mem_of_getElem? (i := 739) (by decide +kernel), by decide +kernel⟩
abbrev mJ5_ensureCapacityInternal_d00df : q_M := (RJ5, yJ5_ensureCapacityInternal_d00df, cJ5_ensureCapacityInternal_d00df, 3, none)
theorem mt_J5_ensureCapacityInternal_d00df : q_MT mJ5_ensureCapacityInternal_d00df 1 := ⟨List.mem_filter.mpr ⟨List.mem_of_getElem? (i := 744) (by decide +kernel), by decide +kernel⟩, List.mem_filter.mpr ⟨List.mem_of_getElem? (i := 46) (by decide +kernel), by decide +kernel⟩, by decide +kernel, by decide +kernel, by decide +kernel⟩
theorem mi_J5_ensureCapacityInternal_d00df : Cond.instanceMethod yJ5_ensureCapacityInternal_d00df ∈ q_gw := List.mem_filter.mpr ⟨List.mem_of_getElem? (i := 743) (by decide +kernel), by decide +kernel⟩
abbrev mJ5_newCapacity_0f7a4 : q_M := (RJ5, yJ5_newCapacity_0f7a4, cJ5_newCapacity_0f7a4, 6, (some .int))
theorem mt_J5_newCapacity_0f7a4 : q_MT mJ5_newCapacity_0f7a4 1 := ⟨List.mem_filter.mpr ⟨List.mem_of_getElem? (i := 748) (by decide +kernel), by decide +kernel⟩, List.mem_filter.mpr ⟨List.mem_of_getElem? (i := 46) (by decide +kernel), by decide +kernel⟩, by decide +kernel, by decide +kernel, by decide +kernel⟩
theorem mi_J5_newCapacity_0f7a4 : Cond.instanceMethod yJ5_newCapacity_0f7a4 ∈ q_gw := List.mem_filter.mpr ⟨List.mem_of_getElem? (i := 747) (by decide +kernel), by decide +kernel⟩
abbrev mJ8_newLength_cabcc : q_M := (RJ8, yJ8_newLength_cabcc, cJ8_newLength_cabcc, 4, (some .int))
theorem mt_J8_newLength_cabcc : q_MT mJ8_newLength_cabcc 3 := ⟨List.mem_filter.mpr ⟨List.mem_of_getElem? (i := 751) (by decide +kernel), by decide +kernel⟩, List.mem_filter.mpr ⟨List.mem_of_getElem? (i := 62) (by decide +kernel), by decide +kernel⟩, by decide +kernel, by decide +kernel, by decide +kernel⟩
theorem ms_J8_newLength_cabcc : Cond.static yJ8_newLength_cabcc ∈ q_gw := List.mem_filter.mpr ⟨List.mem_of_getElem? (i := 750) (by decide +kernel), by decide +kernel⟩
abbrev mJ9_max_7cf53 : q_M := (RJ9, yJ9_max_7cf53, cJ9_max_7cf53, 2, (some .int))
theorem mt_J9_max_7cf53 : q_MT mJ9_max_7cf53 2 := ⟨List.mem_filter.mpr ⟨List.mem_of_getElem? (i := 754) (by decide +kernel), by decide +kernel⟩, List.mem_filter.mpr ⟨List.mem_of_getElem? (i := 63) (by decide +kernel), by decide +kernel⟩, by decide +kernel, by decide +kernel, by decide +kernel⟩
theorem ms_J9_max_7cf53 : Cond.static yJ9_max_7cf53 ∈ q_gw := List.mem_filter.mpr ⟨List.mem_of_getElem? (i := 753) (by decide +kernel), by decide +kernel⟩
abbrev mJ8_hugeLength_7cf53 : q_M := (RJ8, yJ8_hugeLength_7cf53, cJ8_hugeLength_7cf53, 3, (some .int))
theorem mt_J8_hugeLength_7cf53 : q_MT mJ8_hugeLength_7cf53 2 := ⟨List.mem_filter.mpr ⟨List.mem_of_getElem? (i := 758) (by decide +kernel), by decide +kernel⟩, List.mem_filter.mpr ⟨List.mem_of_getElem? (i := 62) (by decide +kernel), by decide +kernel⟩, by decide +kernel, by decide +kernel, by decide +kernel⟩
theorem ms_J8_hugeLength_7cf53 : Cond.static yJ8_hugeLength_7cf53 ∈ q_gw := List.mem_filter.mpr ⟨List.mem_of_getElem? (i := 757) (by decide +kernel), by decide +kernel⟩
abbrev mJ7_copyOf_9075b : q_M := (RJ7, yJ7_copyOf_9075b, cJ7_copyOf_9075b, 3, (some (.array .byte)))
theorem mt_J7_copyOf_9075b : q_MT mJ7_copyOf_9075b 2 := ⟨List.mem_filter.mpr ⟨List.mem_of_getElem? (i := 762) (by decide +kernel), by decide +kernel⟩, List.mem_filter.mpr ⟨List.mem_of_getElem? (i := 57) (by decide +kernel), by decide +kernel⟩, by decide +kernel, by decide +kernel, by decide +kernel⟩
theorem ms_J7_copyOf_9075b : Cond.static yJ7_copyOf_9075b ∈ q_gw := List.mem_filter.mpr ⟨List.mem_of_getElem? (i := 761) (by decide +kernel), by decide +kernel⟩
abbrev mJ9_min_7cf53 : q_M := (RJ9, yJ9_min_7cf53, cJ9_min_7cf53, 2, (some .int))
theorem mt_J9_min_7cf53 : q_MT mJ9_min_7cf53 2 := ⟨List.mem_filter.mpr ⟨List.mem_of_getElem? (i := 772) (by decide +kernel), by decide +kernel⟩, List.mem_filter.mpr ⟨List.mem_of_getElem? (i := 63) (by decide +kernel), by decide +kernel⟩, by decide +kernel, by decide +kernel, by decide +kernel⟩
theorem ms_J9_min_7cf53 : Cond.static yJ9_min_7cf53 ∈ q_gw := List.mem_filter.mpr ⟨List.mem_of_getElem? (i := 771) (by decide +kernel), by decide +kernel⟩
abbrev mJ5_isLatin1_aae02 : q_M := (RJ5, yJ5_isLatin1_aae02, cJ5_isLatin1_aae02, 1, (some .boolean))
theorem mt_J5_isLatin1_aae02 : q_MT mJ5_isLatin1_aae02 0 := ⟨List.mem_filter.mpr ⟨List.mem_of_getElem? (i := 778) (by decide +kernel), by decide +kernel⟩, List.mem_filter.mpr ⟨List.mem_of_getElem? (i := 46) (by decide +kernel), by decide +kernel⟩, by decide +kernel, by decide +kernel, by decide +kernel⟩
theorem mi_J5_isLatin1_aae02 : Cond.instanceMethod yJ5_isLatin1_aae02 ∈ q_gw := List.mem_filter.mpr ⟨List.mem_of_getElem? (i := 775) (by decide +kernel), by decide +kernel⟩
abbrev mJ1_fillNull_b72d1 : q_M := (RJ1, yJ1_fillNull_b72d1, cJ1_fillNull_b72d1, 3, none)
theorem mt_J1_fillNull_b72d1 : q_MT mJ1_fillNull_b72d1 3 := ⟨List.mem_filter.mpr ⟨List.mem_of_getElem? (i := 781) (by decide +kernel), by decide +kernel⟩, List.mem_filter.mpr ⟨List.mem_of_getElem? (i := 64) (by decide +kernel), by decide +kernel⟩, by decide +kernel, by decide +kernel, by decide +kernel⟩
theorem ms_J1_fillNull_b72d1 : Cond.static yJ1_fillNull_b72d1 ∈ q_gw := List.mem_filter.mpr ⟨List.mem_of_getElem? (i := 780) (by decide +kernel), by decide +kernel⟩
abbrev mJ7_fill_eb02e : q_M := (RJ7, yJ7_fill_eb02e, cJ7_fill_eb02e, 5, none)
theorem mt_J7_fill_eb02e : q_MT mJ7_fill_eb02e 4 := ⟨List.mem_filter.mpr ⟨List.mem_of_getElem? (i := 784) (by decide +kernel), by decide +kernel⟩, List.mem_filter.mpr ⟨List.mem_of_getElem? (i := 57) (by decide +kernel), by decide +kernel⟩, by decide +kernel, by decide +kernel, by decide +kernel⟩
theorem ms_J7_fill_eb02e : Cond.static yJ7_fill_eb02e ∈ q_gw := List.mem_filter.mpr ⟨List.mem_of_getElem? (i := 783) (by decide +kernel), by decide +kernel⟩
abbrev mJ7_rangeCheck_23922 : q_M := (RJ7, yJ7_rangeCheck_23922, cJ7_rangeCheck_23922, 3, none)
theorem mt_J7_rangeCheck_23922 : q_MT mJ7_rangeCheck_23922 3 := ⟨List.mem_filter.mpr ⟨List.mem_of_getElem? (i := 787) (by decide +kernel), by decide +kernel⟩, List.mem_filter.mpr ⟨List.mem_of_getElem? (i := 57) (by decide +kernel), by decide +kernel⟩, by decide +kernel, by decide +kernel, by decide +kernel⟩
theorem ms_J7_rangeCheck_23922 : Cond.static yJ7_rangeCheck_23922 ∈ q_gw := List.mem_filter.mpr ⟨List.mem_of_getElem? (i := 786) (by decide +kernel), by decide +kernel⟩
abbrev mJ2_fillNull_b72d1 : q_M := (RJ2, yJ2_fillNull_b72d1, cJ2_fillNull_b72d1, 3, none)
theorem mt_J2_fillNull_b72d1 : q_MT mJ2_fillNull_b72d1 3 := ⟨List.mem_filter.mpr ⟨List.mem_of_getElem? (i := 790) (by decide +kernel), by decide +kernel⟩, List.mem_filter.mpr ⟨List.mem_of_getElem? (i := 49) (by decide +kernel), by decide +kernel⟩, by decide +kernel, by decide +kernel, by decide +kernel⟩
theorem ms_J2_fillNull_b72d1 : Cond.static yJ2_fillNull_b72d1 ∈ q_gw := List.mem_filter.mpr ⟨List.mem_of_getElem? (i := 789) (by decide +kernel), by decide +kernel⟩
abbrev mJ4_append_cf468 : q_M := (RJ4, yJ4_append_cf468, cJ4_append_cf468, 2, (some (.object "java/lang/StringBuilder")))
theorem mt_J4_append_cf468 : q_MT mJ4_append_cf468 1 := ⟨List.mem_filter.mpr ⟨List.mem_of_getElem? (i := 795) (by decide +kernel), by decide +kernel⟩, List.mem_filter.mpr ⟨List.mem_of_getElem? (i := 47) (by decide +kernel), by decide +kernel⟩, by decide +kernel, by decide +kernel, by decide +kernel⟩
theorem mi_J4_append_cf468 : Cond.instanceMethod yJ4_append_cf468 ∈ q_gw := List.mem_filter.mpr ⟨List.mem_of_getElem? (i := 793) (by decide +kernel), by decide +kernel⟩
abbrev mJ5_append_3fe6f : q_M := (RJ5, yJ5_append_3fe6f, cJ5_append_3fe6f, 2, (some (.object "java/lang/AbstractStringBuilder")))
theorem mt_J5_append_3fe6f : q_MT mJ5_append_3fe6f 1 := ⟨List.mem_filter.mpr ⟨List.mem_of_getElem? (i := 798) (by decide +kernel), by decide +kernel⟩, List.mem_filter.mpr ⟨List.mem_of_getElem? (i := 46) (by decide +kernel), by decide +kernel⟩, by decide +kernel, by decide +kernel, by decide +kernel⟩
theorem mi_J5_append_3fe6f : Cond.instanceMethod yJ5_append_3fe6f ∈ q_gw := List.mem_filter.mpr ⟨List.mem_of_getElem? (i := 797) (by decide +kernel), by decide +kernel⟩
abbrev mJ1_canEncode_fc78d : q_M := (RJ1, yJ1_canEncode_fc78d, cJ1_canEncode_fc78d, 1, (some .boolean))
theorem mt_J1_canEncode_fc78d : q_MT mJ1_canEncode_fc78d 1 := ⟨List.mem_filter.mpr ⟨List.mem_of_getElem? (i := 801) (by decide +kernel), by decide +kernel⟩, List.mem_filter.mpr ⟨List.mem_of_getElem? (i := 64) (by decide +kernel), by decide +kernel⟩, by decide +kernel, by decide +kernel, by decide +kernel⟩
theorem ms_J1_canEncode_fc78d : Cond.static yJ1_canEncode_fc78d ∈ q_gw := List.mem_filter.mpr ⟨List.mem_of_getElem? (i := 800) (by decide +kernel), by decide +kernel⟩
abbrev mJ5_inflate_da8c8 : q_M := (RJ5, yJ5_inflate_da8c8, cJ5_inflate_da8c8, 2, none)
theorem mt_J5_inflate_da8c8 : q_MT mJ5_inflate_da8c8 0 := ⟨List.mem_filter.mpr ⟨List.mem_of_getElem? (i := 805) (by decide +kernel), by decide +kernel⟩, List.mem_filter.mpr ⟨List.mem_of_getElem? (i := 46) (by decide +kernel), by decide +kernel⟩, by decide +kernel, by decide +kernel, by decide +kernel⟩
theorem mi_J5_inflate_da8c8 : Cond.instanceMethod yJ5_inflate_da8c8 ∈ q_gw := List.mem_filter.mpr ⟨List.mem_of_getElem? (i := 804) (by decide +kernel), by decide +kernel⟩
abbrev mJ1_inflate_0e8fd : q_M := (RJ1, yJ1_inflate_0e8fd, cJ1_inflate_0e8fd, 5, none)
theorem mt_J1_inflate_0e8fd : q_MT mJ1_inflate_0e8fd 5 := ⟨List.mem_filter.mpr ⟨List.mem_of_getElem? (i := 808) (by decide +kernel), by decide +kernel⟩, List.mem_filter.mpr ⟨List.mem_of_getElem? (i := 64) (by decide +kernel), by decide +kernel⟩, by decide +kernel, by decide +kernel, by decide +kernel⟩
theorem ms_J1_inflate_0e8fd : Cond.static yJ1_inflate_0e8fd ∈ q_gw := List.mem_filter.mpr ⟨List.mem_of_getElem? (i := 807) (by decide +kernel), by decide +kernel⟩
abbrev mJ2_inflate_0e8fd : q_M := (RJ2, yJ2_inflate_0e8fd, cJ2_inflate_0e8fd, 6, none)
theorem mt_J2_inflate_0e8fd : q_MT mJ2_inflate_0e8fd 5 := ⟨List.mem_filter.mpr ⟨List.mem_of_getElem? (i := 811) (by decide +kernel), by decide +kernel⟩, List.mem_filter.mpr ⟨List.mem_of_getElem? (i := 49) (by decide +kernel), by decide +kernel⟩, by decide +kernel, by decide +kernel, by decide +kernel⟩
theorem ms_J2_inflate_0e8fd : Cond.static yJ2_inflate_0e8fd ∈ q_gw := List.mem_filter.mpr ⟨List.mem_of_getElem? (i := 810) (by decide +kernel), by decide +kernel⟩
abbrev mJ2_checkBoundsOffCount_d044e : q_M := (RJ2, yJ2_checkBoundsOffCount_d044e, cJ2_checkBoundsOffCount_d044e, 3, none)
theorem mt_J2_checkBoundsOffCount_d044e : q_MT mJ2_checkBoundsOffCount_d044e 3 := ⟨List.mem_filter.mpr ⟨List.mem_of_getElem? (i := 814) (by decide +kernel), by decide +kernel⟩, List.mem_filter.mpr ⟨List.mem_of_getElem? (i := 49) (by decide +kernel), by decide +kernel⟩, by decide +kernel, by decide +kernel, by decide +kernel⟩
theorem ms_J2_checkBoundsOffCount_d044e : Cond.static yJ2_checkBoundsOffCount_d044e ∈ q_gw := List.mem_filter.mpr ⟨List.mem_of_getElem? (i := 813) (by decide +kernel), by decide +kernel⟩
abbrev mJ2_length_9d52b : q_M := (RJ2, yJ2_length_9d52b, cJ2_length_9d52b, 1, (some .int))
theorem mt_J2_length_9d52b : q_MT mJ2_length_9d52b 1 := ⟨List.mem_filter.mpr ⟨List.mem_of_getElem? (i := 817) (by decide +kernel), by decide +kernel⟩, List.mem_filter.mpr ⟨List.mem_of_getElem? (i := 49) (by decide +kernel), by decide +kernel⟩, by decide +kernel, by decide +kernel, by decide +kernel⟩
theorem ms_J2_length_9d52b : Cond.static yJ2_length_9d52b ∈ q_gw := List.mem_filter.mpr ⟨List.mem_of_getElem? (i := 816) (by decide +kernel), by decide +kernel⟩
abbrev mJ0_checkBoundsOffCount_cabcc : q_M := (RJ0, yJ0_checkBoundsOffCount_cabcc, cJ0_checkBoundsOffCount_cabcc, 3, (some .int))
theorem mt_J0_checkBoundsOffCount_cabcc : q_MT mJ0_checkBoundsOffCount_cabcc 3 := ⟨List.mem_filter.mpr ⟨List.mem_of_getElem? (i := 820) (by decide +kernel), by decide +kernel⟩, List.mem_filter.mpr ⟨List.mem_of_getElem? (i := 48) (by decide +kernel), by decide +kernel⟩, by decide +kernel, by decide +kernel, by decide +kernel⟩
theorem ms_J0_checkBoundsOffCount_cabcc : Cond.static yJ0_checkBoundsOffCount_cabcc ∈ q_gw := List.mem_filter.mpr ⟨List.mem_of_getElem? (i := 819) (by decide +kernel), by decide +kernel⟩
abbrev mJ3_checkFromIndexSize_8c36e : q_M := (RJ3, yJ3_checkFromIndexSize_8c36e, cJ3_checkFromIndexSize_8c36e, 4, (some .int))
theorem mt_J3_checkFromIndexSize_8c36e : q_MT mJ3_checkFromIndexSize_8c36e 4 := ⟨List.mem_filter.mpr ⟨List.mem_of_getElem? (i := 825) (by decide +kernel), by decide +kernel⟩, List.mem_filter.mpr ⟨List.mem_of_getElem? (i := 65) (by decide +kernel), by decide +kernel⟩, by decide +kernel, by decide +kernel, by decide +kernel⟩
theorem ms_J3_checkFromIndexSize_8c36e : Cond.static yJ3_checkFromIndexSize_8c36e ∈ q_gw := List.mem_filter.mpr ⟨List.mem_of_getElem? (i := 824) (by decide +kernel), by decide +kernel⟩
abbrev mJ2_putChar_b72d1 : q_M := (RJ2, yJ2_putChar_b72d1, cJ2_putChar_b72d1, 3, none)
theorem mt_J2_putChar_b72d1 : q_MT mJ2_putChar_b72d1 3 := ⟨List.mem_filter.mpr ⟨List.mem_of_getElem? (i := 828) (by decide +kernel), by decide +kernel⟩, List.mem_filter.mpr ⟨List.mem_of_getElem? (i := 49) (by decide +kernel), by decide +kernel⟩, by decide +kernel, by decide +kernel, by decide +kernel⟩
theorem ms_J2_putChar_b72d1 : Cond.static yJ2_putChar_b72d1 ∈ q_gw := List.mem_filter.mpr ⟨List.mem_of_getElem? (i := 827) (by decide +kernel), by decide +kernel⟩
abbrev mJ2_putCharSB_b72d1 : q_M := (RJ2, yJ2_putCharSB_b72d1, cJ2_putCharSB_b72d1, 3, none)
theorem mt_J2_putCharSB_b72d1 : q_MT mJ2_putCharSB_b72d1 3 := ⟨List.mem_filter.mpr ⟨List.mem_of_getElem? (i := 837) (by decide +kernel), by decide +kernel⟩, List.mem_filter.mpr ⟨List.mem_of_getElem? (i := 49) (by decide +kernel), by decide +kernel⟩, by decide +kernel, by decide +kernel, by decide +kernel⟩
theorem ms_J2_putCharSB_b72d1 : Cond.static yJ2_putCharSB_b72d1 ∈ q_gw := List.mem_filter.mpr ⟨List.mem_of_getElem? (i := 836) (by decide +kernel), by decide +kernel⟩
abbrev mJ2_checkIndex_2214a : q_M := (RJ2, yJ2_checkIndex_2214a, cJ2_checkIndex_2214a, 2, none)
theorem mt_J2_checkIndex_2214a : q_MT mJ2_checkIndex_2214a 2 := ⟨List.mem_filter.mpr ⟨List.mem_of_getElem? (i := 840) (by decide +kernel), by decide +kernel⟩, List.mem_filter.mpr ⟨List.mem_of_getElem? (i := 49) (by decide +kernel), by decide +kernel⟩, by decide +kernel, by decide +kernel, by decide +kernel⟩
theorem ms_J2_checkIndex_2214a : Cond.static yJ2_checkIndex_2214a ∈ q_gw := List.mem_filter.mpr ⟨List.mem_of_getElem? (i := 839) (by decide +kernel), by decide +kernel⟩
abbrev mJ0_checkIndex_df160 : q_M := (RJ0, yJ0_checkIndex_df160, cJ0_checkIndex_df160, 2, none)
theorem mt_J0_checkIndex_df160 : q_MT mJ0_checkIndex_df160 2 := ⟨List.mem_filter.mpr ⟨List.mem_of_getElem? (i := 843) (by decide +kernel), by decide +kernel⟩, List.mem_filter.mpr ⟨List.mem_of_getElem? (i := 48) (by decide +kernel), by decide +kernel⟩, by decide +kernel, by decide +kernel, by decide +kernel⟩
theorem ms_J0_checkIndex_df160 : Cond.static yJ0_checkIndex_df160 ∈ q_gw := List.mem_filter.mpr ⟨List.mem_of_getElem? (i := 842) (by decide +kernel), by decide +kernel⟩
abbrev mJ3_checkIndex_8e157 : q_M := (RJ3, yJ3_checkIndex_8e157, cJ3_checkIndex_8e157, 3, (some .int))
theorem mt_J3_checkIndex_8e157 : q_MT mJ3_checkIndex_8e157 3 := ⟨List.mem_filter.mpr ⟨List.mem_of_getElem? (i := 846) (by decide +kernel), by decide +kernel⟩, List.mem_filter.mpr ⟨List.mem_of_getElem? (i := 65) (by decide +kernel), by decide +kernel⟩, by decide +kernel, by decide +kernel, by decide +kernel⟩
theorem ms_J3_checkIndex_8e157 : Cond.static yJ3_checkIndex_8e157 ∈ q_gw := List.mem_filter.mpr ⟨List.mem_of_getElem? (i := 845) (by decide +kernel), by decide +kernel⟩
abbrev mJ4_append_bf812 : q_M := (RJ4, yJ4_append_bf812, cJ4_append_bf812, 2, (some (.object "java/lang/StringBuilder")))
theorem mt_J4_append_bf812 : q_MT mJ4_append_bf812 1 := ⟨List.mem_filter.mpr ⟨List.mem_of_getElem? (i := 850) (by decide +kernel), by decide +kernel⟩, List.mem_filter.mpr ⟨List.mem_of_getElem? (i := 47) (by decide +kernel), by decide +kernel⟩, by decide +kernel, by decide +kernel, by decide +kernel⟩
theorem mi_J4_append_bf812 : Cond.instanceMethod yJ4_append_bf812 ∈ q_gw := List.mem_filter.mpr ⟨List.mem_of_getElem? (i := 848) (by decide +kernel), by decide +kernel⟩
abbrev mJ5_append_c97b9 : q_M := (RJ5, yJ5_append_c97b9, cJ5_append_c97b9, 4, (some (.object "java/lang/AbstractStringBuilder")))
theorem mt_J5_append_c97b9 : q_MT mJ5_append_c97b9 1 := ⟨List.mem_filter.mpr ⟨List.mem_of_getElem? (i := 853) (by decide +kernel), by decide +kernel⟩, List.mem_filter.mpr ⟨List.mem_of_getElem? (i := 46) (by decide +kernel), by decide +kernel⟩, by decide +kernel, by decide +kernel, by decide +kernel⟩
theorem mi_J5_append_c97b9 : Cond.instanceMethod yJ5_append_c97b9 ∈ q_gw := List.mem_filter.mpr ⟨List.mem_of_getElem? (i := 852) (by decide +kernel), by decide +kernel⟩
abbrev mJ6_stringSize_0f7a4 : q_M := (RJ6, yJ6_stringSize_0f7a4, cJ6_stringSize_0f7a4, 4, (some .int))
theorem mt_J6_stringSize_0f7a4 : q_MT mJ6_stringSize_0f7a4 1 := ⟨List.mem_filter.mpr ⟨List.mem_of_getElem? (i := 856) (by decide +kernel), by decide +kernel⟩, List.mem_filter.mpr ⟨List.mem_of_getElem? (i := 58) (by decide +kernel), by decide +kernel⟩, by decide +kernel, by decide +kernel, by decide +kernel⟩
theorem ms_J6_stringSize_0f7a4 : Cond.static yJ6_stringSize_0f7a4 ∈ q_gw := List.mem_filter.mpr ⟨List.mem_of_getElem? (i := 855) (by decide +kernel), by decide +kernel⟩
abbrev mJ6_getChars_ba4f3 : q_M := (RJ6, yJ6_getChars_ba4f3, cJ6_getChars_ba4f3, 7, (some .int))
theorem mt_J6_getChars_ba4f3 : q_MT mJ6_getChars_ba4f3 3 := ⟨List.mem_filter.mpr ⟨List.mem_of_getElem? (i := 859) (by decide +kernel), by decide +kernel⟩, List.mem_filter.mpr ⟨List.mem_of_getElem? (i := 58) (by decide +kernel), by decide +kernel⟩, by decide +kernel, by decide +kernel, by decide +kernel⟩
theorem ms_J6_getChars_ba4f3 : Cond.static yJ6_getChars_ba4f3 ∈ q_gw := List.mem_filter.mpr ⟨List.mem_of_getElem? (i := 858) (by decide +kernel), by decide +kernel⟩
abbrev mJ2_getChars_46870 : q_M := (RJ2, yJ2_getChars_46870, cJ2_getChars_46870, 5, (some .int))
theorem mt_J2_getChars_46870 : q_MT mJ2_getChars_46870 4 := ⟨List.mem_filter.mpr ⟨List.mem_of_getElem? (i := 866) (by decide +kernel), by decide +kernel⟩, List.mem_filter.mpr ⟨List.mem_of_getElem? (i := 49) (by decide +kernel), by decide +kernel⟩, by decide +kernel, by decide +kernel, by decide +kernel⟩
theorem ms_J2_getChars_46870 : Cond.static yJ2_getChars_46870 ∈ q_gw := List.mem_filter.mpr ⟨List.mem_of_getElem? (i := 865) (by decide +kernel), by decide +kernel⟩
abbrev mJ2_checkBoundsBeginEnd_d044e : q_M := (RJ2, yJ2_checkBoundsBeginEnd_d044e, cJ2_checkBoundsBeginEnd_d044e, 3, none)
theorem mt_J2_checkBoundsBeginEnd_d044e : q_MT mJ2_checkBoundsBeginEnd_d044e 3 := ⟨List.mem_filter.mpr ⟨List.mem_of_getElem? (i := 869) (by decide +kernel), by decide +kernel⟩, List.mem_filter.mpr ⟨List.mem_of_getElem? (i := 49) (by decide +kernel), by decide +kernel⟩, by decide +kernel, by decide +kernel, by decide +kernel⟩
theorem ms_J2_checkBoundsBeginEnd_d044e : Cond.static yJ2_checkBoundsBeginEnd_d044e ∈ q_gw := List.mem_filter.mpr ⟨List.mem_of_getElem? (i := 868) (by decide +kernel), by decide +kernel⟩
abbrev mJ0_checkBoundsBeginEnd_23922 : q_M := (RJ0, yJ0_checkBoundsBeginEnd_23922, cJ0_checkBoundsBeginEnd_23922, 3, none)
theorem mt_J0_checkBoundsBeginEnd_23922 : q_MT mJ0_checkBoundsBeginEnd_23922 3 := ⟨List.mem_filter.mpr ⟨List.mem_of_getElem? (i := 872) (by decide +kernel), by decide +kernel⟩, List.mem_filter.mpr ⟨List.mem_of_getElem? (i := 48) (by decide +kernel), by decide +kernel⟩, by decide +kernel, by decide +kernel, by decide +kernel⟩
theorem ms_J0_checkBoundsBeginEnd_23922 : Cond.static yJ0_checkBoundsBeginEnd_23922 ∈ q_gw := List.mem_filter.mpr ⟨List.mem_of_getElem? (i := 871) (by decide +kernel), by decide +kernel⟩
abbrev mJ3_checkFromToIndex_8c36e : q_M := (RJ3, yJ3_checkFromToIndex_8c36e, cJ3_checkFromToIndex_8c36e, 4, (some .int))
theorem mt_J3_checkFromToIndex_8c36e : q_MT mJ3_checkFromToIndex_8c36e 4 := ⟨List.mem_filter.mpr ⟨List.mem_of_getElem? (i := 875) (by decide +kernel), by decide +kernel⟩, List.mem_filter.mpr ⟨List.mem_of_getElem? (i := 65) (by decide +kernel), by decide +kernel⟩, by decide +kernel, by decide +kernel, by decide +kernel⟩
theorem ms_J3_checkFromToIndex_8c36e : Cond.static yJ3_checkFromToIndex_8c36e ∈ q_gw := List.mem_filter.mpr ⟨List.mem_of_getElem? (i := 874) (by decide +kernel), by decide +kernel⟩
abbrev mJ2_getChars_ba4f3 : q_M := (RJ2, yJ2_getChars_ba4f3, cJ2_getChars_ba4f3, 7, (some .int))
theorem mt_J2_getChars_ba4f3 : q_MT mJ2_getChars_ba4f3 3 := ⟨List.mem_filter.mpr ⟨List.mem_of_getElem? (i := 878) (by decide +kernel), by decide +kernel⟩, List.mem_filter.mpr ⟨List.mem_of_getElem? (i := 49) (by decide +kernel), by decide +kernel⟩, by decide +kernel, by decide +kernel, by decide +kernel⟩
theorem ms_J2_getChars_ba4f3 : Cond.static yJ2_getChars_ba4f3 ∈ q_gw := List.mem_filter.mpr ⟨List.mem_of_getElem? (i := 877) (by decide +kernel), by decide +kernel⟩
abbrev mJ4_length_8abf5 : q_M := (RJ4, yJ4_length_8abf5, cJ4_length_8abf5, 1, (some .int))
theorem mt_J4_length_8abf5 : q_MT mJ4_length_8abf5 0 := ⟨List.mem_filter.mpr ⟨List.mem_of_getElem? (i := 884) (by decide +kernel), by decide +kernel⟩, List.mem_filter.mpr ⟨List.mem_of_getElem? (i := 47) (by decide +kernel), by decide +kernel⟩, by decide +kernel, by decide +kernel, by decide +kernel⟩
theorem mi_J4_length_8abf5 : Cond.instanceMethod yJ4_length_8abf5 ∈ q_gw := List.mem_filter.mpr ⟨List.mem_of_getElem? (i := 882) (by decide +kernel), by decide +kernel⟩
abbrev mJ5_length_8abf5 : q_M := (RJ5, yJ5_length_8abf5, cJ5_length_8abf5, 1, (some .int))
theorem mt_J5_length_8abf5 : q_MT mJ5_length_8abf5 0 := ⟨List.mem_filter.mpr ⟨List.mem_of_getElem? (i := 887) (by decide +kernel), by decide +kernel⟩, List.mem_filter.mpr ⟨List.mem_of_getElem? (i := 46) (by decide +kernel), by decide +kernel⟩, by decide +kernel, by decide +kernel, by decide +kernel⟩
theorem mi_J5_length_8abf5 : Cond.instanceMethod yJ5_length_8abf5 ∈ q_gw := List.mem_filter.mpr ⟨List.mem_of_getElem? (i := 886) (by decide +kernel), by decide +kernel⟩
abbrev mX8_out : q_M := (RX8, yX8_out, cX8_out, 2, (some .int))
theorem mt_X8_out : q_MT mX8_out 1 := ⟨List.mem_filter.mpr ⟨List.mem_of_getElem? (i := 891) (by decide +kernel), by decide +kernel⟩, List.mem_filter.mpr ⟨List.mem_of_getElem? (i := 45) (by decide +kernel), by decide +kernel⟩, by decide +kernel, by decide +kernel, by decide +kernel⟩
theorem mi_X8_out : Cond.instanceMethod yX8_out ∈ q_gw := List.mem_filter.mpr ⟨List.mem_of_getElem? (i := 889) (by decide +kernel), by decide +kernel⟩
abbrev mJ4_charAt_5068e : q_M := (RJ4, yJ4_charAt_5068e, cJ4_charAt_5068e, 2, (some .char))
theorem mt_J4_charAt_5068e : q_MT mJ4_charAt_5068e 1 := ⟨List.mem_filter.mpr ⟨List.mem_of_getElem? (i := 895) (by decide +kernel), by decide +kernel⟩, List.mem_filter.mpr ⟨List.mem_of_getElem? (i := 47) (by decide +kernel), by decide +kernel⟩, by decide +kernel, by decide +kernel, by decide +kernel⟩
theorem mi_J4_charAt_5068e : Cond.instanceMethod yJ4_charAt_5068e ∈ q_gw := List.mem_filter.mpr ⟨List.mem_of_getElem? (i := 893) (by decide +kernel), by decide +kernel⟩
abbrev mJ5_charAt_5068e : q_M := (RJ5, yJ5_charAt_5068e, cJ5_charAt_5068e, 5, (some .char))
theorem mt_J5_charAt_5068e : q_MT mJ5_charAt_5068e 1 := ⟨List.mem_filter.mpr ⟨List.mem_of_getElem? (i := 898) (by decide +kernel), by decide +kernel⟩, List.mem_filter.mpr ⟨List.mem_of_getElem? (i := 46) (by decide +kernel), by decide +kernel⟩, by decide +kernel, by decide +kernel, by decide +kernel⟩
theorem mi_J5_charAt_5068e : Cond.instanceMethod yJ5_charAt_5068e ∈ q_gw := List.mem_filter.mpr ⟨List.mem_of_getElem? (i := 897) (by decide +kernel), by decide +kernel⟩
abbrev mJ2_getChar_3b067 : q_M := (RJ2, yJ2_getChar_3b067, cJ2_getChar_3b067, 2, (some .char))
theorem mt_J2_getChar_3b067 : q_MT mJ2_getChar_3b067 2 := ⟨List.mem_filter.mpr ⟨List.mem_of_getElem? (i := 903) (by decide +kernel), by decide +kernel⟩, List.mem_filter.mpr ⟨List.mem_of_getElem? (i := 49) (by decide +kernel), by decide +kernel⟩, by decide +kernel, by decide +kernel, by decide +kernel⟩
theorem ms_J2_getChar_3b067 : Cond.static yJ2_getChar_3b067 ∈ q_gw := List.mem_filter.mpr ⟨List.mem_of_getElem? (i := 902) (by decide +kernel), by decide +kernel⟩
abbrev mX8_count : q_M := (RX8, yX8_count, cX8_count, 2, (some .int))
theorem mt_X8_count : q_MT mX8_count 1 := ⟨List.mem_filter.mpr ⟨List.mem_of_getElem? (i := 907) (by decide +kernel), by decide +kernel⟩, List.mem_filter.mpr ⟨List.mem_of_getElem? (i := 45) (by decide +kernel), by decide +kernel⟩, by decide +kernel, by decide +kernel, by decide +kernel⟩
theorem mi_X8_count : Cond.instanceMethod yX8_count ∈ q_gw := List.mem_filter.mpr ⟨List.mem_of_getElem? (i := 905) (by decide +kernel), by decide +kernel⟩
abbrev mX9_init : q_M := (RX9, yX9_init, cX9_init, 1, none)
theorem mt_X9_init : q_MT mX9_init 0 := ⟨List.mem_filter.mpr ⟨List.mem_of_getElem? (i := 912) (by decide +kernel), by decide +kernel⟩, List.mem_filter.mpr ⟨List.mem_of_getElem? (i := 54) (by decide +kernel), by decide +kernel⟩, by decide +kernel, by decide +kernel, by decide +kernel⟩
theorem mi_X9_init : Cond.instanceMethod yX9_init ∈ q_gw := List.mem_filter.mpr ⟨List.mem_of_getElem? (i := 911) (by decide +kernel), by decide +kernel⟩
abbrev mX9_puzzle : q_M := (RX9, yX9_puzzle, cX9_puzzle, 5, (some .int))
theorem mt_X9_puzzle : q_MT mX9_puzzle 3 := ⟨List.mem_filter.mpr ⟨List.mem_of_getElem? (i := 1027) (by decide +kernel), by decide +kernel⟩, List.mem_filter.mpr ⟨List.mem_of_getElem? (i := 54) (by decide +kernel), by decide +kernel⟩, by decide +kernel, by decide +kernel, by decide +kernel⟩
theorem mi_X9_puzzle : Cond.instanceMethod yX9_puzzle ∈ q_gw := List.mem_filter.mpr ⟨List.mem_of_getElem? (i := 1025) (by decide +kernel), by decide +kernel⟩
abbrev mX9_in : q_M := (RX9, yX9_in, cX9_in, 3, (some .boolean))
theorem mt_X9_in : q_MT mX9_in 3 := ⟨List.mem_filter.mpr ⟨List.mem_of_getElem? (i := 1030) (by decide +kernel), by decide +kernel⟩, List.mem_filter.mpr ⟨List.mem_of_getElem? (i := 54) (by decide +kernel), by decide +kernel⟩, by decide +kernel, by decide +kernel, by decide +kernel⟩
theorem ms_X9_in : Cond.static yX9_in ∈ q_gw := List.mem_filter.mpr ⟨List.mem_of_getElem? (i := 1029) (by decide +kernel), by decide +kernel⟩
abbrev mX9_fresh : q_M := (RX9, yX9_fresh, cX9_fresh, 3, (some .boolean))
theorem mt_X9_fresh : q_MT mX9_fresh 1 := ⟨List.mem_filter.mpr ⟨List.mem_of_getElem? (i := 1034) (by decide +kernel), by decide +kernel⟩, List.mem_filter.mpr ⟨List.mem_of_getElem? (i := 54) (by decide +kernel), by decide +kernel⟩, by decide +kernel, by decide +kernel, by decide +kernel⟩
theorem mi_X9_fresh : Cond.instanceMethod yX9_fresh ∈ q_gw := List.mem_filter.mpr ⟨List.mem_of_getElem? (i := 1032) (by decide +kernel), by decide +kernel⟩
abbrev mX9_isPuzzle : q_M := (RX9, yX9_isPuzzle, cX9_isPuzzle, 2, (some .boolean))
theorem mt_X9_isPuzzle : q_MT mX9_isPuzzle 1 := ⟨List.mem_filter.mpr ⟨List.mem_of_getElem? (i := 1038) (by decide +kernel), by decide +kernel⟩, List.mem_filter.mpr ⟨List.mem_of_getElem? (i := 54) (by decide +kernel), by decide +kernel⟩, by decide +kernel, by decide +kernel, by decide +kernel⟩
theorem mi_X9_isPuzzle : Cond.instanceMethod yX9_isPuzzle ∈ q_gw := List.mem_filter.mpr ⟨List.mem_of_getElem? (i := 1037) (by decide +kernel), by decide +kernel⟩
abbrev mX9_sizeOf : q_M := (RX9, yX9_sizeOf, cX9_sizeOf, 2, (some .int))
theorem mt_X9_sizeOf : q_MT mX9_sizeOf 1 := ⟨List.mem_filter.mpr ⟨List.mem_of_getElem? (i := 1042) (by decide +kernel), by decide +kernel⟩, List.mem_filter.mpr ⟨List.mem_of_getElem? (i := 54) (by decide +kernel), by decide +kernel⟩, by decide +kernel, by decide +kernel, by decide +kernel⟩
theorem mi_X9_sizeOf : Cond.instanceMethod yX9_sizeOf ∈ q_gw := List.mem_filter.mpr ⟨List.mem_of_getElem? (i := 1041) (by decide +kernel), by decide +kernel⟩
abbrev mX9_full : q_M := (RX9, yX9_full, cX9_full, 2, (some .int))
theorem mt_X9_full : q_MT mX9_full 1 := ⟨List.mem_filter.mpr ⟨List.mem_of_getElem? (i := 1046) (by decide +kernel), by decide +kernel⟩, List.mem_filter.mpr ⟨List.mem_of_getElem? (i := 54) (by decide +kernel), by decide +kernel⟩, by decide +kernel, by decide +kernel, by decide +kernel⟩
theorem mi_X9_full : Cond.instanceMethod yX9_full ∈ q_gw := List.mem_filter.mpr ⟨List.mem_of_getElem? (i := 1045) (by decide +kernel), by decide +kernel⟩
abbrev mX9_run : q_M := (RX9, yX9_run, cX9_run, 10, (some .int))
theorem mt_X9_run : q_MT mX9_run 4 := ⟨List.mem_filter.mpr ⟨List.mem_of_getElem? (i := 1051) (by decide +kernel), by decide +kernel⟩, List.mem_filter.mpr ⟨List.mem_of_getElem? (i := 54) (by decide +kernel), by decide +kernel⟩, by decide +kernel, by decide +kernel, by decide +kernel⟩
theorem mi_X9_run : Cond.instanceMethod yX9_run ∈ q_gw := List.mem_filter.mpr ⟨List.mem_of_getElem? (i := 1049) (by decide +kernel), by decide +kernel⟩
abbrev mX9_isLine : q_M := (RX9, yX9_isLine, cX9_isLine, 3, (some .boolean))
theorem mt_X9_isLine : q_MT mX9_isLine 2 := ⟨List.mem_filter.mpr ⟨List.mem_of_getElem? (i := 1055) (by decide +kernel), by decide +kernel⟩, List.mem_filter.mpr ⟨List.mem_of_getElem? (i := 54) (by decide +kernel), by decide +kernel⟩, by decide +kernel, by decide +kernel, by decide +kernel⟩
theorem mi_X9_isLine : Cond.instanceMethod yX9_isLine ∈ q_gw := List.mem_filter.mpr ⟨List.mem_of_getElem? (i := 1054) (by decide +kernel), by decide +kernel⟩
abbrev mX9_linesOf : q_M := (RX9, yX9_linesOf, cX9_linesOf, 2, (some .int))
theorem mt_X9_linesOf : q_MT mX9_linesOf 1 := ⟨List.mem_filter.mpr ⟨List.mem_of_getElem? (i := 1059) (by decide +kernel), by decide +kernel⟩, List.mem_filter.mpr ⟨List.mem_of_getElem? (i := 54) (by decide +kernel), by decide +kernel⟩, by decide +kernel, by decide +kernel, by decide +kernel⟩
theorem mi_X9_linesOf : Cond.instanceMethod yX9_linesOf ∈ q_gw := List.mem_filter.mpr ⟨List.mem_of_getElem? (i := 1058) (by decide +kernel), by decide +kernel⟩
abbrev mX9_runAt : q_M := (RX9, yX9_runAt, cX9_runAt, 3, (some .int))
theorem mt_X9_runAt : q_MT mX9_runAt 2 := ⟨List.mem_filter.mpr ⟨List.mem_of_getElem? (i := 1063) (by decide +kernel), by decide +kernel⟩, List.mem_filter.mpr ⟨List.mem_of_getElem? (i := 54) (by decide +kernel), by decide +kernel⟩, by decide +kernel, by decide +kernel, by decide +kernel⟩
theorem mi_X9_runAt : Cond.instanceMethod yX9_runAt ∈ q_gw := List.mem_filter.mpr ⟨List.mem_of_getElem? (i := 1062) (by decide +kernel), by decide +kernel⟩
abbrev mX9_lineLength : q_M := (RX9, yX9_lineLength, cX9_lineLength, 3, (some .int))
theorem mt_X9_lineLength : q_MT mX9_lineLength 2 := ⟨List.mem_filter.mpr ⟨List.mem_of_getElem? (i := 1067) (by decide +kernel), by decide +kernel⟩, List.mem_filter.mpr ⟨List.mem_of_getElem? (i := 54) (by decide +kernel), by decide +kernel⟩, by decide +kernel, by decide +kernel, by decide +kernel⟩
theorem mi_X9_lineLength : Cond.instanceMethod yX9_lineLength ∈ q_gw := List.mem_filter.mpr ⟨List.mem_of_getElem? (i := 1066) (by decide +kernel), by decide +kernel⟩
abbrev mX9_told : q_M := (RX9, yX9_told, cX9_told, 5, (some .int))
theorem mt_X9_told : q_MT mX9_told 2 := ⟨List.mem_filter.mpr ⟨List.mem_of_getElem? (i := 1071) (by decide +kernel), by decide +kernel⟩, List.mem_filter.mpr ⟨List.mem_of_getElem? (i := 54) (by decide +kernel), by decide +kernel⟩, by decide +kernel, by decide +kernel, by decide +kernel⟩
theorem mi_X9_told : Cond.instanceMethod yX9_told ∈ q_gw := List.mem_filter.mpr ⟨List.mem_of_getElem? (i := 1069) (by decide +kernel), by decide +kernel⟩
abbrev mX9_isOne : q_M := (RX9, yX9_isOne, cX9_isOne, 1, (some .boolean))
theorem mt_X9_isOne : q_MT mX9_isOne 1 := ⟨List.mem_filter.mpr ⟨List.mem_of_getElem? (i := 1074) (by decide +kernel), by decide +kernel⟩, List.mem_filter.mpr ⟨List.mem_of_getElem? (i := 54) (by decide +kernel), by decide +kernel⟩, by decide +kernel, by decide +kernel, by decide +kernel⟩
theorem ms_X9_isOne : Cond.static yX9_isOne ∈ q_gw := List.mem_filter.mpr ⟨List.mem_of_getElem? (i := 1073) (by decide +kernel), by decide +kernel⟩
abbrev mX9_clue : q_M := (RX9, yX9_clue, cX9_clue, 5, (some .int))
theorem mt_X9_clue : q_MT mX9_clue 4 := ⟨List.mem_filter.mpr ⟨List.mem_of_getElem? (i := 1078) (by decide +kernel), by decide +kernel⟩, List.mem_filter.mpr ⟨List.mem_of_getElem? (i := 54) (by decide +kernel), by decide +kernel⟩, by decide +kernel, by decide +kernel, by decide +kernel⟩
theorem mi_X9_clue : Cond.instanceMethod yX9_clue ∈ q_gw := List.mem_filter.mpr ⟨List.mem_of_getElem? (i := 1076) (by decide +kernel), by decide +kernel⟩
abbrev mX9_choose : q_M := (RX9, yX9_choose, cX9_choose, 4, (some .boolean))
theorem mt_X9_choose : q_MT mX9_choose 3 := ⟨List.mem_filter.mpr ⟨List.mem_of_getElem? (i := 1082) (by decide +kernel), by decide +kernel⟩, List.mem_filter.mpr ⟨List.mem_of_getElem? (i := 54) (by decide +kernel), by decide +kernel⟩, by decide +kernel, by decide +kernel, by decide +kernel⟩
theorem mi_X9_choose : Cond.instanceMethod yX9_choose ∈ q_gw := List.mem_filter.mpr ⟨List.mem_of_getElem? (i := 1080) (by decide +kernel), by decide +kernel⟩
abbrev mX9_isCell : q_M := (RX9, yX9_isCell, cX9_isCell, 3, (some .boolean))
theorem mt_X9_isCell : q_MT mX9_isCell 2 := ⟨List.mem_filter.mpr ⟨List.mem_of_getElem? (i := 1086) (by decide +kernel), by decide +kernel⟩, List.mem_filter.mpr ⟨List.mem_of_getElem? (i := 54) (by decide +kernel), by decide +kernel⟩, by decide +kernel, by decide +kernel, by decide +kernel⟩
theorem mi_X9_isCell : Cond.instanceMethod yX9_isCell ∈ q_gw := List.mem_filter.mpr ⟨List.mem_of_getElem? (i := 1085) (by decide +kernel), by decide +kernel⟩
abbrev mX9_bar : q_M := (RX9, yX9_bar, cX9_bar, 5, (some .boolean))
theorem mt_X9_bar : q_MT mX9_bar 3 := ⟨List.mem_filter.mpr ⟨List.mem_of_getElem? (i := 1090) (by decide +kernel), by decide +kernel⟩, List.mem_filter.mpr ⟨List.mem_of_getElem? (i := 54) (by decide +kernel), by decide +kernel⟩, by decide +kernel, by decide +kernel, by decide +kernel⟩
theorem mi_X9_bar : Cond.instanceMethod yX9_bar ∈ q_gw := List.mem_filter.mpr ⟨List.mem_of_getElem? (i := 1088) (by decide +kernel), by decide +kernel⟩
abbrev mX9_set : q_M := (RX9, yX9_set, cX9_set, 3, (some .int))
theorem mt_X9_set : q_MT mX9_set 2 := ⟨List.mem_filter.mpr ⟨List.mem_of_getElem? (i := 1094) (by decide +kernel), by decide +kernel⟩, List.mem_filter.mpr ⟨List.mem_of_getElem? (i := 54) (by decide +kernel), by decide +kernel⟩, by decide +kernel, by decide +kernel, by decide +kernel⟩
theorem mi_X9_set : Cond.instanceMethod yX9_set ∈ q_gw := List.mem_filter.mpr ⟨List.mem_of_getElem? (i := 1092) (by decide +kernel), by decide +kernel⟩
abbrev mX9_step : q_M := (RX9, yX9_step, cX9_step, 4, (some .int))
theorem mt_X9_step : q_MT mX9_step 2 := ⟨List.mem_filter.mpr ⟨List.mem_of_getElem? (i := 1098) (by decide +kernel), by decide +kernel⟩, List.mem_filter.mpr ⟨List.mem_of_getElem? (i := 54) (by decide +kernel), by decide +kernel⟩, by decide +kernel, by decide +kernel, by decide +kernel⟩
theorem mi_X9_step : Cond.instanceMethod yX9_step ∈ q_gw := List.mem_filter.mpr ⟨List.mem_of_getElem? (i := 1096) (by decide +kernel), by decide +kernel⟩
abbrev mX9_loads : q_M := (RX9, yX9_loads, cX9_loads, 4, none)
theorem mt_X9_loads : q_MT mX9_loads 2 := ⟨List.mem_filter.mpr ⟨List.mem_of_getElem? (i := 1102) (by decide +kernel), by decide +kernel⟩, List.mem_filter.mpr ⟨List.mem_of_getElem? (i := 54) (by decide +kernel), by decide +kernel⟩, by decide +kernel, by decide +kernel, by decide +kernel⟩
theorem mi_X9_loads : Cond.instanceMethod yX9_loads ∈ q_gw := List.mem_filter.mpr ⟨List.mem_of_getElem? (i := 1101) (by decide +kernel), by decide +kernel⟩
abbrev mX9_steps : q_M := (RX9, yX9_steps, cX9_steps, 8, (some .int))
theorem mt_X9_steps : q_MT mX9_steps 3 := ⟨List.mem_filter.mpr ⟨List.mem_of_getElem? (i := 1106) (by decide +kernel), by decide +kernel⟩, List.mem_filter.mpr ⟨List.mem_of_getElem? (i := 54) (by decide +kernel), by decide +kernel⟩, by decide +kernel, by decide +kernel, by decide +kernel⟩
theorem mi_X9_steps : Cond.instanceMethod yX9_steps ∈ q_gw := List.mem_filter.mpr ⟨List.mem_of_getElem? (i := 1105) (by decide +kernel), by decide +kernel⟩
abbrev mX9_lists : q_M := (RX9, yX9_lists, cX9_lists, 9, (some .int))
theorem mt_X9_lists : q_MT mX9_lists 3 := ⟨List.mem_filter.mpr ⟨List.mem_of_getElem? (i := 1110) (by decide +kernel), by decide +kernel⟩, List.mem_filter.mpr ⟨List.mem_of_getElem? (i := 54) (by decide +kernel), by decide +kernel⟩, by decide +kernel, by decide +kernel, by decide +kernel⟩
theorem mi_X9_lists : Cond.instanceMethod yX9_lists ∈ q_gw := List.mem_filter.mpr ⟨List.mem_of_getElem? (i := 1109) (by decide +kernel), by decide +kernel⟩
abbrev mX9_cellOf : q_M := (RX9, yX9_cellOf, cX9_cellOf, 4, (some .int))
theorem mt_X9_cellOf : q_MT mX9_cellOf 3 := ⟨List.mem_filter.mpr ⟨List.mem_of_getElem? (i := 1114) (by decide +kernel), by decide +kernel⟩, List.mem_filter.mpr ⟨List.mem_of_getElem? (i := 54) (by decide +kernel), by decide +kernel⟩, by decide +kernel, by decide +kernel, by decide +kernel⟩
theorem mi_X9_cellOf : Cond.instanceMethod yX9_cellOf ∈ q_gw := List.mem_filter.mpr ⟨List.mem_of_getElem? (i := 1113) (by decide +kernel), by decide +kernel⟩
abbrev mX9_lays : q_M := (RX9, yX9_lays, cX9_lays, 5, (some .boolean))
theorem mt_X9_lays : q_MT mX9_lays 3 := ⟨List.mem_filter.mpr ⟨List.mem_of_getElem? (i := 1118) (by decide +kernel), by decide +kernel⟩, List.mem_filter.mpr ⟨List.mem_of_getElem? (i := 54) (by decide +kernel), by decide +kernel⟩, by decide +kernel, by decide +kernel, by decide +kernel⟩
theorem mi_X9_lays : Cond.instanceMethod yX9_lays ∈ q_gw := List.mem_filter.mpr ⟨List.mem_of_getElem? (i := 1117) (by decide +kernel), by decide +kernel⟩
abbrev mX9_first : q_M := (RX9, yX9_first, cX9_first, 3, (some .int))
theorem mt_X9_first : q_MT mX9_first 2 := ⟨List.mem_filter.mpr ⟨List.mem_of_getElem? (i := 1122) (by decide +kernel), by decide +kernel⟩, List.mem_filter.mpr ⟨List.mem_of_getElem? (i := 54) (by decide +kernel), by decide +kernel⟩, by decide +kernel, by decide +kernel, by decide +kernel⟩
theorem mi_X9_first : Cond.instanceMethod yX9_first ∈ q_gw := List.mem_filter.mpr ⟨List.mem_of_getElem? (i := 1121) (by decide +kernel), by decide +kernel⟩
abbrev mX9_fits : q_M := (RX9, yX9_fits, cX9_fits, 5, (some .boolean))
theorem mt_X9_fits : q_MT mX9_fits 2 := ⟨List.mem_filter.mpr ⟨List.mem_of_getElem? (i := 1126) (by decide +kernel), by decide +kernel⟩, List.mem_filter.mpr ⟨List.mem_of_getElem? (i := 54) (by decide +kernel), by decide +kernel⟩, by decide +kernel, by decide +kernel, by decide +kernel⟩
theorem mi_X9_fits : Cond.instanceMethod yX9_fits ∈ q_gw := List.mem_filter.mpr ⟨List.mem_of_getElem? (i := 1125) (by decide +kernel), by decide +kernel⟩
abbrev mX9_stores : q_M := (RX9, yX9_stores, cX9_stores, 4, none)
theorem mt_X9_stores : q_MT mX9_stores 2 := ⟨List.mem_filter.mpr ⟨List.mem_of_getElem? (i := 1130) (by decide +kernel), by decide +kernel⟩, List.mem_filter.mpr ⟨List.mem_of_getElem? (i := 54) (by decide +kernel), by decide +kernel⟩, by decide +kernel, by decide +kernel, by decide +kernel⟩
theorem mi_X9_stores : Cond.instanceMethod yX9_stores ∈ q_gw := List.mem_filter.mpr ⟨List.mem_of_getElem? (i := 1129) (by decide +kernel), by decide +kernel⟩
abbrev mX9_ways : q_M := (RX9, yX9_ways, cX9_ways, 3, (some .int))
theorem mt_X9_ways : q_MT mX9_ways 2 := ⟨List.mem_filter.mpr ⟨List.mem_of_getElem? (i := 1134) (by decide +kernel), by decide +kernel⟩, List.mem_filter.mpr ⟨List.mem_of_getElem? (i := 54) (by decide +kernel), by decide +kernel⟩, by decide +kernel, by decide +kernel, by decide +kernel⟩
theorem mi_X9_ways : Cond.instanceMethod yX9_ways ∈ q_gw := List.mem_filter.mpr ⟨List.mem_of_getElem? (i := 1132) (by decide +kernel), by decide +kernel⟩
abbrev mX9_settle : q_M := (RX9, yX9_settle, cX9_settle, 3, (some .int))
theorem mt_X9_settle : q_MT mX9_settle 1 := ⟨List.mem_filter.mpr ⟨List.mem_of_getElem? (i := 1138) (by decide +kernel), by decide +kernel⟩, List.mem_filter.mpr ⟨List.mem_of_getElem? (i := 54) (by decide +kernel), by decide +kernel⟩, by decide +kernel, by decide +kernel, by decide +kernel⟩
theorem mi_X9_settle : Cond.instanceMethod yX9_settle ∈ q_gw := List.mem_filter.mpr ⟨List.mem_of_getElem? (i := 1136) (by decide +kernel), by decide +kernel⟩
abbrev mX9_settles : q_M := (RX9, yX9_settles, cX9_settles, 8, (some .int))
theorem mt_X9_settles : q_MT mX9_settles 2 := ⟨List.mem_filter.mpr ⟨List.mem_of_getElem? (i := 1142) (by decide +kernel), by decide +kernel⟩, List.mem_filter.mpr ⟨List.mem_of_getElem? (i := 54) (by decide +kernel), by decide +kernel⟩, by decide +kernel, by decide +kernel, by decide +kernel⟩
theorem mi_X9_settles : Cond.instanceMethod yX9_settles ∈ q_gw := List.mem_filter.mpr ⟨List.mem_of_getElem? (i := 1141) (by decide +kernel), by decide +kernel⟩
abbrev mX9_search : q_M := (RX9, yX9_search, cX9_search, 6, (some .int))
theorem mt_X9_search : q_MT mX9_search 3 := ⟨List.mem_filter.mpr ⟨List.mem_of_getElem? (i := 1146) (by decide +kernel), by decide +kernel⟩, List.mem_filter.mpr ⟨List.mem_of_getElem? (i := 54) (by decide +kernel), by decide +kernel⟩, by decide +kernel, by decide +kernel, by decide +kernel⟩
theorem mi_X9_search : Cond.instanceMethod yX9_search ∈ q_gw := List.mem_filter.mpr ⟨List.mem_of_getElem? (i := 1144) (by decide +kernel), by decide +kernel⟩
abbrev mX9_opens : q_M := (RX9, yX9_opens, cX9_opens, 6, (some .boolean))
theorem mt_X9_opens : q_MT mX9_opens 2 := ⟨List.mem_filter.mpr ⟨List.mem_of_getElem? (i := 1150) (by decide +kernel), by decide +kernel⟩, List.mem_filter.mpr ⟨List.mem_of_getElem? (i := 54) (by decide +kernel), by decide +kernel⟩, by decide +kernel, by decide +kernel, by decide +kernel⟩
theorem mi_X9_opens : Cond.instanceMethod yX9_opens ∈ q_gw := List.mem_filter.mpr ⟨List.mem_of_getElem? (i := 1149) (by decide +kernel), by decide +kernel⟩
abbrev mX9_openCell : q_M := (RX9, yX9_openCell, cX9_openCell, 7, (some .int))
theorem mt_X9_openCell : q_MT mX9_openCell 2 := ⟨List.mem_filter.mpr ⟨List.mem_of_getElem? (i := 1154) (by decide +kernel), by decide +kernel⟩, List.mem_filter.mpr ⟨List.mem_of_getElem? (i := 54) (by decide +kernel), by decide +kernel⟩, by decide +kernel, by decide +kernel, by decide +kernel⟩
theorem mi_X9_openCell : Cond.instanceMethod yX9_openCell ∈ q_gw := List.mem_filter.mpr ⟨List.mem_of_getElem? (i := 1153) (by decide +kernel), by decide +kernel⟩
abbrev mX9_sizeOfSet : q_M := (RX9, yX9_sizeOfSet, cX9_sizeOfSet, 3, (some .int))
theorem mt_X9_sizeOfSet : q_MT mX9_sizeOfSet 1 := ⟨List.mem_filter.mpr ⟨List.mem_of_getElem? (i := 1157) (by decide +kernel), by decide +kernel⟩, List.mem_filter.mpr ⟨List.mem_of_getElem? (i := 54) (by decide +kernel), by decide +kernel⟩, by decide +kernel, by decide +kernel, by decide +kernel⟩
theorem ms_X9_sizeOfSet : Cond.static yX9_sizeOfSet ∈ q_gw := List.mem_filter.mpr ⟨List.mem_of_getElem? (i := 1156) (by decide +kernel), by decide +kernel⟩
abbrev mX9_copies : q_M := (RX9, yX9_copies, cX9_copies, 5, none)
theorem mt_X9_copies : q_MT mX9_copies 3 := ⟨List.mem_filter.mpr ⟨List.mem_of_getElem? (i := 1161) (by decide +kernel), by decide +kernel⟩, List.mem_filter.mpr ⟨List.mem_of_getElem? (i := 54) (by decide +kernel), by decide +kernel⟩, by decide +kernel, by decide +kernel, by decide +kernel⟩
theorem mi_X9_copies : Cond.instanceMethod yX9_copies ∈ q_gw := List.mem_filter.mpr ⟨List.mem_of_getElem? (i := 1160) (by decide +kernel), by decide +kernel⟩
abbrev mX9_found : q_M := (RX9, yX9_found, cX9_found, 2, (some .int))
theorem mt_X9_found : q_MT mX9_found 1 := ⟨List.mem_filter.mpr ⟨List.mem_of_getElem? (i := 1165) (by decide +kernel), by decide +kernel⟩, List.mem_filter.mpr ⟨List.mem_of_getElem? (i := 54) (by decide +kernel), by decide +kernel⟩, by decide +kernel, by decide +kernel, by decide +kernel⟩
theorem mi_X9_found : Cond.instanceMethod yX9_found ∈ q_gw := List.mem_filter.mpr ⟨List.mem_of_getElem? (i := 1163) (by decide +kernel), by decide +kernel⟩
abbrev mX9_picture : q_M := (RX9, yX9_picture, cX9_picture, 3, (some .int))
theorem mt_X9_picture : q_MT mX9_picture 2 := ⟨List.mem_filter.mpr ⟨List.mem_of_getElem? (i := 1169) (by decide +kernel), by decide +kernel⟩, List.mem_filter.mpr ⟨List.mem_of_getElem? (i := 54) (by decide +kernel), by decide +kernel⟩, by decide +kernel, by decide +kernel, by decide +kernel⟩
theorem mi_X9_picture : Cond.instanceMethod yX9_picture ∈ q_gw := List.mem_filter.mpr ⟨List.mem_of_getElem? (i := 1167) (by decide +kernel), by decide +kernel⟩
abbrev mX9_grade : q_M := (RX9, yX9_grade, cX9_grade, 3, (some .int))
theorem mt_X9_grade : q_MT mX9_grade 1 := ⟨List.mem_filter.mpr ⟨List.mem_of_getElem? (i := 1173) (by decide +kernel), by decide +kernel⟩, List.mem_filter.mpr ⟨List.mem_of_getElem? (i := 54) (by decide +kernel), by decide +kernel⟩, by decide +kernel, by decide +kernel, by decide +kernel⟩
theorem mi_X9_grade : Cond.instanceMethod yX9_grade ∈ q_gw := List.mem_filter.mpr ⟨List.mem_of_getElem? (i := 1171) (by decide +kernel), by decide +kernel⟩
abbrev mX9_passes : q_M := (RX9, yX9_passes, cX9_passes, 5, (some .int))
theorem mt_X9_passes : q_MT mX9_passes 1 := ⟨List.mem_filter.mpr ⟨List.mem_of_getElem? (i := 1177) (by decide +kernel), by decide +kernel⟩, List.mem_filter.mpr ⟨List.mem_of_getElem? (i := 54) (by decide +kernel), by decide +kernel⟩, by decide +kernel, by decide +kernel, by decide +kernel⟩
theorem mi_X9_passes : Cond.instanceMethod yX9_passes ∈ q_gw := List.mem_filter.mpr ⟨List.mem_of_getElem? (i := 1176) (by decide +kernel), by decide +kernel⟩
abbrev mX9_probes : q_M := (RX9, yX9_probes, cX9_probes, 1, (some .int))
theorem mt_X9_probes : q_MT mX9_probes 0 := ⟨List.mem_filter.mpr ⟨List.mem_of_getElem? (i := 1181) (by decide +kernel), by decide +kernel⟩, List.mem_filter.mpr ⟨List.mem_of_getElem? (i := 54) (by decide +kernel), by decide +kernel⟩, by decide +kernel, by decide +kernel, by decide +kernel⟩
theorem mi_X9_probes : Cond.instanceMethod yX9_probes ∈ q_gw := List.mem_filter.mpr ⟨List.mem_of_getElem? (i := 1179) (by decide +kernel), by decide +kernel⟩
abbrev mX9_paint : q_M := (RX9, yX9_paint, cX9_paint, 4, (some .boolean))
theorem mt_X9_paint : q_MT mX9_paint 3 := ⟨List.mem_filter.mpr ⟨List.mem_of_getElem? (i := 1185) (by decide +kernel), by decide +kernel⟩, List.mem_filter.mpr ⟨List.mem_of_getElem? (i := 54) (by decide +kernel), by decide +kernel⟩, by decide +kernel, by decide +kernel, by decide +kernel⟩
theorem mi_X9_paint : Cond.instanceMethod yX9_paint ∈ q_gw := List.mem_filter.mpr ⟨List.mem_of_getElem? (i := 1183) (by decide +kernel), by decide +kernel⟩
abbrev mX9_make : q_M := (RX9, yX9_make, cX9_make, 10, (some .int))
theorem mt_X9_make : q_MT mX9_make 3 := ⟨List.mem_filter.mpr ⟨List.mem_of_getElem? (i := 1189) (by decide +kernel), by decide +kernel⟩, List.mem_filter.mpr ⟨List.mem_of_getElem? (i := 54) (by decide +kernel), by decide +kernel⟩, by decide +kernel, by decide +kernel, by decide +kernel⟩
theorem mi_X9_make : Cond.instanceMethod yX9_make ∈ q_gw := List.mem_filter.mpr ⟨List.mem_of_getElem? (i := 1187) (by decide +kernel), by decide +kernel⟩
abbrev mX9_painted : q_M := (RX9, yX9_painted, cX9_painted, 4, (some .int))
theorem mt_X9_painted : q_MT mX9_painted 3 := ⟨List.mem_filter.mpr ⟨List.mem_of_getElem? (i := 1194) (by decide +kernel), by decide +kernel⟩, List.mem_filter.mpr ⟨List.mem_of_getElem? (i := 54) (by decide +kernel), by decide +kernel⟩, by decide +kernel, by decide +kernel, by decide +kernel⟩
theorem mi_X9_painted : Cond.instanceMethod yX9_painted ∈ q_gw := List.mem_filter.mpr ⟨List.mem_of_getElem? (i := 1193) (by decide +kernel), by decide +kernel⟩
abbrev mX9_turn : q_M := (RX9, yX9_turn, cX9_turn, 10, (some .int))
theorem mt_X9_turn : q_MT mX9_turn 2 := ⟨List.mem_filter.mpr ⟨List.mem_of_getElem? (i := 1198) (by decide +kernel), by decide +kernel⟩, List.mem_filter.mpr ⟨List.mem_of_getElem? (i := 54) (by decide +kernel), by decide +kernel⟩, by decide +kernel, by decide +kernel, by decide +kernel⟩
theorem mi_X9_turn : Cond.instanceMethod yX9_turn ∈ q_gw := List.mem_filter.mpr ⟨List.mem_of_getElem? (i := 1196) (by decide +kernel), by decide +kernel⟩
abbrev mX9_source : q_M := (RX9, yX9_source, cX9_source, 8, (some .int))
theorem mt_X9_source : q_MT mX9_source 3 := ⟨List.mem_filter.mpr ⟨List.mem_of_getElem? (i := 1202) (by decide +kernel), by decide +kernel⟩, List.mem_filter.mpr ⟨List.mem_of_getElem? (i := 54) (by decide +kernel), by decide +kernel⟩, by decide +kernel, by decide +kernel, by decide +kernel⟩
theorem mi_X9_source : Cond.instanceMethod yX9_source ∈ q_gw := List.mem_filter.mpr ⟨List.mem_of_getElem? (i := 1201) (by decide +kernel), by decide +kernel⟩
abbrev mX9_isRound : q_M := (RX9, yX9_isRound, cX9_isRound, 4, (some .boolean))
theorem mt_X9_isRound : q_MT mX9_isRound 3 := ⟨List.mem_filter.mpr ⟨List.mem_of_getElem? (i := 1206) (by decide +kernel), by decide +kernel⟩, List.mem_filter.mpr ⟨List.mem_of_getElem? (i := 54) (by decide +kernel), by decide +kernel⟩, by decide +kernel, by decide +kernel, by decide +kernel⟩
theorem mi_X9_isRound : Cond.instanceMethod yX9_isRound ∈ q_gw := List.mem_filter.mpr ⟨List.mem_of_getElem? (i := 1205) (by decide +kernel), by decide +kernel⟩
abbrev mX9_same : q_M := (RX9, yX9_same, cX9_same, 4, (some .int))
theorem mt_X9_same : q_MT mX9_same 2 := ⟨List.mem_filter.mpr ⟨List.mem_of_getElem? (i := 1210) (by decide +kernel), by decide +kernel⟩, List.mem_filter.mpr ⟨List.mem_of_getElem? (i := 54) (by decide +kernel), by decide +kernel⟩, by decide +kernel, by decide +kernel, by decide +kernel⟩
theorem mi_X9_same : Cond.instanceMethod yX9_same ∈ q_gw := List.mem_filter.mpr ⟨List.mem_of_getElem? (i := 1208) (by decide +kernel), by decide +kernel⟩
abbrev mX9_isSame : q_M := (RX9, yX9_isSame, cX9_isSame, 10, (some .boolean))
theorem mt_X9_isSame : q_MT mX9_isSame 3 := ⟨List.mem_filter.mpr ⟨List.mem_of_getElem? (i := 1214) (by decide +kernel), by decide +kernel⟩, List.mem_filter.mpr ⟨List.mem_of_getElem? (i := 54) (by decide +kernel), by decide +kernel⟩, by decide +kernel, by decide +kernel, by decide +kernel⟩
theorem mi_X9_isSame : Cond.instanceMethod yX9_isSame ∈ q_gw := List.mem_filter.mpr ⟨List.mem_of_getElem? (i := 1213) (by decide +kernel), by decide +kernel⟩
abbrev mX9_game : q_M := (RX9, yX9_game, cX9_game, 3, (some .int))
theorem mt_X9_game : q_MT mX9_game 1 := ⟨List.mem_filter.mpr ⟨List.mem_of_getElem? (i := 1218) (by decide +kernel), by decide +kernel⟩, List.mem_filter.mpr ⟨List.mem_of_getElem? (i := 54) (by decide +kernel), by decide +kernel⟩, by decide +kernel, by decide +kernel, by decide +kernel⟩
theorem mi_X9_game : Cond.instanceMethod yX9_game ∈ q_gw := List.mem_filter.mpr ⟨List.mem_of_getElem? (i := 1216) (by decide +kernel), by decide +kernel⟩
abbrev mX9_mark : q_M := (RX9, yX9_mark, cX9_mark, 5, (some .boolean))
theorem mt_X9_mark : q_MT mX9_mark 3 := ⟨List.mem_filter.mpr ⟨List.mem_of_getElem? (i := 1222) (by decide +kernel), by decide +kernel⟩, List.mem_filter.mpr ⟨List.mem_of_getElem? (i := 54) (by decide +kernel), by decide +kernel⟩, by decide +kernel, by decide +kernel, by decide +kernel⟩
theorem mi_X9_mark : Cond.instanceMethod yX9_mark ∈ q_gw := List.mem_filter.mpr ⟨List.mem_of_getElem? (i := 1220) (by decide +kernel), by decide +kernel⟩
abbrev mX9_isGame : q_M := (RX9, yX9_isGame, cX9_isGame, 2, (some .boolean))
theorem mt_X9_isGame : q_MT mX9_isGame 1 := ⟨List.mem_filter.mpr ⟨List.mem_of_getElem? (i := 1226) (by decide +kernel), by decide +kernel⟩, List.mem_filter.mpr ⟨List.mem_of_getElem? (i := 54) (by decide +kernel), by decide +kernel⟩, by decide +kernel, by decide +kernel, by decide +kernel⟩
theorem mi_X9_isGame : Cond.instanceMethod yX9_isGame ∈ q_gw := List.mem_filter.mpr ⟨List.mem_of_getElem? (i := 1225) (by decide +kernel), by decide +kernel⟩
abbrev mX9_marked : q_M := (RX9, yX9_marked, cX9_marked, 3, (some .int))
theorem mt_X9_marked : q_MT mX9_marked 2 := ⟨List.mem_filter.mpr ⟨List.mem_of_getElem? (i := 1230) (by decide +kernel), by decide +kernel⟩, List.mem_filter.mpr ⟨List.mem_of_getElem? (i := 54) (by decide +kernel), by decide +kernel⟩, by decide +kernel, by decide +kernel, by decide +kernel⟩
theorem mi_X9_marked : Cond.instanceMethod yX9_marked ∈ q_gw := List.mem_filter.mpr ⟨List.mem_of_getElem? (i := 1228) (by decide +kernel), by decide +kernel⟩
abbrev mX9_undo : q_M := (RX9, yX9_undo, cX9_undo, 3, (some .int))
theorem mt_X9_undo : q_MT mX9_undo 1 := ⟨List.mem_filter.mpr ⟨List.mem_of_getElem? (i := 1234) (by decide +kernel), by decide +kernel⟩, List.mem_filter.mpr ⟨List.mem_of_getElem? (i := 54) (by decide +kernel), by decide +kernel⟩, by decide +kernel, by decide +kernel, by decide +kernel⟩
theorem mi_X9_undo : Cond.instanceMethod yX9_undo ∈ q_gw := List.mem_filter.mpr ⟨List.mem_of_getElem? (i := 1232) (by decide +kernel), by decide +kernel⟩
abbrev mX9_redo : q_M := (RX9, yX9_redo, cX9_redo, 3, (some .int))
theorem mt_X9_redo : q_MT mX9_redo 1 := ⟨List.mem_filter.mpr ⟨List.mem_of_getElem? (i := 1238) (by decide +kernel), by decide +kernel⟩, List.mem_filter.mpr ⟨List.mem_of_getElem? (i := 54) (by decide +kernel), by decide +kernel⟩, by decide +kernel, by decide +kernel, by decide +kernel⟩
theorem mi_X9_redo : Cond.instanceMethod yX9_redo ∈ q_gw := List.mem_filter.mpr ⟨List.mem_of_getElem? (i := 1236) (by decide +kernel), by decide +kernel⟩
abbrev mX9_hint : q_M := (RX9, yX9_hint, cX9_hint, 7, (some .int))
theorem mt_X9_hint : q_MT mX9_hint 1 := ⟨List.mem_filter.mpr ⟨List.mem_of_getElem? (i := 1242) (by decide +kernel), by decide +kernel⟩, List.mem_filter.mpr ⟨List.mem_of_getElem? (i := 54) (by decide +kernel), by decide +kernel⟩, by decide +kernel, by decide +kernel, by decide +kernel⟩
theorem mi_X9_hint : Cond.instanceMethod yX9_hint ∈ q_gw := List.mem_filter.mpr ⟨List.mem_of_getElem? (i := 1240) (by decide +kernel), by decide +kernel⟩
abbrev mX9_marksAsSets : q_M := (RX9, yX9_marksAsSets, cX9_marksAsSets, 5, none)
theorem mt_X9_marksAsSets : q_MT mX9_marksAsSets 1 := ⟨List.mem_filter.mpr ⟨List.mem_of_getElem? (i := 1246) (by decide +kernel), by decide +kernel⟩, List.mem_filter.mpr ⟨List.mem_of_getElem? (i := 54) (by decide +kernel), by decide +kernel⟩, by decide +kernel, by decide +kernel, by decide +kernel⟩
theorem mi_X9_marksAsSets : Cond.instanceMethod yX9_marksAsSets ∈ q_gw := List.mem_filter.mpr ⟨List.mem_of_getElem? (i := 1245) (by decide +kernel), by decide +kernel⟩
abbrev mX9_state : q_M := (RX9, yX9_state, cX9_state, 7, (some .int))
theorem mt_X9_state : q_MT mX9_state 2 := ⟨List.mem_filter.mpr ⟨List.mem_of_getElem? (i := 1250) (by decide +kernel), by decide +kernel⟩, List.mem_filter.mpr ⟨List.mem_of_getElem? (i := 54) (by decide +kernel), by decide +kernel⟩, by decide +kernel, by decide +kernel, by decide +kernel⟩
theorem mi_X9_state : Cond.instanceMethod yX9_state ∈ q_gw := List.mem_filter.mpr ⟨List.mem_of_getElem? (i := 1248) (by decide +kernel), by decide +kernel⟩
abbrev mX9_write : q_M := (RX9, yX9_write, cX9_write, 6, (some .int))
theorem mt_X9_write : q_MT mX9_write 2 := ⟨List.mem_filter.mpr ⟨List.mem_of_getElem? (i := 1254) (by decide +kernel), by decide +kernel⟩, List.mem_filter.mpr ⟨List.mem_of_getElem? (i := 54) (by decide +kernel), by decide +kernel⟩, by decide +kernel, by decide +kernel, by decide +kernel⟩
theorem mi_X9_write : Cond.instanceMethod yX9_write ∈ q_gw := List.mem_filter.mpr ⟨List.mem_of_getElem? (i := 1252) (by decide +kernel), by decide +kernel⟩
abbrev mX9_sign : q_M := (RX9, yX9_sign, cX9_sign, 2, none)
theorem mt_X9_sign : q_MT mX9_sign 1 := ⟨List.mem_filter.mpr ⟨List.mem_of_getElem? (i := 1258) (by decide +kernel), by decide +kernel⟩, List.mem_filter.mpr ⟨List.mem_of_getElem? (i := 54) (by decide +kernel), by decide +kernel⟩, by decide +kernel, by decide +kernel, by decide +kernel⟩
theorem mi_X9_sign : Cond.instanceMethod yX9_sign ∈ q_gw := List.mem_filter.mpr ⟨List.mem_of_getElem? (i := 1257) (by decide +kernel), by decide +kernel⟩
abbrev mX9_out : q_M := (RX9, yX9_out, cX9_out, 2, (some .int))
theorem mt_X9_out : q_MT mX9_out 1 := ⟨List.mem_filter.mpr ⟨List.mem_of_getElem? (i := 1262) (by decide +kernel), by decide +kernel⟩, List.mem_filter.mpr ⟨List.mem_of_getElem? (i := 54) (by decide +kernel), by decide +kernel⟩, by decide +kernel, by decide +kernel, by decide +kernel⟩
theorem mi_X9_out : Cond.instanceMethod yX9_out ∈ q_gw := List.mem_filter.mpr ⟨List.mem_of_getElem? (i := 1260) (by decide +kernel), by decide +kernel⟩
abbrev mX9_count : q_M := (RX9, yX9_count, cX9_count, 2, (some .int))
theorem mt_X9_count : q_MT mX9_count 1 := ⟨List.mem_filter.mpr ⟨List.mem_of_getElem? (i := 1266) (by decide +kernel), by decide +kernel⟩, List.mem_filter.mpr ⟨List.mem_of_getElem? (i := 54) (by decide +kernel), by decide +kernel⟩, by decide +kernel, by decide +kernel, by decide +kernel⟩
theorem mi_X9_count : Cond.instanceMethod yX9_count ∈ q_gw := List.mem_filter.mpr ⟨List.mem_of_getElem? (i := 1264) (by decide +kernel), by decide +kernel⟩
theorem se_X8_puzzle : Cond.selects RX8 yX8_puzzle yX8_puzzle ∈ q_gw := List.mem_filter.mpr ⟨List.mem_of_getElem? (i := 229) (by decide +kernel), by decide +kernel⟩
theorem se_X4_clearDesk : Cond.selects RX4 yX4_clearDesk yX4_clearDesk ∈ q_gw := List.mem_filter.mpr ⟨List.mem_of_getElem? (i := 313) (by decide +kernel), by decide +kernel⟩
theorem se_X4_full : Cond.selects RX4 yX4_full yX4_full ∈ q_gw := List.mem_filter.mpr ⟨List.mem_of_getElem? (i := 317) (by decide +kernel), by decide +kernel⟩
theorem se_X8_run : Cond.selects RX8 yX8_run yX8_run ∈ q_gw := List.mem_filter.mpr ⟨List.mem_of_getElem? (i := 363) (by decide +kernel), by decide +kernel⟩
theorem se_X3_append : Cond.selects RX3 yX3_append yX3_append ∈ q_gw := List.mem_filter.mpr ⟨List.mem_of_getElem? (i := 374) (by decide +kernel), by decide +kernel⟩
theorem se_X8_told : Cond.selects RX8 yX8_told yX8_told ∈ q_gw := List.mem_filter.mpr ⟨List.mem_of_getElem? (i := 379) (by decide +kernel), by decide +kernel⟩
theorem se_X4_allRuns : Cond.selects RX4 yX4_allRuns yX4_allRuns ∈ q_gw := List.mem_filter.mpr ⟨List.mem_of_getElem? (i := 383) (by decide +kernel), by decide +kernel⟩
theorem se_X4_decidedCells : Cond.selects RX4 yX4_decidedCells yX4_decidedCells ∈ q_gw := List.mem_filter.mpr ⟨List.mem_of_getElem? (i := 387) (by decide +kernel), by decide +kernel⟩
theorem se_X8_clue : Cond.selects RX8 yX8_clue yX8_clue ∈ q_gw := List.mem_filter.mpr ⟨List.mem_of_getElem? (i := 400) (by decide +kernel), by decide +kernel⟩
theorem se_X8_fresh : Cond.selects RX8 yX8_fresh yX8_fresh ∈ q_gw := List.mem_filter.mpr ⟨List.mem_of_getElem? (i := 404) (by decide +kernel), by decide +kernel⟩
theorem se_X8_choose : Cond.selects RX8 yX8_choose yX8_choose ∈ q_gw := List.mem_filter.mpr ⟨List.mem_of_getElem? (i := 408) (by decide +kernel), by decide +kernel⟩
theorem se_X4_deskHolds : Cond.selects RX4 yX4_deskHolds yX4_deskHolds ∈ q_gw := List.mem_filter.mpr ⟨List.mem_of_getElem? (i := 412) (by decide +kernel), by decide +kernel⟩
theorem se_X4_hasCell : Cond.selects RX4 yX4_hasCell yX4_hasCell ∈ q_gw := List.mem_filter.mpr ⟨List.mem_of_getElem? (i := 416) (by decide +kernel), by decide +kernel⟩
theorem se_X8_bar : Cond.selects RX8 yX8_bar yX8_bar ∈ q_gw := List.mem_filter.mpr ⟨List.mem_of_getElem? (i := 421) (by decide +kernel), by decide +kernel⟩
theorem se_X8_set : Cond.selects RX8 yX8_set yX8_set ∈ q_gw := List.mem_filter.mpr ⟨List.mem_of_getElem? (i := 426) (by decide +kernel), by decide +kernel⟩
theorem se_X8_step : Cond.selects RX8 yX8_step yX8_step ∈ q_gw := List.mem_filter.mpr ⟨List.mem_of_getElem? (i := 431) (by decide +kernel), by decide +kernel⟩
theorem se_X7_narrow : Cond.selects RX7 yX7_narrow yX7_narrow ∈ q_gw := List.mem_filter.mpr ⟨List.mem_of_getElem? (i := 435) (by decide +kernel), by decide +kernel⟩
theorem se_X5_weigh : Cond.selects RX5 yX5_weigh yX5_weigh ∈ q_gw := List.mem_filter.mpr ⟨List.mem_of_getElem? (i := 439) (by decide +kernel), by decide +kernel⟩
theorem se_X3_cellAt : Cond.selects RX3 yX3_cellAt yX3_cellAt ∈ q_gw := List.mem_filter.mpr ⟨List.mem_of_getElem? (i := 443) (by decide +kernel), by decide +kernel⟩
theorem se_X8_ways : Cond.selects RX8 yX8_ways yX8_ways ∈ q_gw := List.mem_filter.mpr ⟨List.mem_of_getElem? (i := 452) (by decide +kernel), by decide +kernel⟩
theorem se_X5_countFillings : Cond.selects RX5 yX5_countFillings yX5_countFillings ∈ q_gw := List.mem_filter.mpr ⟨List.mem_of_getElem? (i := 456) (by decide +kernel), by decide +kernel⟩
theorem se_X8_settle : Cond.selects RX8 yX8_settle yX8_settle ∈ q_gw := List.mem_filter.mpr ⟨List.mem_of_getElem? (i := 465) (by decide +kernel), by decide +kernel⟩
theorem se_X4_everyLine : Cond.selects RX4 yX4_everyLine yX4_everyLine ∈ q_gw := List.mem_filter.mpr ⟨List.mem_of_getElem? (i := 472) (by decide +kernel), by decide +kernel⟩
theorem se_X7_bringToRest : Cond.selects RX7 yX7_bringToRest yX7_bringToRest ∈ q_gw := List.mem_filter.mpr ⟨List.mem_of_getElem? (i := 476) (by decide +kernel), by decide +kernel⟩
theorem se_X8_search : Cond.selects RX8 yX8_search yX8_search ∈ q_gw := List.mem_filter.mpr ⟨List.mem_of_getElem? (i := 482) (by decide +kernel), by decide +kernel⟩
theorem se_X6_seek : Cond.selects RX6 yX6_seek yX6_seek ∈ q_gw := List.mem_filter.mpr ⟨List.mem_of_getElem? (i := 486) (by decide +kernel), by decide +kernel⟩
theorem se_X2_pickCell : Cond.selects RX2 yX2_pickCell yX2_pickCell ∈ q_gw := List.mem_filter.mpr ⟨List.mem_of_getElem? (i := 527) (by decide +kernel), by decide +kernel⟩
theorem se_X2_takeColour : Cond.selects RX2 yX2_takeColour yX2_takeColour ∈ q_gw := List.mem_filter.mpr ⟨List.mem_of_getElem? (i := 533) (by decide +kernel), by decide +kernel⟩
theorem se_X4_linesThrough : Cond.selects RX4 yX4_linesThrough yX4_linesThrough ∈ q_gw := List.mem_filter.mpr ⟨List.mem_of_getElem? (i := 538) (by decide +kernel), by decide +kernel⟩
theorem se_X8_found : Cond.selects RX8 yX8_found yX8_found ∈ q_gw := List.mem_filter.mpr ⟨List.mem_of_getElem? (i := 542) (by decide +kernel), by decide +kernel⟩
theorem se_X8_picture : Cond.selects RX8 yX8_picture yX8_picture ∈ q_gw := List.mem_filter.mpr ⟨List.mem_of_getElem? (i := 546) (by decide +kernel), by decide +kernel⟩
theorem se_X8_grade : Cond.selects RX8 yX8_grade yX8_grade ∈ q_gw := List.mem_filter.mpr ⟨List.mem_of_getElem? (i := 550) (by decide +kernel), by decide +kernel⟩
theorem se_X1_assess : Cond.selects RX1 yX1_assess yX1_assess ∈ q_gw := List.mem_filter.mpr ⟨List.mem_of_getElem? (i := 554) (by decide +kernel), by decide +kernel⟩
theorem se_X8_probes : Cond.selects RX8 yX8_probes yX8_probes ∈ q_gw := List.mem_filter.mpr ⟨List.mem_of_getElem? (i := 572) (by decide +kernel), by decide +kernel⟩
theorem se_X8_paint : Cond.selects RX8 yX8_paint yX8_paint ∈ q_gw := List.mem_filter.mpr ⟨List.mem_of_getElem? (i := 576) (by decide +kernel), by decide +kernel⟩
theorem se_X8_make : Cond.selects RX8 yX8_make yX8_make ∈ q_gw := List.mem_filter.mpr ⟨List.mem_of_getElem? (i := 580) (by decide +kernel), by decide +kernel⟩
theorem se_X3_readRuns : Cond.selects RX3 yX3_readRuns yX3_readRuns ∈ q_gw := List.mem_filter.mpr ⟨List.mem_of_getElem? (i := 588) (by decide +kernel), by decide +kernel⟩
theorem se_X8_turn : Cond.selects RX8 yX8_turn yX8_turn ∈ q_gw := List.mem_filter.mpr ⟨List.mem_of_getElem? (i := 594) (by decide +kernel), by decide +kernel⟩
theorem se_X4_turned : Cond.selects RX4 yX4_turned yX4_turned ∈ q_gw := List.mem_filter.mpr ⟨List.mem_of_getElem? (i := 598) (by decide +kernel), by decide +kernel⟩
theorem se_X3_copyRuns : Cond.selects RX3 yX3_copyRuns yX3_copyRuns ∈ q_gw := List.mem_filter.mpr ⟨List.mem_of_getElem? (i := 612) (by decide +kernel), by decide +kernel⟩
theorem se_X8_same : Cond.selects RX8 yX8_same yX8_same ∈ q_gw := List.mem_filter.mpr ⟨List.mem_of_getElem? (i := 616) (by decide +kernel), by decide +kernel⟩
theorem se_X4_turnsInto : Cond.selects RX4 yX4_turnsInto yX4_turnsInto ∈ q_gw := List.mem_filter.mpr ⟨List.mem_of_getElem? (i := 620) (by decide +kernel), by decide +kernel⟩
theorem se_X3_hasRunsOf : Cond.selects RX3 yX3_hasRunsOf yX3_hasRunsOf ∈ q_gw := List.mem_filter.mpr ⟨List.mem_of_getElem? (i := 624) (by decide +kernel), by decide +kernel⟩
theorem se_X8_game : Cond.selects RX8 yX8_game yX8_game ∈ q_gw := List.mem_filter.mpr ⟨List.mem_of_getElem? (i := 628) (by decide +kernel), by decide +kernel⟩
theorem se_X8_mark : Cond.selects RX8 yX8_mark yX8_mark ∈ q_gw := List.mem_filter.mpr ⟨List.mem_of_getElem? (i := 672) (by decide +kernel), by decide +kernel⟩
theorem se_X0_change : Cond.selects RX0 yX0_change yX0_change ∈ q_gw := List.mem_filter.mpr ⟨List.mem_of_getElem? (i := 680) (by decide +kernel), by decide +kernel⟩
theorem se_X8_marked : Cond.selects RX8 yX8_marked yX8_marked ∈ q_gw := List.mem_filter.mpr ⟨List.mem_of_getElem? (i := 684) (by decide +kernel), by decide +kernel⟩
theorem se_X8_undo : Cond.selects RX8 yX8_undo yX8_undo ∈ q_gw := List.mem_filter.mpr ⟨List.mem_of_getElem? (i := 688) (by decide +kernel), by decide +kernel⟩
theorem se_X0_takeBack : Cond.selects RX0 yX0_takeBack yX0_takeBack ∈ q_gw := List.mem_filter.mpr ⟨List.mem_of_getElem? (i := 692) (by decide +kernel), by decide +kernel⟩
theorem se_X8_redo : Cond.selects RX8 yX8_redo yX8_redo ∈ q_gw := List.mem_filter.mpr ⟨List.mem_of_getElem? (i := 696) (by decide +kernel), by decide +kernel⟩
theorem se_X0_doAgain : Cond.selects RX0 yX0_doAgain yX0_doAgain ∈ q_gw := List.mem_filter.mpr ⟨List.mem_of_getElem? (i := 700) (by decide +kernel), by decide +kernel⟩
theorem se_X8_hint : Cond.selects RX8 yX8_hint yX8_hint ∈ q_gw := List.mem_filter.mpr ⟨List.mem_of_getElem? (i := 704) (by decide +kernel), by decide +kernel⟩
theorem se_X0_marksAsSets : Cond.selects RX0 yX0_marksAsSets yX0_marksAsSets ∈ q_gw := List.mem_filter.mpr ⟨List.mem_of_getElem? (i := 712) (by decide +kernel), by decide +kernel⟩
theorem se_X8_state : Cond.selects RX8 yX8_state yX8_state ∈ q_gw := List.mem_filter.mpr ⟨List.mem_of_getElem? (i := 720) (by decide +kernel), by decide +kernel⟩
theorem se_X0_markedCells : Cond.selects RX0 yX0_markedCells yX0_markedCells ∈ q_gw := List.mem_filter.mpr ⟨List.mem_of_getElem? (i := 724) (by decide +kernel), by decide +kernel⟩
theorem se_X8_write : Cond.selects RX8 yX8_write yX8_write ∈ q_gw := List.mem_filter.mpr ⟨List.mem_of_getElem? (i := 732) (by decide +kernel), by decide +kernel⟩
theorem se_J4_setLength_d00df : Cond.selects RJ4 yJ4_setLength_d00df yJ4_setLength_d00df ∈ q_gw := List.mem_filter.mpr ⟨List.mem_of_getElem? (i := 736) (by decide +kernel), by decide +kernel⟩
-- selects [B ('[B', 'clone', '()Ljava/lang/Object;') ('java/lang/Object', 'clone', '()Ljava/lang/Object;') at 767
-- selects java/lang/StringBuilder ('java/lang/AbstractStringBuilder', 'isLatin1', '()Z') ('java/lang/AbstractStringBuilder', 'isLatin1', '()Z') at 777
theorem se_J4_append_cf468 : Cond.selects RJ4 yJ4_append_cf468 yJ4_append_cf468 ∈ q_gw := List.mem_filter.mpr ⟨List.mem_of_getElem? (i := 794) (by decide +kernel), by decide +kernel⟩
theorem se_J4_append_bf812 : Cond.selects RJ4 yJ4_append_bf812 yJ4_append_bf812 ∈ q_gw := List.mem_filter.mpr ⟨List.mem_of_getElem? (i := 849) (by decide +kernel), by decide +kernel⟩
theorem se_J4_length_8abf5 : Cond.selects RJ4 yJ4_length_8abf5 yJ4_length_8abf5 ∈ q_gw := List.mem_filter.mpr ⟨List.mem_of_getElem? (i := 883) (by decide +kernel), by decide +kernel⟩
theorem se_X8_out : Cond.selects RX8 yX8_out yX8_out ∈ q_gw := List.mem_filter.mpr ⟨List.mem_of_getElem? (i := 890) (by decide +kernel), by decide +kernel⟩
theorem se_J4_charAt_5068e : Cond.selects RJ4 yJ4_charAt_5068e yJ4_charAt_5068e ∈ q_gw := List.mem_filter.mpr ⟨List.mem_of_getElem? (i := 894) (by decide +kernel), by decide +kernel⟩
theorem se_X8_count : Cond.selects RX8 yX8_count yX8_count ∈ q_gw := List.mem_filter.mpr ⟨List.mem_of_getElem? (i := 906) (by decide +kernel), by decide +kernel⟩
theorem se_X9_puzzle : Cond.selects RX9 yX9_puzzle yX9_puzzle ∈ q_gw := List.mem_filter.mpr ⟨List.mem_of_getElem? (i := 1026) (by decide +kernel), by decide +kernel⟩
theorem se_X9_fresh : Cond.selects RX9 yX9_fresh yX9_fresh ∈ q_gw := List.mem_filter.mpr ⟨List.mem_of_getElem? (i := 1033) (by decide +kernel), by decide +kernel⟩
theorem se_X9_run : Cond.selects RX9 yX9_run yX9_run ∈ q_gw := List.mem_filter.mpr ⟨List.mem_of_getElem? (i := 1050) (by decide +kernel), by decide +kernel⟩
theorem se_X9_told : Cond.selects RX9 yX9_told yX9_told ∈ q_gw := List.mem_filter.mpr ⟨List.mem_of_getElem? (i := 1070) (by decide +kernel), by decide +kernel⟩
theorem se_X9_clue : Cond.selects RX9 yX9_clue yX9_clue ∈ q_gw := List.mem_filter.mpr ⟨List.mem_of_getElem? (i := 1077) (by decide +kernel), by decide +kernel⟩
theorem se_X9_choose : Cond.selects RX9 yX9_choose yX9_choose ∈ q_gw := List.mem_filter.mpr ⟨List.mem_of_getElem? (i := 1081) (by decide +kernel), by decide +kernel⟩
theorem se_X9_bar : Cond.selects RX9 yX9_bar yX9_bar ∈ q_gw := List.mem_filter.mpr ⟨List.mem_of_getElem? (i := 1089) (by decide +kernel), by decide +kernel⟩
theorem se_X9_set : Cond.selects RX9 yX9_set yX9_set ∈ q_gw := List.mem_filter.mpr ⟨List.mem_of_getElem? (i := 1093) (by decide +kernel), by decide +kernel⟩
theorem se_X9_step : Cond.selects RX9 yX9_step yX9_step ∈ q_gw := List.mem_filter.mpr ⟨List.mem_of_getElem? (i := 1097) (by decide +kernel), by decide +kernel⟩
theorem se_X9_ways : Cond.selects RX9 yX9_ways yX9_ways ∈ q_gw := List.mem_filter.mpr ⟨List.mem_of_getElem? (i := 1133) (by decide +kernel), by decide +kernel⟩
theorem se_X9_settle : Cond.selects RX9 yX9_settle yX9_settle ∈ q_gw := List.mem_filter.mpr ⟨List.mem_of_getElem? (i := 1137) (by decide +kernel), by decide +kernel⟩
theorem se_X9_search : Cond.selects RX9 yX9_search yX9_search ∈ q_gw := List.mem_filter.mpr ⟨List.mem_of_getElem? (i := 1145) (by decide +kernel), by decide +kernel⟩
theorem se_X9_found : Cond.selects RX9 yX9_found yX9_found ∈ q_gw := List.mem_filter.mpr ⟨List.mem_of_getElem? (i := 1164) (by decide +kernel), by decide +kernel⟩
theorem se_X9_picture : Cond.selects RX9 yX9_picture yX9_picture ∈ q_gw := List.mem_filter.mpr ⟨List.mem_of_getElem? (i := 1168) (by decide +kernel), by decide +kernel⟩
theorem se_X9_grade : Cond.selects RX9 yX9_grade yX9_grade ∈ q_gw := List.mem_filter.mpr ⟨List.mem_of_getElem? (i := 1172) (by decide +kernel), by decide +kernel⟩
theorem se_X9_probes : Cond.selects RX9 yX9_probes yX9_probes ∈ q_gw := List.mem_filter.mpr ⟨List.mem_of_getElem? (i := 1180) (by decide +kernel), by decide +kernel⟩
theorem se_X9_paint : Cond.selects RX9 yX9_paint yX9_paint ∈ q_gw := List.mem_filter.mpr ⟨List.mem_of_getElem? (i := 1184) (by decide +kernel), by decide +kernel⟩
theorem se_X9_make : Cond.selects RX9 yX9_make yX9_make ∈ q_gw := List.mem_filter.mpr ⟨List.mem_of_getElem? (i := 1188) (by decide +kernel), by decide +kernel⟩
theorem se_X9_turn : Cond.selects RX9 yX9_turn yX9_turn ∈ q_gw := List.mem_filter.mpr ⟨List.mem_of_getElem? (i := 1197) (by decide +kernel), by decide +kernel⟩
theorem se_X9_same : Cond.selects RX9 yX9_same yX9_same ∈ q_gw := List.mem_filter.mpr ⟨List.mem_of_getElem? (i := 1209) (by decide +kernel), by decide +kernel⟩
theorem se_X9_game : Cond.selects RX9 yX9_game yX9_game ∈ q_gw := List.mem_filter.mpr ⟨List.mem_of_getElem? (i := 1217) (by decide +kernel), by decide +kernel⟩
theorem se_X9_mark : Cond.selects RX9 yX9_mark yX9_mark ∈ q_gw := List.mem_filter.mpr ⟨List.mem_of_getElem? (i := 1221) (by decide +kernel), by decide +kernel⟩
theorem se_X9_marked : Cond.selects RX9 yX9_marked yX9_marked ∈ q_gw := List.mem_filter.mpr ⟨List.mem_of_getElem? (i := 1229) (by decide +kernel), by decide +kernel⟩
theorem se_X9_undo : Cond.selects RX9 yX9_undo yX9_undo ∈ q_gw := List.mem_filter.mpr ⟨List.mem_of_getElem? (i := 1233) (by decide +kernel), by decide +kernel⟩
theorem se_X9_redo : Cond.selects RX9 yX9_redo yX9_redo ∈ q_gw := List.mem_filter.mpr ⟨List.mem_of_getElem? (i := 1237) (by decide +kernel), by decide +kernel⟩
theorem se_X9_hint : Cond.selects RX9 yX9_hint yX9_hint ∈ q_gw := List.mem_filter.mpr ⟨List.mem_of_getElem? (i := 1241) (by decide +kernel), by decide +kernel⟩
theorem se_X9_state : Cond.selects RX9 yX9_state yX9_state ∈ q_gw := List.mem_filter.mpr ⟨List.mem_of_getElem? (i := 1249) (by decide +kernel), by decide +kernel⟩
theorem se_X9_write : Cond.selects RX9 yX9_write yX9_write ∈ q_gw := List.mem_filter.mpr ⟨List.mem_of_getElem? (i := 1253) (by decide +kernel), by decide +kernel⟩
theorem se_X9_out : Cond.selects RX9 yX9_out yX9_out ∈ q_gw := List.mem_filter.mpr ⟨List.mem_of_getElem? (i := 1261) (by decide +kernel), by decide +kernel⟩
theorem se_X9_count : Cond.selects RX9 yX9_count yX9_count ∈ q_gw := List.mem_filter.mpr ⟨List.mem_of_getElem? (i := 1265) (by decide +kernel), by decide +kernel⟩
theorem se_X8_canCome : Cond.selects RX8 yX8_canCome yX8_canCome ∈ q_gw := List.mem_filter.mpr ⟨List.mem_of_getElem? (i := 0) (by decide +kernel), by decide +kernel⟩
theorem se_X3_addGap : Cond.selects RX3 yX3_addGap yX3_addGap ∈ q_gw := List.mem_filter.mpr ⟨List.mem_of_getElem? (i := 1) (by decide +kernel), by decide +kernel⟩
theorem se_X3_addPlace : Cond.selects RX3 yX3_addPlace yX3_addPlace ∈ q_gw := List.mem_filter.mpr ⟨List.mem_of_getElem? (i := 2) (by decide +kernel), by decide +kernel⟩
theorem se_X8_admit : Cond.selects RX8 yX8_admit yX8_admit ∈ q_gw := List.mem_filter.mpr ⟨List.mem_of_getElem? (i := 3) (by decide +kernel), by decide +kernel⟩
theorem se_X8_puzzleAt : Cond.selects RX8 yX8_puzzleAt yX8_puzzleAt ∈ q_gw := List.mem_filter.mpr ⟨List.mem_of_getElem? (i := 4) (by decide +kernel), by decide +kernel⟩
theorem se_X5_countOn : Cond.selects RX5 yX5_countOn yX5_countOn ∈ q_gw := List.mem_filter.mpr ⟨List.mem_of_getElem? (i := 5) (by decide +kernel), by decide +kernel⟩
theorem se_X6_levelAt : Cond.selects RX6 yX6_levelAt yX6_levelAt ∈ q_gw := List.mem_filter.mpr ⟨List.mem_of_getElem? (i := 6) (by decide +kernel), by decide +kernel⟩
theorem se_X6_staysOpen : Cond.selects RX6 yX6_staysOpen yX6_staysOpen ∈ q_gw := List.mem_filter.mpr ⟨List.mem_of_getElem? (i := 7) (by decide +kernel), by decide +kernel⟩
theorem se_X6_keepPicture : Cond.selects RX6 yX6_keepPicture yX6_keepPicture ∈ q_gw := List.mem_filter.mpr ⟨List.mem_of_getElem? (i := 8) (by decide +kernel), by decide +kernel⟩
theorem se_X1_passOfProbes : Cond.selects RX1 yX1_passOfProbes yX1_passOfProbes ∈ q_gw := List.mem_filter.mpr ⟨List.mem_of_getElem? (i := 9) (by decide +kernel), by decide +kernel⟩
theorem se_X8_cutCanvas : Cond.selects RX8 yX8_cutCanvas yX8_cutCanvas ∈ q_gw := List.mem_filter.mpr ⟨List.mem_of_getElem? (i := 10) (by decide +kernel), by decide +kernel⟩
theorem se_X4_sourceOf : Cond.selects RX4 yX4_sourceOf yX4_sourceOf ∈ q_gw := List.mem_filter.mpr ⟨List.mem_of_getElem? (i := 11) (by decide +kernel), by decide +kernel⟩
theorem se_X4_isBackwards : Cond.selects RX4 yX4_isBackwards yX4_isBackwards ∈ q_gw := List.mem_filter.mpr ⟨List.mem_of_getElem? (i := 12) (by decide +kernel), by decide +kernel⟩
theorem se_X8_gameAt : Cond.selects RX8 yX8_gameAt yX8_gameAt ∈ q_gw := List.mem_filter.mpr ⟨List.mem_of_getElem? (i := 13) (by decide +kernel), by decide +kernel⟩
theorem se_X8_adviceFor : Cond.selects RX8 yX8_adviceFor yX8_adviceFor ∈ q_gw := List.mem_filter.mpr ⟨List.mem_of_getElem? (i := 14) (by decide +kernel), by decide +kernel⟩
theorem se_X8_brokenLines : Cond.selects RX8 yX8_brokenLines yX8_brokenLines ∈ q_gw := List.mem_filter.mpr ⟨List.mem_of_getElem? (i := 15) (by decide +kernel), by decide +kernel⟩
theorem se_X9_isPuzzle : Cond.selects RX9 yX9_isPuzzle yX9_isPuzzle ∈ q_gw := List.mem_filter.mpr ⟨List.mem_of_getElem? (i := 16) (by decide +kernel), by decide +kernel⟩
theorem se_X9_sizeOf : Cond.selects RX9 yX9_sizeOf yX9_sizeOf ∈ q_gw := List.mem_filter.mpr ⟨List.mem_of_getElem? (i := 17) (by decide +kernel), by decide +kernel⟩
theorem se_X9_full : Cond.selects RX9 yX9_full yX9_full ∈ q_gw := List.mem_filter.mpr ⟨List.mem_of_getElem? (i := 18) (by decide +kernel), by decide +kernel⟩
theorem se_X9_isLine : Cond.selects RX9 yX9_isLine yX9_isLine ∈ q_gw := List.mem_filter.mpr ⟨List.mem_of_getElem? (i := 19) (by decide +kernel), by decide +kernel⟩
theorem se_X9_linesOf : Cond.selects RX9 yX9_linesOf yX9_linesOf ∈ q_gw := List.mem_filter.mpr ⟨List.mem_of_getElem? (i := 20) (by decide +kernel), by decide +kernel⟩
theorem se_X9_runAt : Cond.selects RX9 yX9_runAt yX9_runAt ∈ q_gw := List.mem_filter.mpr ⟨List.mem_of_getElem? (i := 21) (by decide +kernel), by decide +kernel⟩
theorem se_X9_lineLength : Cond.selects RX9 yX9_lineLength yX9_lineLength ∈ q_gw := List.mem_filter.mpr ⟨List.mem_of_getElem? (i := 22) (by decide +kernel), by decide +kernel⟩
theorem se_X9_isCell : Cond.selects RX9 yX9_isCell yX9_isCell ∈ q_gw := List.mem_filter.mpr ⟨List.mem_of_getElem? (i := 23) (by decide +kernel), by decide +kernel⟩
theorem se_X9_loads : Cond.selects RX9 yX9_loads yX9_loads ∈ q_gw := List.mem_filter.mpr ⟨List.mem_of_getElem? (i := 24) (by decide +kernel), by decide +kernel⟩
theorem se_X9_steps : Cond.selects RX9 yX9_steps yX9_steps ∈ q_gw := List.mem_filter.mpr ⟨List.mem_of_getElem? (i := 25) (by decide +kernel), by decide +kernel⟩
theorem se_X9_lists : Cond.selects RX9 yX9_lists yX9_lists ∈ q_gw := List.mem_filter.mpr ⟨List.mem_of_getElem? (i := 26) (by decide +kernel), by decide +kernel⟩
theorem se_X9_cellOf : Cond.selects RX9 yX9_cellOf yX9_cellOf ∈ q_gw := List.mem_filter.mpr ⟨List.mem_of_getElem? (i := 27) (by decide +kernel), by decide +kernel⟩
theorem se_X9_lays : Cond.selects RX9 yX9_lays yX9_lays ∈ q_gw := List.mem_filter.mpr ⟨List.mem_of_getElem? (i := 28) (by decide +kernel), by decide +kernel⟩
theorem se_X9_first : Cond.selects RX9 yX9_first yX9_first ∈ q_gw := List.mem_filter.mpr ⟨List.mem_of_getElem? (i := 29) (by decide +kernel), by decide +kernel⟩
theorem se_X9_fits : Cond.selects RX9 yX9_fits yX9_fits ∈ q_gw := List.mem_filter.mpr ⟨List.mem_of_getElem? (i := 30) (by decide +kernel), by decide +kernel⟩
theorem se_X9_stores : Cond.selects RX9 yX9_stores yX9_stores ∈ q_gw := List.mem_filter.mpr ⟨List.mem_of_getElem? (i := 31) (by decide +kernel), by decide +kernel⟩
theorem se_X9_settles : Cond.selects RX9 yX9_settles yX9_settles ∈ q_gw := List.mem_filter.mpr ⟨List.mem_of_getElem? (i := 32) (by decide +kernel), by decide +kernel⟩
theorem se_X9_opens : Cond.selects RX9 yX9_opens yX9_opens ∈ q_gw := List.mem_filter.mpr ⟨List.mem_of_getElem? (i := 33) (by decide +kernel), by decide +kernel⟩
theorem se_X9_openCell : Cond.selects RX9 yX9_openCell yX9_openCell ∈ q_gw := List.mem_filter.mpr ⟨List.mem_of_getElem? (i := 34) (by decide +kernel), by decide +kernel⟩
theorem se_X9_copies : Cond.selects RX9 yX9_copies yX9_copies ∈ q_gw := List.mem_filter.mpr ⟨List.mem_of_getElem? (i := 35) (by decide +kernel), by decide +kernel⟩
theorem se_X9_passes : Cond.selects RX9 yX9_passes yX9_passes ∈ q_gw := List.mem_filter.mpr ⟨List.mem_of_getElem? (i := 36) (by decide +kernel), by decide +kernel⟩
theorem se_X9_painted : Cond.selects RX9 yX9_painted yX9_painted ∈ q_gw := List.mem_filter.mpr ⟨List.mem_of_getElem? (i := 37) (by decide +kernel), by decide +kernel⟩
theorem se_X9_source : Cond.selects RX9 yX9_source yX9_source ∈ q_gw := List.mem_filter.mpr ⟨List.mem_of_getElem? (i := 38) (by decide +kernel), by decide +kernel⟩
theorem se_X9_isRound : Cond.selects RX9 yX9_isRound yX9_isRound ∈ q_gw := List.mem_filter.mpr ⟨List.mem_of_getElem? (i := 39) (by decide +kernel), by decide +kernel⟩
theorem se_X9_isSame : Cond.selects RX9 yX9_isSame yX9_isSame ∈ q_gw := List.mem_filter.mpr ⟨List.mem_of_getElem? (i := 40) (by decide +kernel), by decide +kernel⟩
theorem se_X9_isGame : Cond.selects RX9 yX9_isGame yX9_isGame ∈ q_gw := List.mem_filter.mpr ⟨List.mem_of_getElem? (i := 41) (by decide +kernel), by decide +kernel⟩
theorem se_X9_marksAsSets : Cond.selects RX9 yX9_marksAsSets yX9_marksAsSets ∈ q_gw := List.mem_filter.mpr ⟨List.mem_of_getElem? (i := 42) (by decide +kernel), by decide +kernel⟩
theorem se_X9_sign : Cond.selects RX9 yX9_sign yX9_sign ∈ q_gw := List.mem_filter.mpr ⟨List.mem_of_getElem? (i := 43) (by decide +kernel), by decide +kernel⟩
theorem ml_X8_1 : Cond.methodLink RX8 1 objectInit ∈ q_gw := List.mem_filter.mpr ⟨List.mem_of_getElem? (i := 71) (by decide +kernel), by decide +kernel⟩
theorem nw_X8_9 : q_NW RX8 9 5 7 [.int 0, .int 0, .int 0, .int 0, .null, .null, .int 0] := ⟨RX4, TX4, tyX4, rfl, ing_X4, List.mem_filter.mpr ⟨List.mem_of_getElem? (i := 74) (by decide +kernel), by decide +kernel⟩, List.mem_filter.mpr ⟨List.mem_of_getElem? (i := 235) (by decide +kernel), by decide +kernel⟩, List.mem_filter.mpr ⟨List.mem_of_getElem? (i := 55) (by decide +kernel), by decide +kernel⟩, tyX4_ok, by decide +kernel⟩
theorem cw_X8_9 : Cond.classLink RX8 9 RX4 ∈ q_gw := List.mem_filter.mpr ⟨List.mem_of_getElem? (i := 74) (by decide +kernel), by decide +kernel⟩
theorem fl_X8_11 : q_FL RX8 11 9 0 := ⟨RX8, "RunPictures", TX8, 11, tyX8, rfl, by decide, ing_X8, List.mem_filter.mpr ⟨List.mem_of_getElem? (i := 193) (by decide +kernel), by decide +kernel⟩, Or.inl rfl, tyX8_ok, nmX8⟩
theorem fp_X8_11 : q_FP RX8 9 0 (.array (.object "RunPictures$Puzzle")) "<init>" := ⟨RX8, TX8, 11, rfl, by decide +kernel, Or.inr ⟨rfl, rfl, rfl⟩⟩
theorem nw_X8_15 : q_NW RX8 15 1 9 [.int 0, .null, .null, .int 0, .int 0, .int 0, .null, .null, .null] := ⟨RX0, TX0, tyX0, rfl, ing_X0, List.mem_filter.mpr ⟨List.mem_of_getElem? (i := 76) (by decide +kernel), by decide +kernel⟩, List.mem_filter.mpr ⟨List.mem_of_getElem? (i := 630) (by decide +kernel), by decide +kernel⟩, List.mem_filter.mpr ⟨List.mem_of_getElem? (i := 61) (by decide +kernel), by decide +kernel⟩, tyX0_ok, by decide +kernel⟩
theorem cw_X8_15 : Cond.classLink RX8 15 RX0 ∈ q_gw := List.mem_filter.mpr ⟨List.mem_of_getElem? (i := 76) (by decide +kernel), by decide +kernel⟩
theorem fl_X8_17 : q_FL RX8 17 9 1 := ⟨RX8, "RunPictures", TX8, 11, tyX8, rfl, by decide, ing_X8, List.mem_filter.mpr ⟨List.mem_of_getElem? (i := 194) (by decide +kernel), by decide +kernel⟩, Or.inl rfl, tyX8_ok, nmX8⟩
theorem fp_X8_17 : q_FP RX8 9 1 (.array (.object "RunPictures$Game")) "<init>" := ⟨RX8, TX8, 11, rfl, by decide +kernel, Or.inr ⟨rfl, rfl, rfl⟩⟩
theorem fl_X8_21 : q_FL RX8 21 9 2 := ⟨RX8, "RunPictures", TX8, 11, tyX8, rfl, by decide, ing_X8, List.mem_filter.mpr ⟨List.mem_of_getElem? (i := 195) (by decide +kernel), by decide +kernel⟩, Or.inl rfl, tyX8_ok, nmX8⟩
theorem fp_X8_21 : q_FP RX8 9 2 (.array .int) "<init>" := ⟨RX8, TX8, 11, rfl, by decide +kernel, Or.inr ⟨rfl, rfl, rfl⟩⟩
theorem fl_X8_25 : q_FL RX8 25 9 3 := ⟨RX8, "RunPictures", TX8, 11, tyX8, rfl, by decide, ing_X8, List.mem_filter.mpr ⟨List.mem_of_getElem? (i := 196) (by decide +kernel), by decide +kernel⟩, Or.inl rfl, tyX8_ok, nmX8⟩
theorem fp_X8_25 : q_FP RX8 9 3 (.array .int) "<init>" := ⟨RX8, TX8, 11, rfl, by decide +kernel, Or.inr ⟨rfl, rfl, rfl⟩⟩
theorem nw_X8_28 : q_NW RX8 28 0 4 [.null, .int 0, .int 0, .int 0] := ⟨RJ4, TJ4, tyJ4, rfl, ing_J4, List.mem_filter.mpr ⟨List.mem_of_getElem? (i := 78) (by decide +kernel), by decide +kernel⟩, List.mem_filter.mpr ⟨List.mem_of_getElem? (i := 79) (by decide +kernel), by decide +kernel⟩, List.mem_filter.mpr ⟨List.mem_of_getElem? (i := 47) (by decide +kernel), by decide +kernel⟩, tyJ4_ok, by decide +kernel⟩
theorem ml_X8_30 : Cond.methodLink RX8 30 yJ4_init_da8c8 ∈ q_gw := List.mem_filter.mpr ⟨List.mem_of_getElem? (i := 80) (by decide +kernel), by decide +kernel⟩
theorem fl_X8_31 : q_FL RX8 31 9 4 := ⟨RX8, "RunPictures", TX8, 11, tyX8, rfl, by decide, ing_X8, List.mem_filter.mpr ⟨List.mem_of_getElem? (i := 197) (by decide +kernel), by decide +kernel⟩, Or.inl rfl, tyX8_ok, nmX8⟩
theorem fp_X8_31 : q_FP RX8 9 4 (.object "java/lang/StringBuilder") "<init>" := ⟨RX8, TX8, 11, rfl, by decide +kernel, Or.inr ⟨rfl, rfl, rfl⟩⟩
theorem nw_X8_35 : q_NW RX8 35 6 3 [.null, .null, .null] := ⟨RX5, TX5, tyX5, rfl, ing_X5, List.mem_filter.mpr ⟨List.mem_of_getElem? (i := 111) (by decide +kernel), by decide +kernel⟩, List.mem_filter.mpr ⟨List.mem_of_getElem? (i := 112) (by decide +kernel), by decide +kernel⟩, List.mem_filter.mpr ⟨List.mem_of_getElem? (i := 50) (by decide +kernel), by decide +kernel⟩, tyX5_ok, by decide +kernel⟩
theorem ml_X8_37 : Cond.methodLink RX8 37 yX5_init ∈ q_gw := List.mem_filter.mpr ⟨List.mem_of_getElem? (i := 113) (by decide +kernel), by decide +kernel⟩
theorem fl_X8_38 : q_FL RX8 38 9 5 := ⟨RX8, "RunPictures", TX8, 11, tyX8, rfl, by decide, ing_X8, List.mem_filter.mpr ⟨List.mem_of_getElem? (i := 198) (by decide +kernel), by decide +kernel⟩, Or.inl rfl, tyX8_ok, nmX8⟩
theorem fp_X8_38 : q_FP RX8 9 5 (.object "RunPictures$Scan") "<init>" := ⟨RX8, TX8, 11, rfl, by decide +kernel, Or.inr ⟨rfl, rfl, rfl⟩⟩
theorem nw_X8_42 : q_NW RX8 42 8 2 [.null, .int 0] := ⟨RX7, TX7, tyX7, rfl, ing_X7, List.mem_filter.mpr ⟨List.mem_of_getElem? (i := 129) (by decide +kernel), by decide +kernel⟩, List.mem_filter.mpr ⟨List.mem_of_getElem? (i := 130) (by decide +kernel), by decide +kernel⟩, List.mem_filter.mpr ⟨List.mem_of_getElem? (i := 51) (by decide +kernel), by decide +kernel⟩, tyX7_ok, by decide +kernel⟩
theorem ml_X8_44 : Cond.methodLink RX8 44 yX7_init ∈ q_gw := List.mem_filter.mpr ⟨List.mem_of_getElem? (i := 131) (by decide +kernel), by decide +kernel⟩
theorem fl_X8_47 : q_FL RX8 47 9 6 := ⟨RX8, "RunPictures", TX8, 11, tyX8, rfl, by decide, ing_X8, List.mem_filter.mpr ⟨List.mem_of_getElem? (i := 199) (by decide +kernel), by decide +kernel⟩, Or.inl rfl, tyX8_ok, nmX8⟩
theorem fp_X8_47 : q_FP RX8 9 6 (.object "RunPictures$Settler") "<init>" := ⟨RX8, TX8, 11, rfl, by decide +kernel, Or.inr ⟨rfl, rfl, rfl⟩⟩
theorem nw_X8_51 : q_NW RX8 51 7 6 [.null, .int 0, .int 0, .int 0, .null, .null] := ⟨RX6, TX6, tyX6, rfl, ing_X6, List.mem_filter.mpr ⟨List.mem_of_getElem? (i := 142) (by decide +kernel), by decide +kernel⟩, List.mem_filter.mpr ⟨List.mem_of_getElem? (i := 143) (by decide +kernel), by decide +kernel⟩, List.mem_filter.mpr ⟨List.mem_of_getElem? (i := 52) (by decide +kernel), by decide +kernel⟩, tyX6_ok, by decide +kernel⟩
theorem ml_X8_53 : Cond.methodLink RX8 53 yX6_init ∈ q_gw := List.mem_filter.mpr ⟨List.mem_of_getElem? (i := 144) (by decide +kernel), by decide +kernel⟩
theorem fl_X8_56 : q_FL RX8 56 9 7 := ⟨RX8, "RunPictures", TX8, 11, tyX8, rfl, by decide, ing_X8, List.mem_filter.mpr ⟨List.mem_of_getElem? (i := 200) (by decide +kernel), by decide +kernel⟩, Or.inl rfl, tyX8_ok, nmX8⟩
theorem fp_X8_56 : q_FP RX8 9 7 (.object "RunPictures$Searcher") "<init>" := ⟨RX8, TX8, 11, rfl, by decide +kernel, Or.inr ⟨rfl, rfl, rfl⟩⟩
theorem nw_X8_60 : q_NW RX8 60 2 4 [.int 0, .null, .null, .null] := ⟨RX1, TX1, tyX1, rfl, ing_X1, List.mem_filter.mpr ⟨List.mem_of_getElem? (i := 173) (by decide +kernel), by decide +kernel⟩, List.mem_filter.mpr ⟨List.mem_of_getElem? (i := 174) (by decide +kernel), by decide +kernel⟩, List.mem_filter.mpr ⟨List.mem_of_getElem? (i := 53) (by decide +kernel), by decide +kernel⟩, tyX1_ok, by decide +kernel⟩
theorem ml_X8_62 : Cond.methodLink RX8 62 yX1_init ∈ q_gw := List.mem_filter.mpr ⟨List.mem_of_getElem? (i := 175) (by decide +kernel), by decide +kernel⟩
theorem fl_X8_63 : q_FL RX8 63 9 8 := ⟨RX8, "RunPictures", TX8, 11, tyX8, rfl, by decide, ing_X8, List.mem_filter.mpr ⟨List.mem_of_getElem? (i := 201) (by decide +kernel), by decide +kernel⟩, Or.inl rfl, tyX8_ok, nmX8⟩
theorem fp_X8_63 : q_FP RX8 9 8 (.object "RunPictures$Grader") "<init>" := ⟨RX8, TX8, 11, rfl, by decide +kernel, Or.inr ⟨rfl, rfl, rfl⟩⟩
theorem fl_X8_67 : q_FL RX8 67 9 9 := ⟨RX8, "RunPictures", TX8, 11, tyX8, rfl, by decide, ing_X8, List.mem_filter.mpr ⟨List.mem_of_getElem? (i := 202) (by decide +kernel), by decide +kernel⟩, Or.inl rfl, tyX8_ok, nmX8⟩
theorem fp_X8_67 {nm : String} : q_FP RX8 9 9 .int nm := ⟨RX8, TX8, 11, rfl, by decide +kernel, Or.inl rfl⟩
theorem fl_X8_71 : q_FL RX8 71 9 10 := ⟨RX8, "RunPictures", TX8, 11, tyX8, rfl, by decide, ing_X8, List.mem_filter.mpr ⟨List.mem_of_getElem? (i := 203) (by decide +kernel), by decide +kernel⟩, Or.inl rfl, tyX8_ok, nmX8⟩
theorem fp_X8_71 {nm : String} : q_FP RX8 9 10 .int nm := ⟨RX8, TX8, 11, rfl, by decide +kernel, Or.inl rfl⟩
theorem ml_X8_74 : Cond.methodLink RX8 74 yX8_canCome ∈ q_gw := List.mem_filter.mpr ⟨List.mem_of_getElem? (i := 231) (by decide +kernel), by decide +kernel⟩
theorem ml_X8_78 : Cond.methodLink RX8 78 yX4_init ∈ q_gw := List.mem_filter.mpr ⟨List.mem_of_getElem? (i := 236) (by decide +kernel), by decide +kernel⟩
theorem ml_X8_81 : Cond.methodLink RX8 81 yX8_admit ∈ q_gw := List.mem_filter.mpr ⟨List.mem_of_getElem? (i := 357) (by decide +kernel), by decide +kernel⟩
theorem ml_X8_85 : Cond.methodLink RX8 85 yX8_puzzleAt ∈ q_gw := List.mem_filter.mpr ⟨List.mem_of_getElem? (i := 365) (by decide +kernel), by decide +kernel⟩
theorem ml_X8_89 : Cond.methodLink RX8 89 yX8_lineAt ∈ q_gw := List.mem_filter.mpr ⟨List.mem_of_getElem? (i := 369) (by decide +kernel), by decide +kernel⟩
theorem fl_X8_93 : q_FL RX8 93 5 6 := ⟨RX4, "RunPictures$Puzzle", TX4, 7, tyX4, rfl, by decide, ing_X4, List.mem_filter.mpr ⟨List.mem_of_getElem? (i := 341) (by decide +kernel), by decide +kernel⟩, Or.inl rfl, tyX4_ok, nmX4⟩
theorem fp_X8_93 {nm : String} : q_FP RX8 5 6 .boolean nm := ⟨RX4, TX4, 7, rfl, by decide +kernel, Or.inl rfl⟩
theorem fl_X8_97 : q_FL RX8 97 5 2 := ⟨RX4, "RunPictures$Puzzle", TX4, 7, tyX4, rfl, by decide, ing_X4, List.mem_filter.mpr ⟨List.mem_of_getElem? (i := 328) (by decide +kernel), by decide +kernel⟩, Or.inl rfl, tyX4_ok, nmX4⟩
theorem ml_X8_100 : Cond.methodLink RX8 100 yX3_append ∈ q_gw := List.mem_filter.mpr ⟨List.mem_of_getElem? (i := 372) (by decide +kernel), by decide +kernel⟩
theorem ml_X8_106 : Cond.methodLink RX8 106 yX4_clearDesk ∈ q_gw := List.mem_filter.mpr ⟨List.mem_of_getElem? (i := 376) (by decide +kernel), by decide +kernel⟩
theorem fl_X8_109 : q_FL RX8 109 4 7 := ⟨RX3, "RunPictures$Line", TX3, 13, tyX3, rfl, by decide, ing_X3, List.mem_filter.mpr ⟨List.mem_of_getElem? (i := 273) (by decide +kernel), by decide +kernel⟩, Or.inl rfl, tyX3_ok, nmX3⟩
theorem fl_X8_112 : q_FL RX8 112 5 0 := ⟨RX4, "RunPictures$Puzzle", TX4, 7, tyX4, rfl, by decide, ing_X4, List.mem_filter.mpr ⟨List.mem_of_getElem? (i := 323) (by decide +kernel), by decide +kernel⟩, Or.inl rfl, tyX4_ok, nmX4⟩
theorem fl_X8_115 : q_FL RX8 115 5 1 := ⟨RX4, "RunPictures$Puzzle", TX4, 7, tyX4, rfl, by decide, ing_X4, List.mem_filter.mpr ⟨List.mem_of_getElem? (i := 325) (by decide +kernel), by decide +kernel⟩, Or.inl rfl, tyX4_ok, nmX4⟩
theorem ml_X8_118 : Cond.methodLink RX8 118 yX4_allRuns ∈ q_gw := List.mem_filter.mpr ⟨List.mem_of_getElem? (i := 381) (by decide +kernel), by decide +kernel⟩
theorem fl_X8_122 : q_FL RX8 122 5 5 := ⟨RX4, "RunPictures$Puzzle", TX4, 7, tyX4, rfl, by decide, ing_X4, List.mem_filter.mpr ⟨List.mem_of_getElem? (i := 339) (by decide +kernel), by decide +kernel⟩, Or.inl rfl, tyX4_ok, nmX4⟩
theorem ml_X8_125 : Cond.methodLink RX8 125 yX4_decidedCells ∈ q_gw := List.mem_filter.mpr ⟨List.mem_of_getElem? (i := 385) (by decide +kernel), by decide +kernel⟩
theorem fl_X8_129 : q_FL RX8 129 4 4 := ⟨RX3, "RunPictures$Line", TX3, 13, tyX3, rfl, by decide, ing_X3, List.mem_filter.mpr ⟨List.mem_of_getElem? (i := 267) (by decide +kernel), by decide +kernel⟩, Or.inl rfl, tyX3_ok, nmX3⟩
theorem fl_X8_131 : q_FL RX8 131 4 5 := ⟨RX3, "RunPictures$Line", TX3, 13, tyX3, rfl, by decide, ing_X3, List.mem_filter.mpr ⟨List.mem_of_getElem? (i := 269) (by decide +kernel), by decide +kernel⟩, Or.inl rfl, tyX3_ok, nmX3⟩
theorem ml_X8_134 : Cond.methodLink RX8 134 yX4_deskHolds ∈ q_gw := List.mem_filter.mpr ⟨List.mem_of_getElem? (i := 410) (by decide +kernel), by decide +kernel⟩
theorem ml_X8_137 : Cond.methodLink RX8 137 yX8_isOne ∈ q_gw := List.mem_filter.mpr ⟨List.mem_of_getElem? (i := 423) (by decide +kernel), by decide +kernel⟩
theorem ml_X8_141 : Cond.methodLink RX8 141 yX4_hasCell ∈ q_gw := List.mem_filter.mpr ⟨List.mem_of_getElem? (i := 428) (by decide +kernel), by decide +kernel⟩
theorem ml_X8_144 : Cond.methodLink RX8 144 yX7_narrow ∈ q_gw := List.mem_filter.mpr ⟨List.mem_of_getElem? (i := 433) (by decide +kernel), by decide +kernel⟩
theorem ml_X8_148 : Cond.methodLink RX8 148 yX5_countFillings ∈ q_gw := List.mem_filter.mpr ⟨List.mem_of_getElem? (i := 454) (by decide +kernel), by decide +kernel⟩
theorem fl_X8_151 : q_FL RX8 151 5 3 := ⟨RX4, "RunPictures$Puzzle", TX4, 7, tyX4, rfl, by decide, ing_X4, List.mem_filter.mpr ⟨List.mem_of_getElem? (i := 333) (by decide +kernel), by decide +kernel⟩, Or.inl rfl, tyX4_ok, nmX4⟩
theorem ml_X8_154 : Cond.methodLink RX8 154 ⟨"java/lang/System", "arraycopy", "(Ljava/lang/Object;ILjava/lang/Object;II)V"⟩ ∈ q_gw := List.mem_filter.mpr ⟨List.mem_of_getElem? (i := 467) (by decide +kernel), by decide +kernel⟩
theorem ml_X8_160 : Cond.methodLink RX8 160 yX4_everyLine ∈ q_gw := List.mem_filter.mpr ⟨List.mem_of_getElem? (i := 470) (by decide +kernel), by decide +kernel⟩
theorem ml_X8_163 : Cond.methodLink RX8 163 yX7_bringToRest ∈ q_gw := List.mem_filter.mpr ⟨List.mem_of_getElem? (i := 474) (by decide +kernel), by decide +kernel⟩
theorem ml_X8_167 : Cond.methodLink RX8 167 yX6_seek ∈ q_gw := List.mem_filter.mpr ⟨List.mem_of_getElem? (i := 484) (by decide +kernel), by decide +kernel⟩
theorem fl_X8_171 : q_FL RX8 171 7 1 := ⟨RX6, "RunPictures$Searcher", TX6, 6, tyX6, rfl, by decide, ing_X6, List.mem_filter.mpr ⟨List.mem_of_getElem? (i := 153) (by decide +kernel), by decide +kernel⟩, Or.inl rfl, tyX6_ok, nmX6⟩
theorem fl_X8_174 : q_FL RX8 174 7 2 := ⟨RX6, "RunPictures$Searcher", TX6, 6, tyX6, rfl, by decide, ing_X6, List.mem_filter.mpr ⟨List.mem_of_getElem? (i := 155) (by decide +kernel), by decide +kernel⟩, Or.inl rfl, tyX6_ok, nmX6⟩
theorem fl_X8_177 : q_FL RX8 177 7 3 := ⟨RX6, "RunPictures$Searcher", TX6, 6, tyX6, rfl, by decide, ing_X6, List.mem_filter.mpr ⟨List.mem_of_getElem? (i := 157) (by decide +kernel), by decide +kernel⟩, Or.inl rfl, tyX6_ok, nmX6⟩
theorem fl_X8_178 : q_FL RX8 178 7 0 := ⟨RX6, "RunPictures$Searcher", TX6, 6, tyX6, rfl, by decide, ing_X6, List.mem_filter.mpr ⟨List.mem_of_getElem? (i := 151) (by decide +kernel), by decide +kernel⟩, Or.inl rfl, tyX6_ok, nmX6⟩
theorem ml_X8_181 : Cond.methodLink RX8 181 yX1_assess ∈ q_gw := List.mem_filter.mpr ⟨List.mem_of_getElem? (i := 552) (by decide +kernel), by decide +kernel⟩
theorem fl_X8_184 : q_FL RX8 184 2 0 := ⟨RX1, "RunPictures$Grader", TX1, 4, tyX1, rfl, by decide, ing_X1, List.mem_filter.mpr ⟨List.mem_of_getElem? (i := 180) (by decide +kernel), by decide +kernel⟩, Or.inl rfl, tyX1_ok, nmX1⟩
theorem ml_X8_187 : Cond.methodLink RX8 187 yX8_cutCanvas ∈ q_gw := List.mem_filter.mpr ⟨List.mem_of_getElem? (i := 582) (by decide +kernel), by decide +kernel⟩
theorem fl_X8_190 : q_FL RX8 190 5 4 := ⟨RX4, "RunPictures$Puzzle", TX4, 7, tyX4, rfl, by decide, ing_X4, List.mem_filter.mpr ⟨List.mem_of_getElem? (i := 336) (by decide +kernel), by decide +kernel⟩, Or.inl rfl, tyX4_ok, nmX4⟩
theorem ml_X8_194 : Cond.methodLink RX8 194 yX3_readRuns ∈ q_gw := List.mem_filter.mpr ⟨List.mem_of_getElem? (i := 586) (by decide +kernel), by decide +kernel⟩
theorem ml_X8_198 : Cond.methodLink RX8 198 yX4_turned ∈ q_gw := List.mem_filter.mpr ⟨List.mem_of_getElem? (i := 596) (by decide +kernel), by decide +kernel⟩
theorem ml_X8_201 : Cond.methodLink RX8 201 yX4_turnsInto ∈ q_gw := List.mem_filter.mpr ⟨List.mem_of_getElem? (i := 618) (by decide +kernel), by decide +kernel⟩
theorem ml_X8_205 : Cond.methodLink RX8 205 yX0_init ∈ q_gw := List.mem_filter.mpr ⟨List.mem_of_getElem? (i := 631) (by decide +kernel), by decide +kernel⟩
theorem ml_X8_208 : Cond.methodLink RX8 208 yX8_gameAt ∈ q_gw := List.mem_filter.mpr ⟨List.mem_of_getElem? (i := 674) (by decide +kernel), by decide +kernel⟩
theorem fl_X8_212 : q_FL RX8 212 1 1 := ⟨RX0, "RunPictures$Game", TX0, 9, tyX0, rfl, by decide, ing_X0, List.mem_filter.mpr ⟨List.mem_of_getElem? (i := 639) (by decide +kernel), by decide +kernel⟩, Or.inl rfl, tyX0_ok, nmX0⟩
theorem ml_X8_216 : Cond.methodLink RX8 216 yX0_change ∈ q_gw := List.mem_filter.mpr ⟨List.mem_of_getElem? (i := 678) (by decide +kernel), by decide +kernel⟩
theorem fl_X8_219 : q_FL RX8 219 1 2 := ⟨RX0, "RunPictures$Game", TX0, 9, tyX0, rfl, by decide, ing_X0, List.mem_filter.mpr ⟨List.mem_of_getElem? (i := 641) (by decide +kernel), by decide +kernel⟩, Or.inl rfl, tyX0_ok, nmX0⟩
theorem ml_X8_222 : Cond.methodLink RX8 222 yX0_takeBack ∈ q_gw := List.mem_filter.mpr ⟨List.mem_of_getElem? (i := 690) (by decide +kernel), by decide +kernel⟩
theorem ml_X8_225 : Cond.methodLink RX8 225 yX0_doAgain ∈ q_gw := List.mem_filter.mpr ⟨List.mem_of_getElem? (i := 698) (by decide +kernel), by decide +kernel⟩
theorem ml_X8_228 : Cond.methodLink RX8 228 yX8_adviceFor ∈ q_gw := List.mem_filter.mpr ⟨List.mem_of_getElem? (i := 706) (by decide +kernel), by decide +kernel⟩
theorem fl_X8_232 : q_FL RX8 232 1 5 := ⟨RX0, "RunPictures$Game", TX0, 9, tyX0, rfl, by decide, ing_X0, List.mem_filter.mpr ⟨List.mem_of_getElem? (i := 647) (by decide +kernel), by decide +kernel⟩, Or.inl rfl, tyX0_ok, nmX0⟩
theorem fp_X8_232 {nm : String} : q_FP RX8 1 5 .int nm := ⟨RX0, TX0, 9, rfl, by decide +kernel, Or.inl rfl⟩
theorem fl_X8_235 : q_FL RX8 235 1 0 := ⟨RX0, "RunPictures$Game", TX0, 9, tyX0, rfl, by decide, ing_X0, List.mem_filter.mpr ⟨List.mem_of_getElem? (i := 637) (by decide +kernel), by decide +kernel⟩, Or.inl rfl, tyX0_ok, nmX0⟩
theorem ml_X8_238 : Cond.methodLink RX8 238 yX0_markedCells ∈ q_gw := List.mem_filter.mpr ⟨List.mem_of_getElem? (i := 722) (by decide +kernel), by decide +kernel⟩
theorem ml_X8_241 : Cond.methodLink RX8 241 yX8_brokenLines ∈ q_gw := List.mem_filter.mpr ⟨List.mem_of_getElem? (i := 726) (by decide +kernel), by decide +kernel⟩
theorem fl_X8_244 : q_FL RX8 244 1 3 := ⟨RX0, "RunPictures$Game", TX0, 9, tyX0, rfl, by decide, ing_X0, List.mem_filter.mpr ⟨List.mem_of_getElem? (i := 643) (by decide +kernel), by decide +kernel⟩, Or.inl rfl, tyX0_ok, nmX0⟩
theorem fl_X8_247 : q_FL RX8 247 1 4 := ⟨RX0, "RunPictures$Game", TX0, 9, tyX0, rfl, by decide, ing_X0, List.mem_filter.mpr ⟨List.mem_of_getElem? (i := 645) (by decide +kernel), by decide +kernel⟩, Or.inl rfl, tyX0_ok, nmX0⟩
theorem ml_X8_250 : Cond.methodLink RX8 250 yJ4_setLength_d00df ∈ q_gw := List.mem_filter.mpr ⟨List.mem_of_getElem? (i := 734) (by decide +kernel), by decide +kernel⟩
theorem ml_X8_254 : Cond.methodLink RX8 254 yJ4_append_cf468 ∈ q_gw := List.mem_filter.mpr ⟨List.mem_of_getElem? (i := 792) (by decide +kernel), by decide +kernel⟩
theorem ml_X8_257 : Cond.methodLink RX8 257 yJ4_append_bf812 ∈ q_gw := List.mem_filter.mpr ⟨List.mem_of_getElem? (i := 847) (by decide +kernel), by decide +kernel⟩
theorem ml_X8_260 : Cond.methodLink RX8 260 yJ4_length_8abf5 ∈ q_gw := List.mem_filter.mpr ⟨List.mem_of_getElem? (i := 881) (by decide +kernel), by decide +kernel⟩
theorem ml_X8_263 : Cond.methodLink RX8 263 yJ4_charAt_5068e ∈ q_gw := List.mem_filter.mpr ⟨List.mem_of_getElem? (i := 892) (by decide +kernel), by decide +kernel⟩
theorem ml_X8_267 : Cond.methodLink RX8 267 yX0_marksAsSets ∈ q_gw := List.mem_filter.mpr ⟨List.mem_of_getElem? (i := 710) (by decide +kernel), by decide +kernel⟩
theorem ml_X8_270 : Cond.methodLink RX8 270 yX5_weigh ∈ q_gw := List.mem_filter.mpr ⟨List.mem_of_getElem? (i := 715) (by decide +kernel), by decide +kernel⟩
theorem fl_X8_274 : q_FL RX8 274 4 2 := ⟨RX3, "RunPictures$Line", TX3, 13, tyX3, rfl, by decide, ing_X3, List.mem_filter.mpr ⟨List.mem_of_getElem? (i := 263) (by decide +kernel), by decide +kernel⟩, Or.inl rfl, tyX3_ok, nmX3⟩
theorem ml_X8_276 : Cond.methodLink RX8 276 yX3_cellAt ∈ q_gw := List.mem_filter.mpr ⟨List.mem_of_getElem? (i := 716) (by decide +kernel), by decide +kernel⟩
theorem fl_X8_280 : q_FL RX8 280 6 0 := ⟨RX5, "RunPictures$Scan", TX5, 3, tyX5, rfl, by decide, ing_X5, List.mem_filter.mpr ⟨List.mem_of_getElem? (i := 119) (by decide +kernel), by decide +kernel⟩, Or.inl rfl, tyX5_ok, nmX5⟩
theorem ml_X8_283 : Cond.methodLink RX8 283 yX8_firstOf ∈ q_gw := List.mem_filter.mpr ⟨List.mem_of_getElem? (i := 717) (by decide +kernel), by decide +kernel⟩
theorem ml_X8_286 : Cond.methodLink RX8 286 yJ6_bitCount_0f7a4 ∈ q_gw := List.mem_filter.mpr ⟨List.mem_of_getElem? (i := 392) (by decide +kernel), by decide +kernel⟩
theorem ml_X8_291 : Cond.methodLink RX8 291 yX8_holds ∈ q_gw := List.mem_filter.mpr ⟨List.mem_of_getElem? (i := 524) (by decide +kernel), by decide +kernel⟩
theorem ml_X0_3 : Cond.methodLink RX0 3 objectInit ∈ q_gw := List.mem_filter.mpr ⟨List.mem_of_getElem? (i := 634) (by decide +kernel), by decide +kernel⟩
theorem fl_X0_9 : q_FL RX0 9 1 0 := ⟨RX0, "RunPictures$Game", TX0, 9, tyX0, rfl, by decide, ing_X0, List.mem_filter.mpr ⟨List.mem_of_getElem? (i := 636) (by decide +kernel), by decide +kernel⟩, Or.inl rfl, tyX0_ok, nmX0⟩
theorem fp_X0_9 : q_FP RX0 1 0 .int "<init>" := ⟨RX0, TX0, 9, rfl, by decide +kernel, Or.inr ⟨rfl, rfl, rfl⟩⟩
theorem fl_X0_15 : q_FL RX0 15 1 1 := ⟨RX0, "RunPictures$Game", TX0, 9, tyX0, rfl, by decide, ing_X0, List.mem_filter.mpr ⟨List.mem_of_getElem? (i := 638) (by decide +kernel), by decide +kernel⟩, Or.inl rfl, tyX0_ok, nmX0⟩
theorem fp_X0_15 : q_FP RX0 1 1 (.object "RunPictures$Puzzle") "<init>" := ⟨RX0, TX0, 9, rfl, by decide +kernel, Or.inr ⟨rfl, rfl, rfl⟩⟩
theorem fl_X0_19 : q_FL RX0 19 5 3 := ⟨RX4, "RunPictures$Puzzle", TX4, 7, tyX4, rfl, by decide, ing_X4, List.mem_filter.mpr ⟨List.mem_of_getElem? (i := 329) (by decide +kernel), by decide +kernel⟩, Or.inl rfl, tyX4_ok, nmX4⟩
theorem fl_X0_24 : q_FL RX0 24 1 2 := ⟨RX0, "RunPictures$Game", TX0, 9, tyX0, rfl, by decide, ing_X0, List.mem_filter.mpr ⟨List.mem_of_getElem? (i := 640) (by decide +kernel), by decide +kernel⟩, Or.inl rfl, tyX0_ok, nmX0⟩
theorem fp_X0_24 : q_FP RX0 1 2 (.array .int) "<init>" := ⟨RX0, TX0, 9, rfl, by decide +kernel, Or.inr ⟨rfl, rfl, rfl⟩⟩
theorem ml_X0_28 : Cond.methodLink RX0 28 yJ7_fill_53178 ∈ q_gw := List.mem_filter.mpr ⟨List.mem_of_getElem? (i := 635) (by decide +kernel), by decide +kernel⟩
theorem fl_X0_34 : q_FL RX0 34 1 6 := ⟨RX0, "RunPictures$Game", TX0, 9, tyX0, rfl, by decide, ing_X0, List.mem_filter.mpr ⟨List.mem_of_getElem? (i := 648) (by decide +kernel), by decide +kernel⟩, Or.inl rfl, tyX0_ok, nmX0⟩
theorem fp_X0_34 : q_FP RX0 1 6 (.array .int) "<init>" := ⟨RX0, TX0, 9, rfl, by decide +kernel, Or.inr ⟨rfl, rfl, rfl⟩⟩
theorem fl_X0_37 : q_FL RX0 37 1 7 := ⟨RX0, "RunPictures$Game", TX0, 9, tyX0, rfl, by decide, ing_X0, List.mem_filter.mpr ⟨List.mem_of_getElem? (i := 649) (by decide +kernel), by decide +kernel⟩, Or.inl rfl, tyX0_ok, nmX0⟩
theorem fp_X0_37 : q_FP RX0 1 7 (.array .int) "<init>" := ⟨RX0, TX0, 9, rfl, by decide +kernel, Or.inr ⟨rfl, rfl, rfl⟩⟩
theorem fl_X0_40 : q_FL RX0 40 1 8 := ⟨RX0, "RunPictures$Game", TX0, 9, tyX0, rfl, by decide, ing_X0, List.mem_filter.mpr ⟨List.mem_of_getElem? (i := 650) (by decide +kernel), by decide +kernel⟩, Or.inl rfl, tyX0_ok, nmX0⟩
theorem fp_X0_40 : q_FP RX0 1 8 (.array .int) "<init>" := ⟨RX0, TX0, 9, rfl, by decide +kernel, Or.inr ⟨rfl, rfl, rfl⟩⟩
theorem fl_X0_43 : q_FL RX0 43 1 3 := ⟨RX0, "RunPictures$Game", TX0, 9, tyX0, rfl, by decide, ing_X0, List.mem_filter.mpr ⟨List.mem_of_getElem? (i := 642) (by decide +kernel), by decide +kernel⟩, Or.inl rfl, tyX0_ok, nmX0⟩
theorem fp_X0_43 {nm : String} : q_FP RX0 1 3 .int nm := ⟨RX0, TX0, 9, rfl, by decide +kernel, Or.inl rfl⟩
theorem fl_X0_46 : q_FL RX0 46 1 4 := ⟨RX0, "RunPictures$Game", TX0, 9, tyX0, rfl, by decide, ing_X0, List.mem_filter.mpr ⟨List.mem_of_getElem? (i := 644) (by decide +kernel), by decide +kernel⟩, Or.inl rfl, tyX0_ok, nmX0⟩
theorem fp_X0_46 {nm : String} : q_FP RX0 1 4 .int nm := ⟨RX0, TX0, 9, rfl, by decide +kernel, Or.inl rfl⟩
theorem fl_X0_49 : q_FL RX0 49 1 5 := ⟨RX0, "RunPictures$Game", TX0, 9, tyX0, rfl, by decide, ing_X0, List.mem_filter.mpr ⟨List.mem_of_getElem? (i := 646) (by decide +kernel), by decide +kernel⟩, Or.inl rfl, tyX0_ok, nmX0⟩
theorem fp_X0_49 {nm : String} : q_FP RX0 1 5 .int nm := ⟨RX0, TX0, 9, rfl, by decide +kernel, Or.inl rfl⟩
theorem ml_X0_52 : Cond.methodLink RX0 52 yX4_full ∈ q_gw := List.mem_filter.mpr ⟨List.mem_of_getElem? (i := 714) (by decide +kernel), by decide +kernel⟩
theorem ml_X1_3 : Cond.methodLink RX1 3 objectInit ∈ q_gw := List.mem_filter.mpr ⟨List.mem_of_getElem? (i := 178) (by decide +kernel), by decide +kernel⟩
theorem fl_X1_9 : q_FL RX1 9 2 1 := ⟨RX1, "RunPictures$Grader", TX1, 4, tyX1, rfl, by decide, ing_X1, List.mem_filter.mpr ⟨List.mem_of_getElem? (i := 181) (by decide +kernel), by decide +kernel⟩, Or.inl rfl, tyX1_ok, nmX1⟩
theorem fp_X1_9 : q_FP RX1 2 1 (.object "RunPictures$Settler") "<init>" := ⟨RX1, TX1, 4, rfl, by decide +kernel, Or.inr ⟨rfl, rfl, rfl⟩⟩
theorem fl_X1_15 : q_FL RX1 15 2 2 := ⟨RX1, "RunPictures$Grader", TX1, 4, tyX1, rfl, by decide, ing_X1, List.mem_filter.mpr ⟨List.mem_of_getElem? (i := 182) (by decide +kernel), by decide +kernel⟩, Or.inl rfl, tyX1_ok, nmX1⟩
theorem fp_X1_15 : q_FP RX1 2 2 (.array .int) "<init>" := ⟨RX1, TX1, 4, rfl, by decide +kernel, Or.inr ⟨rfl, rfl, rfl⟩⟩
theorem fl_X1_19 : q_FL RX1 19 2 3 := ⟨RX1, "RunPictures$Grader", TX1, 4, tyX1, rfl, by decide, ing_X1, List.mem_filter.mpr ⟨List.mem_of_getElem? (i := 183) (by decide +kernel), by decide +kernel⟩, Or.inl rfl, tyX1_ok, nmX1⟩
theorem fp_X1_19 : q_FP RX1 2 3 (.array .int) "<init>" := ⟨RX1, TX1, 4, rfl, by decide +kernel, Or.inr ⟨rfl, rfl, rfl⟩⟩
theorem fl_X1_22 : q_FL RX1 22 2 0 := ⟨RX1, "RunPictures$Grader", TX1, 4, tyX1, rfl, by decide, ing_X1, List.mem_filter.mpr ⟨List.mem_of_getElem? (i := 179) (by decide +kernel), by decide +kernel⟩, Or.inl rfl, tyX1_ok, nmX1⟩
theorem fp_X1_22 {nm : String} : q_FP RX1 2 0 .int nm := ⟨RX1, TX1, 4, rfl, by decide +kernel, Or.inl rfl⟩
theorem ml_X1_26 : Cond.methodLink RX1 26 yX4_full ∈ q_gw := List.mem_filter.mpr ⟨List.mem_of_getElem? (i := 556) (by decide +kernel), by decide +kernel⟩
theorem ml_X1_32 : Cond.methodLink RX1 32 yJ7_fill_53178 ∈ q_gw := List.mem_filter.mpr ⟨List.mem_of_getElem? (i := 557) (by decide +kernel), by decide +kernel⟩
theorem ml_X1_38 : Cond.methodLink RX1 38 yX4_everyLine ∈ q_gw := List.mem_filter.mpr ⟨List.mem_of_getElem? (i := 558) (by decide +kernel), by decide +kernel⟩
theorem ml_X1_41 : Cond.methodLink RX1 41 yX7_bringToRest ∈ q_gw := List.mem_filter.mpr ⟨List.mem_of_getElem? (i := 559) (by decide +kernel), by decide +kernel⟩
theorem ml_X1_47 : Cond.methodLink RX1 47 yX4_decidedCells ∈ q_gw := List.mem_filter.mpr ⟨List.mem_of_getElem? (i := 560) (by decide +kernel), by decide +kernel⟩
theorem fl_X1_51 : q_FL RX1 51 5 3 := ⟨RX4, "RunPictures$Puzzle", TX4, 7, tyX4, rfl, by decide, ing_X4, List.mem_filter.mpr ⟨List.mem_of_getElem? (i := 332) (by decide +kernel), by decide +kernel⟩, Or.inl rfl, tyX4_ok, nmX4⟩
theorem cn_X1_54 : Cond.constant RX1 54 1000000 ∈ q_gw := List.mem_filter.mpr ⟨List.mem_of_getElem? (i := 561) (by decide +kernel), by decide +kernel⟩
theorem ml_X1_55 : Cond.methodLink RX1 55 yX1_passOfProbes ∈ q_gw := List.mem_filter.mpr ⟨List.mem_of_getElem? (i := 562) (by decide +kernel), by decide +kernel⟩
theorem fl_X1_59 : q_FL RX1 59 5 2 := ⟨RX4, "RunPictures$Puzzle", TX4, 7, tyX4, rfl, by decide, ing_X4, List.mem_filter.mpr ⟨List.mem_of_getElem? (i := 327) (by decide +kernel), by decide +kernel⟩, Or.inl rfl, tyX4_ok, nmX4⟩
theorem mn_X1_62 : Cond.methodLinkNest RX1 62 yX8_holds RX8 ∈ q_nw := List.mem_of_getElem? (i := 5) rfl
theorem mn_X1_66 : Cond.methodLinkNest RX1 66 yX8_isOne RX8 ∈ q_nw := List.mem_of_getElem? (i := 6) rfl
theorem ml_X1_70 : Cond.methodLink RX1 70 ⟨"java/lang/System", "arraycopy", "(Ljava/lang/Object;ILjava/lang/Object;II)V"⟩ ∈ q_gw := List.mem_filter.mpr ⟨List.mem_of_getElem? (i := 568) (by decide +kernel), by decide +kernel⟩
theorem ml_X1_76 : Cond.methodLink RX1 76 yX4_linesThrough ∈ q_gw := List.mem_filter.mpr ⟨List.mem_of_getElem? (i := 569) (by decide +kernel), by decide +kernel⟩
theorem ml_X2_3 : Cond.methodLink RX2 3 objectInit ∈ q_gw := List.mem_filter.mpr ⟨List.mem_of_getElem? (i := 496) (by decide +kernel), by decide +kernel⟩
theorem fl_X2_9 : q_FL RX2 9 3 0 := ⟨RX2, "RunPictures$Level", TX2, 3, tyX2, rfl, by decide, ing_X2, List.mem_filter.mpr ⟨List.mem_of_getElem? (i := 497) (by decide +kernel), by decide +kernel⟩, Or.inl rfl, tyX2_ok, nmX2⟩
theorem fp_X2_9 : q_FP RX2 3 0 (.array .int) "<init>" := ⟨RX2, TX2, 3, rfl, by decide +kernel, Or.inr ⟨rfl, rfl, rfl⟩⟩
theorem fl_X2_15 : q_FL RX2 15 3 1 := ⟨RX2, "RunPictures$Level", TX2, 3, tyX2, rfl, by decide, ing_X2, List.mem_filter.mpr ⟨List.mem_of_getElem? (i := 499) (by decide +kernel), by decide +kernel⟩, Or.inl rfl, tyX2_ok, nmX2⟩
theorem fp_X2_15 {nm : String} : q_FP RX2 3 1 .int nm := ⟨RX2, TX2, 3, rfl, by decide +kernel, Or.inl rfl⟩
theorem fl_X2_19 : q_FL RX2 19 3 2 := ⟨RX2, "RunPictures$Level", TX2, 3, tyX2, rfl, by decide, ing_X2, List.mem_filter.mpr ⟨List.mem_of_getElem? (i := 501) (by decide +kernel), by decide +kernel⟩, Or.inl rfl, tyX2_ok, nmX2⟩
theorem fp_X2_19 {nm : String} : q_FP RX2 3 2 .int nm := ⟨RX2, TX2, 3, rfl, by decide +kernel, Or.inl rfl⟩
theorem ml_X2_22 : Cond.methodLink RX2 22 yJ6_bitCount_0f7a4 ∈ q_gw := List.mem_filter.mpr ⟨List.mem_of_getElem? (i := 529) (by decide +kernel), by decide +kernel⟩
theorem mn_X2_28 : Cond.methodLinkNest RX2 28 yX8_holds RX8 ∈ q_nw := List.mem_of_getElem? (i := 4) rfl
theorem ml_X3_3 : Cond.methodLink RX3 3 objectInit ∈ q_gw := List.mem_filter.mpr ⟨List.mem_of_getElem? (i := 246) (by decide +kernel), by decide +kernel⟩
theorem fl_X3_9 : q_FL RX3 9 4 0 := ⟨RX3, "RunPictures$Line", TX3, 13, tyX3, rfl, by decide, ing_X3, List.mem_filter.mpr ⟨List.mem_of_getElem? (i := 258) (by decide +kernel), by decide +kernel⟩, Or.inl rfl, tyX3_ok, nmX3⟩
theorem fp_X3_9 : q_FP RX3 4 0 .int "<init>" := ⟨RX3, TX3, 13, rfl, by decide +kernel, Or.inr ⟨rfl, rfl, rfl⟩⟩
theorem fl_X3_15 : q_FL RX3 15 4 1 := ⟨RX3, "RunPictures$Line", TX3, 13, tyX3, rfl, by decide, ing_X3, List.mem_filter.mpr ⟨List.mem_of_getElem? (i := 259) (by decide +kernel), by decide +kernel⟩, Or.inl rfl, tyX3_ok, nmX3⟩
theorem fp_X3_15 : q_FP RX3 4 1 .int "<init>" := ⟨RX3, TX3, 13, rfl, by decide +kernel, Or.inr ⟨rfl, rfl, rfl⟩⟩
theorem fl_X3_18 : q_FL RX3 18 4 2 := ⟨RX3, "RunPictures$Line", TX3, 13, tyX3, rfl, by decide, ing_X3, List.mem_filter.mpr ⟨List.mem_of_getElem? (i := 260) (by decide +kernel), by decide +kernel⟩, Or.inl rfl, tyX3_ok, nmX3⟩
theorem fp_X3_18 : q_FP RX3 4 2 .int "<init>" := ⟨RX3, TX3, 13, rfl, by decide +kernel, Or.inr ⟨rfl, rfl, rfl⟩⟩
theorem fl_X3_21 : q_FL RX3 21 4 3 := ⟨RX3, "RunPictures$Line", TX3, 13, tyX3, rfl, by decide, ing_X3, List.mem_filter.mpr ⟨List.mem_of_getElem? (i := 264) (by decide +kernel), by decide +kernel⟩, Or.inl rfl, tyX3_ok, nmX3⟩
theorem fp_X3_21 : q_FP RX3 4 3 .int "<init>" := ⟨RX3, TX3, 13, rfl, by decide +kernel, Or.inr ⟨rfl, rfl, rfl⟩⟩
theorem fl_X3_24 : q_FL RX3 24 4 4 := ⟨RX3, "RunPictures$Line", TX3, 13, tyX3, rfl, by decide, ing_X3, List.mem_filter.mpr ⟨List.mem_of_getElem? (i := 266) (by decide +kernel), by decide +kernel⟩, Or.inl rfl, tyX3_ok, nmX3⟩
theorem fp_X3_24 : q_FP RX3 4 4 (.array .int) "<init>" := ⟨RX3, TX3, 13, rfl, by decide +kernel, Or.inr ⟨rfl, rfl, rfl⟩⟩
theorem fl_X3_28 : q_FL RX3 28 4 5 := ⟨RX3, "RunPictures$Line", TX3, 13, tyX3, rfl, by decide, ing_X3, List.mem_filter.mpr ⟨List.mem_of_getElem? (i := 268) (by decide +kernel), by decide +kernel⟩, Or.inl rfl, tyX3_ok, nmX3⟩
theorem fp_X3_28 : q_FP RX3 4 5 (.array .int) "<init>" := ⟨RX3, TX3, 13, rfl, by decide +kernel, Or.inr ⟨rfl, rfl, rfl⟩⟩
theorem fl_X3_31 : q_FL RX3 31 4 6 := ⟨RX3, "RunPictures$Line", TX3, 13, tyX3, rfl, by decide, ing_X3, List.mem_filter.mpr ⟨List.mem_of_getElem? (i := 270) (by decide +kernel), by decide +kernel⟩, Or.inl rfl, tyX3_ok, nmX3⟩
theorem fp_X3_31 : q_FP RX3 4 6 (.array .int) "<init>" := ⟨RX3, TX3, 13, rfl, by decide +kernel, Or.inr ⟨rfl, rfl, rfl⟩⟩
theorem fl_X3_34 : q_FL RX3 34 4 7 := ⟨RX3, "RunPictures$Line", TX3, 13, tyX3, rfl, by decide, ing_X3, List.mem_filter.mpr ⟨List.mem_of_getElem? (i := 272) (by decide +kernel), by decide +kernel⟩, Or.inl rfl, tyX3_ok, nmX3⟩
theorem fp_X3_34 {nm : String} : q_FP RX3 4 7 .int nm := ⟨RX3, TX3, 13, rfl, by decide +kernel, Or.inl rfl⟩
theorem fl_X3_37 : q_FL RX3 37 4 8 := ⟨RX3, "RunPictures$Line", TX3, 13, tyX3, rfl, by decide, ing_X3, List.mem_filter.mpr ⟨List.mem_of_getElem? (i := 275) (by decide +kernel), by decide +kernel⟩, Or.inl rfl, tyX3_ok, nmX3⟩
theorem fp_X3_37 {nm : String} : q_FP RX3 4 8 .int nm := ⟨RX3, TX3, 13, rfl, by decide +kernel, Or.inl rfl⟩
theorem fl_X3_40 : q_FL RX3 40 4 9 := ⟨RX3, "RunPictures$Line", TX3, 13, tyX3, rfl, by decide, ing_X3, List.mem_filter.mpr ⟨List.mem_of_getElem? (i := 276) (by decide +kernel), by decide +kernel⟩, Or.inl rfl, tyX3_ok, nmX3⟩
theorem fp_X3_40 {nm : String} : q_FP RX3 4 9 .int nm := ⟨RX3, TX3, 13, rfl, by decide +kernel, Or.inl rfl⟩
theorem fl_X3_43 : q_FL RX3 43 4 10 := ⟨RX3, "RunPictures$Line", TX3, 13, tyX3, rfl, by decide, ing_X3, List.mem_filter.mpr ⟨List.mem_of_getElem? (i := 278) (by decide +kernel), by decide +kernel⟩, Or.inl rfl, tyX3_ok, nmX3⟩
theorem fp_X3_43 {nm : String} : q_FP RX3 4 10 .int nm := ⟨RX3, TX3, 13, rfl, by decide +kernel, Or.inl rfl⟩
theorem fl_X3_46 : q_FL RX3 46 4 11 := ⟨RX3, "RunPictures$Line", TX3, 13, tyX3, rfl, by decide, ing_X3, List.mem_filter.mpr ⟨List.mem_of_getElem? (i := 280) (by decide +kernel), by decide +kernel⟩, Or.inl rfl, tyX3_ok, nmX3⟩
theorem fp_X3_46 {nm : String} : q_FP RX3 4 11 .int nm := ⟨RX3, TX3, 13, rfl, by decide +kernel, Or.inl rfl⟩
theorem fl_X3_49 : q_FL RX3 49 4 12 := ⟨RX3, "RunPictures$Line", TX3, 13, tyX3, rfl, by decide, ing_X3, List.mem_filter.mpr ⟨List.mem_of_getElem? (i := 282) (by decide +kernel), by decide +kernel⟩, Or.inl rfl, tyX3_ok, nmX3⟩
theorem fp_X3_49 {nm : String} : q_FP RX3 4 12 .int nm := ⟨RX3, TX3, 13, rfl, by decide +kernel, Or.inl rfl⟩
theorem ml_X3_52 : Cond.methodLink RX3 52 yX3_addGap ∈ q_gw := List.mem_filter.mpr ⟨List.mem_of_getElem? (i := 247) (by decide +kernel), by decide +kernel⟩
theorem ml_X3_55 : Cond.methodLink RX3 55 yX3_addPlace ∈ q_gw := List.mem_filter.mpr ⟨List.mem_of_getElem? (i := 251) (by decide +kernel), by decide +kernel⟩
theorem ml_X3_59 : Cond.methodLink RX3 59 yX3_cellAt ∈ q_gw := List.mem_filter.mpr ⟨List.mem_of_getElem? (i := 590) (by decide +kernel), by decide +kernel⟩
theorem ml_X3_63 : Cond.methodLink RX3 63 yX3_append ∈ q_gw := List.mem_filter.mpr ⟨List.mem_of_getElem? (i := 591) (by decide +kernel), by decide +kernel⟩
theorem mn_X3_67 : Cond.methodLinkNest RX3 67 yX8_holds RX8 ∈ q_nw := List.mem_of_getElem? (i := 0) rfl
theorem ml_X4_3 : Cond.methodLink RX4 3 objectInit ∈ q_gw := List.mem_filter.mpr ⟨List.mem_of_getElem? (i := 239) (by decide +kernel), by decide +kernel⟩
theorem fl_X4_9 : q_FL RX4 9 5 0 := ⟨RX4, "RunPictures$Puzzle", TX4, 7, tyX4, rfl, by decide, ing_X4, List.mem_filter.mpr ⟨List.mem_of_getElem? (i := 322) (by decide +kernel), by decide +kernel⟩, Or.inl rfl, tyX4_ok, nmX4⟩
theorem fp_X4_9 : q_FP RX4 5 0 .int "<init>" := ⟨RX4, TX4, 7, rfl, by decide +kernel, Or.inr ⟨rfl, rfl, rfl⟩⟩
theorem nw_X4_10 : q_NW RX4 10 5 7 [.int 0, .int 0, .int 0, .int 0, .null, .null, .int 0] := ⟨RX4, TX4, tyX4, rfl, ing_X4, List.mem_filter.mpr ⟨List.mem_of_getElem? (i := 600) (by decide +kernel), by decide +kernel⟩, List.mem_filter.mpr ⟨List.mem_of_getElem? (i := 235) (by decide +kernel), by decide +kernel⟩, List.mem_filter.mpr ⟨List.mem_of_getElem? (i := 55) (by decide +kernel), by decide +kernel⟩, tyX4_ok, by decide +kernel⟩
theorem fl_X4_15 : q_FL RX4 15 5 1 := ⟨RX4, "RunPictures$Puzzle", TX4, 7, tyX4, rfl, by decide, ing_X4, List.mem_filter.mpr ⟨List.mem_of_getElem? (i := 324) (by decide +kernel), by decide +kernel⟩, Or.inl rfl, tyX4_ok, nmX4⟩
theorem fp_X4_15 : q_FP RX4 5 1 .int "<init>" := ⟨RX4, TX4, 7, rfl, by decide +kernel, Or.inr ⟨rfl, rfl, rfl⟩⟩
theorem fl_X4_18 : q_FL RX4 18 5 2 := ⟨RX4, "RunPictures$Puzzle", TX4, 7, tyX4, rfl, by decide, ing_X4, List.mem_filter.mpr ⟨List.mem_of_getElem? (i := 326) (by decide +kernel), by decide +kernel⟩, Or.inl rfl, tyX4_ok, nmX4⟩
theorem fp_X4_18 : q_FP RX4 5 2 .int "<init>" := ⟨RX4, TX4, 7, rfl, by decide +kernel, Or.inr ⟨rfl, rfl, rfl⟩⟩
theorem fl_X4_21 : q_FL RX4 21 5 3 := ⟨RX4, "RunPictures$Puzzle", TX4, 7, tyX4, rfl, by decide, ing_X4, List.mem_filter.mpr ⟨List.mem_of_getElem? (i := 330) (by decide +kernel), by decide +kernel⟩, Or.inl rfl, tyX4_ok, nmX4⟩
theorem fp_X4_21 : q_FP RX4 5 3 .int "<init>" := ⟨RX4, TX4, 7, rfl, by decide +kernel, Or.inr ⟨rfl, rfl, rfl⟩⟩
theorem nw_X4_24 : q_NW RX4 24 4 13 [.int 0, .int 0, .int 0, .int 0, .null, .null, .null, .int 0, .int 0, .int 0, .int 0, .int 0, .int 0] := ⟨RX3, TX3, tyX3, rfl, ing_X3, List.mem_filter.mpr ⟨List.mem_of_getElem? (i := 240) (by decide +kernel), by decide +kernel⟩, List.mem_filter.mpr ⟨List.mem_of_getElem? (i := 242) (by decide +kernel), by decide +kernel⟩, List.mem_filter.mpr ⟨List.mem_of_getElem? (i := 56) (by decide +kernel), by decide +kernel⟩, tyX3_ok, by decide +kernel⟩
theorem cw_X4_24 : Cond.classLink RX4 24 RX3 ∈ q_gw := List.mem_filter.mpr ⟨List.mem_of_getElem? (i := 240) (by decide +kernel), by decide +kernel⟩
theorem fl_X4_26 : q_FL RX4 26 5 4 := ⟨RX4, "RunPictures$Puzzle", TX4, 7, tyX4, rfl, by decide, ing_X4, List.mem_filter.mpr ⟨List.mem_of_getElem? (i := 334) (by decide +kernel), by decide +kernel⟩, Or.inl rfl, tyX4_ok, nmX4⟩
theorem fp_X4_26 : q_FP RX4 5 4 (.array (.object "RunPictures$Line")) "<init>" := ⟨RX4, TX4, 7, rfl, by decide +kernel, Or.inr ⟨rfl, rfl, rfl⟩⟩
theorem ml_X4_30 : Cond.methodLink RX4 30 yX3_init ∈ q_gw := List.mem_filter.mpr ⟨List.mem_of_getElem? (i := 243) (by decide +kernel), by decide +kernel⟩
theorem fl_X4_33 : q_FL RX4 33 5 5 := ⟨RX4, "RunPictures$Puzzle", TX4, 7, tyX4, rfl, by decide, ing_X4, List.mem_filter.mpr ⟨List.mem_of_getElem? (i := 337) (by decide +kernel), by decide +kernel⟩, Or.inl rfl, tyX4_ok, nmX4⟩
theorem fp_X4_33 : q_FP RX4 5 5 (.array .int) "<init>" := ⟨RX4, TX4, 7, rfl, by decide +kernel, Or.inr ⟨rfl, rfl, rfl⟩⟩
theorem fl_X4_37 : q_FL RX4 37 5 6 := ⟨RX4, "RunPictures$Puzzle", TX4, 7, tyX4, rfl, by decide, ing_X4, List.mem_filter.mpr ⟨List.mem_of_getElem? (i := 340) (by decide +kernel), by decide +kernel⟩, Or.inl rfl, tyX4_ok, nmX4⟩
theorem fp_X4_37 {nm : String} : q_FP RX4 5 6 .boolean nm := ⟨RX4, TX4, 7, rfl, by decide +kernel, Or.inl rfl⟩
theorem ml_X4_41 : Cond.methodLink RX4 41 yX4_clearDesk ∈ q_gw := List.mem_filter.mpr ⟨List.mem_of_getElem? (i := 311) (by decide +kernel), by decide +kernel⟩
theorem ml_X4_44 : Cond.methodLink RX4 44 yX4_full ∈ q_gw := List.mem_filter.mpr ⟨List.mem_of_getElem? (i := 315) (by decide +kernel), by decide +kernel⟩
theorem ml_X4_48 : Cond.methodLink RX4 48 yJ7_fill_53178 ∈ q_gw := List.mem_filter.mpr ⟨List.mem_of_getElem? (i := 319) (by decide +kernel), by decide +kernel⟩
theorem ml_X4_54 : Cond.methodLink RX4 54 yX4_hasCell ∈ q_gw := List.mem_filter.mpr ⟨List.mem_of_getElem? (i := 414) (by decide +kernel), by decide +kernel⟩
theorem mn_X4_58 : Cond.methodLinkNest RX4 58 yX8_holds RX8 ∈ q_nw := List.mem_of_getElem? (i := 2) rfl
theorem fl_X4_62 : q_FL RX4 62 4 7 := ⟨RX3, "RunPictures$Line", TX3, 13, tyX3, rfl, by decide, ing_X3, List.mem_filter.mpr ⟨List.mem_of_getElem? (i := 274) (by decide +kernel), by decide +kernel⟩, Or.inl rfl, tyX3_ok, nmX3⟩
theorem mn_X4_65 : Cond.methodLinkNest RX4 65 yX8_isOne RX8 ∈ q_nw := List.mem_of_getElem? (i := 1) rfl
theorem ml_X4_68 : Cond.methodLink RX4 68 yX4_init ∈ q_gw := List.mem_filter.mpr ⟨List.mem_of_getElem? (i := 601) (by decide +kernel), by decide +kernel⟩
theorem ml_X4_71 : Cond.methodLink RX4 71 yX4_sourceOf ∈ q_gw := List.mem_filter.mpr ⟨List.mem_of_getElem? (i := 602) (by decide +kernel), by decide +kernel⟩
theorem ml_X4_75 : Cond.methodLink RX4 75 yX4_isBackwards ∈ q_gw := List.mem_filter.mpr ⟨List.mem_of_getElem? (i := 606) (by decide +kernel), by decide +kernel⟩
theorem ml_X4_78 : Cond.methodLink RX4 78 yX3_copyRuns ∈ q_gw := List.mem_filter.mpr ⟨List.mem_of_getElem? (i := 610) (by decide +kernel), by decide +kernel⟩
theorem ml_X4_82 : Cond.methodLink RX4 82 yX3_hasRunsOf ∈ q_gw := List.mem_filter.mpr ⟨List.mem_of_getElem? (i := 622) (by decide +kernel), by decide +kernel⟩
theorem ml_X5_3 : Cond.methodLink RX5 3 objectInit ∈ q_gw := List.mem_filter.mpr ⟨List.mem_of_getElem? (i := 116) (by decide +kernel), by decide +kernel⟩
theorem fl_X5_9 : q_FL RX5 9 6 0 := ⟨RX5, "RunPictures$Scan", TX5, 3, tyX5, rfl, by decide, ing_X5, List.mem_filter.mpr ⟨List.mem_of_getElem? (i := 117) (by decide +kernel), by decide +kernel⟩, Or.inl rfl, tyX5_ok, nmX5⟩
theorem fp_X5_9 : q_FP RX5 6 0 (.array .int) "<init>" := ⟨RX5, TX5, 3, rfl, by decide +kernel, Or.inr ⟨rfl, rfl, rfl⟩⟩
theorem fl_X5_15 : q_FL RX5 15 6 1 := ⟨RX5, "RunPictures$Scan", TX5, 3, tyX5, rfl, by decide, ing_X5, List.mem_filter.mpr ⟨List.mem_of_getElem? (i := 120) (by decide +kernel), by decide +kernel⟩, Or.inl rfl, tyX5_ok, nmX5⟩
theorem fp_X5_15 : q_FP RX5 6 1 (.array .int) "<init>" := ⟨RX5, TX5, 3, rfl, by decide +kernel, Or.inr ⟨rfl, rfl, rfl⟩⟩
theorem fl_X5_18 : q_FL RX5 18 6 2 := ⟨RX5, "RunPictures$Scan", TX5, 3, tyX5, rfl, by decide, ing_X5, List.mem_filter.mpr ⟨List.mem_of_getElem? (i := 121) (by decide +kernel), by decide +kernel⟩, Or.inl rfl, tyX5_ok, nmX5⟩
theorem fp_X5_18 : q_FP RX5 6 2 (.array .int) "<init>" := ⟨RX5, TX5, 3, rfl, by decide +kernel, Or.inr ⟨rfl, rfl, rfl⟩⟩
theorem fl_X5_21 : q_FL RX5 21 4 10 := ⟨RX3, "RunPictures$Line", TX3, 13, tyX3, rfl, by decide, ing_X3, List.mem_filter.mpr ⟨List.mem_of_getElem? (i := 279) (by decide +kernel), by decide +kernel⟩, Or.inl rfl, tyX3_ok, nmX3⟩
theorem fl_X5_27 : q_FL RX5 27 4 11 := ⟨RX3, "RunPictures$Line", TX3, 13, tyX3, rfl, by decide, ing_X3, List.mem_filter.mpr ⟨List.mem_of_getElem? (i := 281) (by decide +kernel), by decide +kernel⟩, Or.inl rfl, tyX3_ok, nmX3⟩
theorem fl_X5_30 : q_FL RX5 30 4 2 := ⟨RX3, "RunPictures$Line", TX3, 13, tyX3, rfl, by decide, ing_X3, List.mem_filter.mpr ⟨List.mem_of_getElem? (i := 262) (by decide +kernel), by decide +kernel⟩, Or.inl rfl, tyX3_ok, nmX3⟩
theorem fl_X5_33 : q_FL RX5 33 4 6 := ⟨RX3, "RunPictures$Line", TX3, 13, tyX3, rfl, by decide, ing_X3, List.mem_filter.mpr ⟨List.mem_of_getElem? (i := 271) (by decide +kernel), by decide +kernel⟩, Or.inl rfl, tyX3_ok, nmX3⟩
theorem ml_X5_36 : Cond.methodLink RX5 36 yX3_cellAt ∈ q_gw := List.mem_filter.mpr ⟨List.mem_of_getElem? (i := 441) (by decide +kernel), by decide +kernel⟩
theorem fl_X5_40 : q_FL RX5 40 4 12 := ⟨RX3, "RunPictures$Line", TX3, 13, tyX3, rfl, by decide, ing_X3, List.mem_filter.mpr ⟨List.mem_of_getElem? (i := 283) (by decide +kernel), by decide +kernel⟩, Or.inl rfl, tyX3_ok, nmX3⟩
theorem ml_X5_43 : Cond.methodLink RX5 43 yX5_coloursOf ∈ q_gw := List.mem_filter.mpr ⟨List.mem_of_getElem? (i := 445) (by decide +kernel), by decide +kernel⟩
theorem ml_X5_47 : Cond.methodLink RX5 47 yJ7_fill_53178 ∈ q_gw := List.mem_filter.mpr ⟨List.mem_of_getElem? (i := 458) (by decide +kernel), by decide +kernel⟩
theorem ml_X5_53 : Cond.methodLink RX5 53 yX5_countOn ∈ q_gw := List.mem_filter.mpr ⟨List.mem_of_getElem? (i := 459) (by decide +kernel), by decide +kernel⟩
theorem fl_X5_57 : q_FL RX5 57 4 9 := ⟨RX3, "RunPictures$Line", TX3, 13, tyX3, rfl, by decide, ing_X3, List.mem_filter.mpr ⟨List.mem_of_getElem? (i := 277) (by decide +kernel), by decide +kernel⟩, Or.inl rfl, tyX3_ok, nmX3⟩
theorem ml_X6_3 : Cond.methodLink RX6 3 objectInit ∈ q_gw := List.mem_filter.mpr ⟨List.mem_of_getElem? (i := 147) (by decide +kernel), by decide +kernel⟩
theorem fl_X6_9 : q_FL RX6 9 7 4 := ⟨RX6, "RunPictures$Searcher", TX6, 6, tyX6, rfl, by decide, ing_X6, List.mem_filter.mpr ⟨List.mem_of_getElem? (i := 158) (by decide +kernel), by decide +kernel⟩, Or.inl rfl, tyX6_ok, nmX6⟩
theorem fp_X6_9 : q_FP RX6 7 4 (.object "RunPictures$Settler") "<init>" := ⟨RX6, TX6, 6, rfl, by decide +kernel, Or.inr ⟨rfl, rfl, rfl⟩⟩
theorem fl_X6_15 : q_FL RX6 15 7 0 := ⟨RX6, "RunPictures$Searcher", TX6, 6, tyX6, rfl, by decide, ing_X6, List.mem_filter.mpr ⟨List.mem_of_getElem? (i := 150) (by decide +kernel), by decide +kernel⟩, Or.inl rfl, tyX6_ok, nmX6⟩
theorem fp_X6_15 : q_FP RX6 7 0 (.array .int) "<init>" := ⟨RX6, TX6, 6, rfl, by decide +kernel, Or.inr ⟨rfl, rfl, rfl⟩⟩
theorem nw_X6_19 : q_NW RX6 19 3 3 [.null, .int 0, .int 0] := ⟨RX2, TX2, tyX2, rfl, ing_X2, List.mem_filter.mpr ⟨List.mem_of_getElem? (i := 148) (by decide +kernel), by decide +kernel⟩, List.mem_filter.mpr ⟨List.mem_of_getElem? (i := 492) (by decide +kernel), by decide +kernel⟩, List.mem_filter.mpr ⟨List.mem_of_getElem? (i := 60) (by decide +kernel), by decide +kernel⟩, tyX2_ok, by decide +kernel⟩
theorem cw_X6_19 : Cond.classLink RX6 19 RX2 ∈ q_gw := List.mem_filter.mpr ⟨List.mem_of_getElem? (i := 148) (by decide +kernel), by decide +kernel⟩
theorem fl_X6_21 : q_FL RX6 21 7 5 := ⟨RX6, "RunPictures$Searcher", TX6, 6, tyX6, rfl, by decide, ing_X6, List.mem_filter.mpr ⟨List.mem_of_getElem? (i := 159) (by decide +kernel), by decide +kernel⟩, Or.inl rfl, tyX6_ok, nmX6⟩
theorem fp_X6_21 : q_FP RX6 7 5 (.array (.object "RunPictures$Level")) "<init>" := ⟨RX6, TX6, 6, rfl, by decide +kernel, Or.inr ⟨rfl, rfl, rfl⟩⟩
theorem fl_X6_25 : q_FL RX6 25 7 1 := ⟨RX6, "RunPictures$Searcher", TX6, 6, tyX6, rfl, by decide, ing_X6, List.mem_filter.mpr ⟨List.mem_of_getElem? (i := 152) (by decide +kernel), by decide +kernel⟩, Or.inl rfl, tyX6_ok, nmX6⟩
theorem fp_X6_25 {nm : String} : q_FP RX6 7 1 .int nm := ⟨RX6, TX6, 6, rfl, by decide +kernel, Or.inl rfl⟩
theorem fl_X6_29 : q_FL RX6 29 7 2 := ⟨RX6, "RunPictures$Searcher", TX6, 6, tyX6, rfl, by decide, ing_X6, List.mem_filter.mpr ⟨List.mem_of_getElem? (i := 154) (by decide +kernel), by decide +kernel⟩, Or.inl rfl, tyX6_ok, nmX6⟩
theorem fp_X6_29 {nm : String} : q_FP RX6 7 2 .int nm := ⟨RX6, TX6, 6, rfl, by decide +kernel, Or.inl rfl⟩
theorem fl_X6_32 : q_FL RX6 32 7 3 := ⟨RX6, "RunPictures$Searcher", TX6, 6, tyX6, rfl, by decide, ing_X6, List.mem_filter.mpr ⟨List.mem_of_getElem? (i := 156) (by decide +kernel), by decide +kernel⟩, Or.inl rfl, tyX6_ok, nmX6⟩
theorem fp_X6_32 {nm : String} : q_FP RX6 7 3 .int nm := ⟨RX6, TX6, 6, rfl, by decide +kernel, Or.inl rfl⟩
theorem fl_X6_35 : q_FL RX6 35 5 3 := ⟨RX4, "RunPictures$Puzzle", TX4, 7, tyX4, rfl, by decide, ing_X4, List.mem_filter.mpr ⟨List.mem_of_getElem? (i := 331) (by decide +kernel), by decide +kernel⟩, Or.inl rfl, tyX4_ok, nmX4⟩
theorem ml_X6_38 : Cond.methodLink RX6 38 yX6_levelAt ∈ q_gw := List.mem_filter.mpr ⟨List.mem_of_getElem? (i := 488) (by decide +kernel), by decide +kernel⟩
theorem fl_X6_42 : q_FL RX6 42 5 5 := ⟨RX4, "RunPictures$Puzzle", TX4, 7, tyX4, rfl, by decide, ing_X4, List.mem_filter.mpr ⟨List.mem_of_getElem? (i := 338) (by decide +kernel), by decide +kernel⟩, Or.inl rfl, tyX4_ok, nmX4⟩
theorem fl_X6_45 : q_FL RX6 45 3 0 := ⟨RX2, "RunPictures$Level", TX2, 3, tyX2, rfl, by decide, ing_X2, List.mem_filter.mpr ⟨List.mem_of_getElem? (i := 498) (by decide +kernel), by decide +kernel⟩, Or.inl rfl, tyX2_ok, nmX2⟩
theorem ml_X6_48 : Cond.methodLink RX6 48 ⟨"java/lang/System", "arraycopy", "(Ljava/lang/Object;ILjava/lang/Object;II)V"⟩ ∈ q_gw := List.mem_filter.mpr ⟨List.mem_of_getElem? (i := 509) (by decide +kernel), by decide +kernel⟩
theorem ml_X6_54 : Cond.methodLink RX6 54 yX4_everyLine ∈ q_gw := List.mem_filter.mpr ⟨List.mem_of_getElem? (i := 510) (by decide +kernel), by decide +kernel⟩
theorem ml_X6_58 : Cond.methodLink RX6 58 yX6_staysOpen ∈ q_gw := List.mem_filter.mpr ⟨List.mem_of_getElem? (i := 511) (by decide +kernel), by decide +kernel⟩
theorem cn_X6_62 : Cond.constant RX6 62 1000000 ∈ q_gw := List.mem_filter.mpr ⟨List.mem_of_getElem? (i := 530) (by decide +kernel), by decide +kernel⟩
theorem ml_X6_63 : Cond.methodLink RX6 63 yX2_takeColour ∈ q_gw := List.mem_filter.mpr ⟨List.mem_of_getElem? (i := 531) (by decide +kernel), by decide +kernel⟩
theorem fl_X6_66 : q_FL RX6 66 3 1 := ⟨RX2, "RunPictures$Level", TX2, 3, tyX2, rfl, by decide, ing_X2, List.mem_filter.mpr ⟨List.mem_of_getElem? (i := 500) (by decide +kernel), by decide +kernel⟩, Or.inl rfl, tyX2_ok, nmX2⟩
theorem ml_X6_69 : Cond.methodLink RX6 69 yX4_linesThrough ∈ q_gw := List.mem_filter.mpr ⟨List.mem_of_getElem? (i := 536) (by decide +kernel), by decide +kernel⟩
theorem ml_X6_73 : Cond.methodLink RX6 73 yX2_init ∈ q_gw := List.mem_filter.mpr ⟨List.mem_of_getElem? (i := 493) (by decide +kernel), by decide +kernel⟩
theorem ml_X6_74 : Cond.methodLink RX6 74 yX7_bringToRest ∈ q_gw := List.mem_filter.mpr ⟨List.mem_of_getElem? (i := 515) (by decide +kernel), by decide +kernel⟩
theorem ml_X6_80 : Cond.methodLink RX6 80 yX4_decidedCells ∈ q_gw := List.mem_filter.mpr ⟨List.mem_of_getElem? (i := 516) (by decide +kernel), by decide +kernel⟩
theorem ml_X6_84 : Cond.methodLink RX6 84 yX6_keepPicture ∈ q_gw := List.mem_filter.mpr ⟨List.mem_of_getElem? (i := 517) (by decide +kernel), by decide +kernel⟩
theorem ml_X6_88 : Cond.methodLink RX6 88 yX2_pickCell ∈ q_gw := List.mem_filter.mpr ⟨List.mem_of_getElem? (i := 525) (by decide +kernel), by decide +kernel⟩
theorem mn_X6_92 : Cond.methodLinkNest RX6 92 yX8_firstOf RX8 ∈ q_nw := List.mem_of_getElem? (i := 3) rfl
theorem ml_X7_3 : Cond.methodLink RX7 3 objectInit ∈ q_gw := List.mem_filter.mpr ⟨List.mem_of_getElem? (i := 134) (by decide +kernel), by decide +kernel⟩
theorem fl_X7_9 : q_FL RX7 9 8 0 := ⟨RX7, "RunPictures$Settler", TX7, 2, tyX7, rfl, by decide, ing_X7, List.mem_filter.mpr ⟨List.mem_of_getElem? (i := 135) (by decide +kernel), by decide +kernel⟩, Or.inl rfl, tyX7_ok, nmX7⟩
theorem fp_X7_9 : q_FP RX7 8 0 (.object "RunPictures$Scan") "<init>" := ⟨RX7, TX7, 2, rfl, by decide +kernel, Or.inr ⟨rfl, rfl, rfl⟩⟩
theorem fl_X7_15 : q_FL RX7 15 8 1 := ⟨RX7, "RunPictures$Settler", TX7, 2, tyX7, rfl, by decide, ing_X7, List.mem_filter.mpr ⟨List.mem_of_getElem? (i := 136) (by decide +kernel), by decide +kernel⟩, Or.inl rfl, tyX7_ok, nmX7⟩
theorem fp_X7_15 {nm : String} : q_FP RX7 8 1 .int nm := ⟨RX7, TX7, 2, rfl, by decide +kernel, Or.inl rfl⟩
theorem ml_X7_19 : Cond.methodLink RX7 19 yX5_weigh ∈ q_gw := List.mem_filter.mpr ⟨List.mem_of_getElem? (i := 437) (by decide +kernel), by decide +kernel⟩
theorem fl_X7_25 : q_FL RX7 25 4 2 := ⟨RX3, "RunPictures$Line", TX3, 13, tyX3, rfl, by decide, ing_X3, List.mem_filter.mpr ⟨List.mem_of_getElem? (i := 261) (by decide +kernel), by decide +kernel⟩, Or.inl rfl, tyX3_ok, nmX3⟩
theorem ml_X7_30 : Cond.methodLink RX7 30 yX3_cellAt ∈ q_gw := List.mem_filter.mpr ⟨List.mem_of_getElem? (i := 448) (by decide +kernel), by decide +kernel⟩
theorem fl_X7_34 : q_FL RX7 34 6 0 := ⟨RX5, "RunPictures$Scan", TX5, 3, tyX5, rfl, by decide, ing_X5, List.mem_filter.mpr ⟨List.mem_of_getElem? (i := 118) (by decide +kernel), by decide +kernel⟩, Or.inl rfl, tyX5_ok, nmX5⟩
theorem ml_X7_38 : Cond.methodLink RX7 38 yJ6_bitCount_0f7a4 ∈ q_gw := List.mem_filter.mpr ⟨List.mem_of_getElem? (i := 449) (by decide +kernel), by decide +kernel⟩
theorem fl_X7_43 : q_FL RX7 43 4 3 := ⟨RX3, "RunPictures$Line", TX3, 13, tyX3, rfl, by decide, ing_X3, List.mem_filter.mpr ⟨List.mem_of_getElem? (i := 265) (by decide +kernel), by decide +kernel⟩, Or.inl rfl, tyX3_ok, nmX3⟩
theorem cn_X7_46 : Cond.constant RX7 46 1000000 ∈ q_gw := List.mem_filter.mpr ⟨List.mem_of_getElem? (i := 478) (by decide +kernel), by decide +kernel⟩
theorem fl_X7_47 : q_FL RX7 47 5 4 := ⟨RX4, "RunPictures$Puzzle", TX4, 7, tyX4, rfl, by decide, ing_X4, List.mem_filter.mpr ⟨List.mem_of_getElem? (i := 335) (by decide +kernel), by decide +kernel⟩, Or.inl rfl, tyX4_ok, nmX4⟩
theorem ml_X7_53 : Cond.methodLink RX7 53 yX7_narrow ∈ q_gw := List.mem_filter.mpr ⟨List.mem_of_getElem? (i := 479) (by decide +kernel), by decide +kernel⟩
theorem nw_L_7 : q_NW RL 7 9 11 [.null, .null, .null, .null, .null, .null, .null, .null, .null, .int 0, .int 0] := ⟨RX8, TX8, tyX8, rfl, ing_X8, List.mem_filter.mpr ⟨List.mem_of_getElem? (i := 66) (by decide +kernel), by decide +kernel⟩, List.mem_filter.mpr ⟨List.mem_of_getElem? (i := 67) (by decide +kernel), by decide +kernel⟩, List.mem_filter.mpr ⟨List.mem_of_getElem? (i := 45) (by decide +kernel), by decide +kernel⟩, tyX8_ok, by decide +kernel⟩
theorem ml_L_9 : Cond.methodLink RL 9 yX8_init ∈ q_gw := List.mem_filter.mpr ⟨List.mem_of_getElem? (i := 68) (by decide +kernel), by decide +kernel⟩
theorem nw_L_10 : q_NW RL 10 10 36 [.int 0, .null, .null, .null, .null, .null, .null, .null, .null, .null, .null, .null, .null, .null, .null, .null, .int 0, .int 0, .int 0, .int 0, .null, .null, .null, .int 0, .int 0, .int 0, .null, .null, .null, .null, .null, .null, .null, .null, .null, .int 0] := ⟨RX9, TX9, tyX9, rfl, ing_X9, List.mem_filter.mpr ⟨List.mem_of_getElem? (i := 908) (by decide +kernel), by decide +kernel⟩, List.mem_filter.mpr ⟨List.mem_of_getElem? (i := 909) (by decide +kernel), by decide +kernel⟩, List.mem_filter.mpr ⟨List.mem_of_getElem? (i := 54) (by decide +kernel), by decide +kernel⟩, tyX9_ok, by decide +kernel⟩
theorem ml_L_12 : Cond.methodLink RL 12 yX9_init ∈ q_gw := List.mem_filter.mpr ⟨List.mem_of_getElem? (i := 910) (by decide +kernel), by decide +kernel⟩
theorem ml_L_13 : Cond.methodLink RL 13 yX8_puzzle ∈ q_gw := List.mem_filter.mpr ⟨List.mem_of_getElem? (i := 227) (by decide +kernel), by decide +kernel⟩
theorem ml_L_17 : Cond.methodLink RL 17 yX9_puzzle ∈ q_gw := List.mem_filter.mpr ⟨List.mem_of_getElem? (i := 1024) (by decide +kernel), by decide +kernel⟩
theorem ml_L_18 : Cond.methodLink RL 18 yX8_run ∈ q_gw := List.mem_filter.mpr ⟨List.mem_of_getElem? (i := 361) (by decide +kernel), by decide +kernel⟩
theorem ml_L_22 : Cond.methodLink RL 22 yX9_run ∈ q_gw := List.mem_filter.mpr ⟨List.mem_of_getElem? (i := 1048) (by decide +kernel), by decide +kernel⟩
theorem ml_L_23 : Cond.methodLink RL 23 yX8_told ∈ q_gw := List.mem_filter.mpr ⟨List.mem_of_getElem? (i := 377) (by decide +kernel), by decide +kernel⟩
theorem ml_L_27 : Cond.methodLink RL 27 yX9_told ∈ q_gw := List.mem_filter.mpr ⟨List.mem_of_getElem? (i := 1068) (by decide +kernel), by decide +kernel⟩
theorem ml_L_28 : Cond.methodLink RL 28 yX8_clue ∈ q_gw := List.mem_filter.mpr ⟨List.mem_of_getElem? (i := 398) (by decide +kernel), by decide +kernel⟩
theorem ml_L_31 : Cond.methodLink RL 31 yX9_clue ∈ q_gw := List.mem_filter.mpr ⟨List.mem_of_getElem? (i := 1075) (by decide +kernel), by decide +kernel⟩
theorem ml_L_32 : Cond.methodLink RL 32 yX8_fresh ∈ q_gw := List.mem_filter.mpr ⟨List.mem_of_getElem? (i := 402) (by decide +kernel), by decide +kernel⟩
theorem ml_L_36 : Cond.methodLink RL 36 yX9_fresh ∈ q_gw := List.mem_filter.mpr ⟨List.mem_of_getElem? (i := 1047) (by decide +kernel), by decide +kernel⟩
theorem ml_L_37 : Cond.methodLink RL 37 yX8_choose ∈ q_gw := List.mem_filter.mpr ⟨List.mem_of_getElem? (i := 406) (by decide +kernel), by decide +kernel⟩
theorem ml_L_41 : Cond.methodLink RL 41 yX9_choose ∈ q_gw := List.mem_filter.mpr ⟨List.mem_of_getElem? (i := 1079) (by decide +kernel), by decide +kernel⟩
theorem ml_L_42 : Cond.methodLink RL 42 yX8_bar ∈ q_gw := List.mem_filter.mpr ⟨List.mem_of_getElem? (i := 419) (by decide +kernel), by decide +kernel⟩
theorem ml_L_45 : Cond.methodLink RL 45 yX9_bar ∈ q_gw := List.mem_filter.mpr ⟨List.mem_of_getElem? (i := 1087) (by decide +kernel), by decide +kernel⟩
theorem ml_L_46 : Cond.methodLink RL 46 yX8_set ∈ q_gw := List.mem_filter.mpr ⟨List.mem_of_getElem? (i := 424) (by decide +kernel), by decide +kernel⟩
theorem ml_L_49 : Cond.methodLink RL 49 yX9_set ∈ q_gw := List.mem_filter.mpr ⟨List.mem_of_getElem? (i := 1091) (by decide +kernel), by decide +kernel⟩
theorem ml_L_50 : Cond.methodLink RL 50 yX8_step ∈ q_gw := List.mem_filter.mpr ⟨List.mem_of_getElem? (i := 429) (by decide +kernel), by decide +kernel⟩
theorem ml_L_53 : Cond.methodLink RL 53 yX9_step ∈ q_gw := List.mem_filter.mpr ⟨List.mem_of_getElem? (i := 1095) (by decide +kernel), by decide +kernel⟩
theorem ml_L_54 : Cond.methodLink RL 54 yX8_ways ∈ q_gw := List.mem_filter.mpr ⟨List.mem_of_getElem? (i := 450) (by decide +kernel), by decide +kernel⟩
theorem ml_L_57 : Cond.methodLink RL 57 yX9_ways ∈ q_gw := List.mem_filter.mpr ⟨List.mem_of_getElem? (i := 1131) (by decide +kernel), by decide +kernel⟩
theorem ml_L_58 : Cond.methodLink RL 58 yX8_settle ∈ q_gw := List.mem_filter.mpr ⟨List.mem_of_getElem? (i := 463) (by decide +kernel), by decide +kernel⟩
theorem ml_L_62 : Cond.methodLink RL 62 yX9_settle ∈ q_gw := List.mem_filter.mpr ⟨List.mem_of_getElem? (i := 1135) (by decide +kernel), by decide +kernel⟩
theorem ml_L_63 : Cond.methodLink RL 63 yX8_search ∈ q_gw := List.mem_filter.mpr ⟨List.mem_of_getElem? (i := 480) (by decide +kernel), by decide +kernel⟩
theorem ml_L_66 : Cond.methodLink RL 66 yX9_search ∈ q_gw := List.mem_filter.mpr ⟨List.mem_of_getElem? (i := 1143) (by decide +kernel), by decide +kernel⟩
theorem ml_L_67 : Cond.methodLink RL 67 yX8_found ∈ q_gw := List.mem_filter.mpr ⟨List.mem_of_getElem? (i := 540) (by decide +kernel), by decide +kernel⟩
theorem ml_L_70 : Cond.methodLink RL 70 yX9_found ∈ q_gw := List.mem_filter.mpr ⟨List.mem_of_getElem? (i := 1162) (by decide +kernel), by decide +kernel⟩
theorem ml_L_71 : Cond.methodLink RL 71 yX8_picture ∈ q_gw := List.mem_filter.mpr ⟨List.mem_of_getElem? (i := 544) (by decide +kernel), by decide +kernel⟩
theorem ml_L_74 : Cond.methodLink RL 74 yX9_picture ∈ q_gw := List.mem_filter.mpr ⟨List.mem_of_getElem? (i := 1166) (by decide +kernel), by decide +kernel⟩
theorem ml_L_75 : Cond.methodLink RL 75 yX8_grade ∈ q_gw := List.mem_filter.mpr ⟨List.mem_of_getElem? (i := 548) (by decide +kernel), by decide +kernel⟩
theorem ml_L_78 : Cond.methodLink RL 78 yX9_grade ∈ q_gw := List.mem_filter.mpr ⟨List.mem_of_getElem? (i := 1170) (by decide +kernel), by decide +kernel⟩
theorem ml_L_79 : Cond.methodLink RL 79 yX8_probes ∈ q_gw := List.mem_filter.mpr ⟨List.mem_of_getElem? (i := 570) (by decide +kernel), by decide +kernel⟩
theorem ml_L_83 : Cond.methodLink RL 83 yX9_probes ∈ q_gw := List.mem_filter.mpr ⟨List.mem_of_getElem? (i := 1178) (by decide +kernel), by decide +kernel⟩
theorem ml_L_84 : Cond.methodLink RL 84 yX8_paint ∈ q_gw := List.mem_filter.mpr ⟨List.mem_of_getElem? (i := 574) (by decide +kernel), by decide +kernel⟩
theorem ml_L_87 : Cond.methodLink RL 87 yX9_paint ∈ q_gw := List.mem_filter.mpr ⟨List.mem_of_getElem? (i := 1182) (by decide +kernel), by decide +kernel⟩
theorem ml_L_88 : Cond.methodLink RL 88 yX8_make ∈ q_gw := List.mem_filter.mpr ⟨List.mem_of_getElem? (i := 578) (by decide +kernel), by decide +kernel⟩
theorem ml_L_91 : Cond.methodLink RL 91 yX9_make ∈ q_gw := List.mem_filter.mpr ⟨List.mem_of_getElem? (i := 1186) (by decide +kernel), by decide +kernel⟩
theorem ml_L_92 : Cond.methodLink RL 92 yX8_turn ∈ q_gw := List.mem_filter.mpr ⟨List.mem_of_getElem? (i := 592) (by decide +kernel), by decide +kernel⟩
theorem ml_L_95 : Cond.methodLink RL 95 yX9_turn ∈ q_gw := List.mem_filter.mpr ⟨List.mem_of_getElem? (i := 1195) (by decide +kernel), by decide +kernel⟩
theorem ml_L_96 : Cond.methodLink RL 96 yX8_same ∈ q_gw := List.mem_filter.mpr ⟨List.mem_of_getElem? (i := 614) (by decide +kernel), by decide +kernel⟩
theorem ml_L_99 : Cond.methodLink RL 99 yX9_same ∈ q_gw := List.mem_filter.mpr ⟨List.mem_of_getElem? (i := 1207) (by decide +kernel), by decide +kernel⟩
theorem ml_L_100 : Cond.methodLink RL 100 yX8_game ∈ q_gw := List.mem_filter.mpr ⟨List.mem_of_getElem? (i := 626) (by decide +kernel), by decide +kernel⟩
theorem ml_L_103 : Cond.methodLink RL 103 yX9_game ∈ q_gw := List.mem_filter.mpr ⟨List.mem_of_getElem? (i := 1215) (by decide +kernel), by decide +kernel⟩
theorem ml_L_104 : Cond.methodLink RL 104 yX8_mark ∈ q_gw := List.mem_filter.mpr ⟨List.mem_of_getElem? (i := 670) (by decide +kernel), by decide +kernel⟩
theorem ml_L_107 : Cond.methodLink RL 107 yX9_mark ∈ q_gw := List.mem_filter.mpr ⟨List.mem_of_getElem? (i := 1219) (by decide +kernel), by decide +kernel⟩
theorem ml_L_108 : Cond.methodLink RL 108 yX8_marked ∈ q_gw := List.mem_filter.mpr ⟨List.mem_of_getElem? (i := 682) (by decide +kernel), by decide +kernel⟩
theorem ml_L_111 : Cond.methodLink RL 111 yX9_marked ∈ q_gw := List.mem_filter.mpr ⟨List.mem_of_getElem? (i := 1227) (by decide +kernel), by decide +kernel⟩
theorem ml_L_112 : Cond.methodLink RL 112 yX8_undo ∈ q_gw := List.mem_filter.mpr ⟨List.mem_of_getElem? (i := 686) (by decide +kernel), by decide +kernel⟩
theorem ml_L_115 : Cond.methodLink RL 115 yX9_undo ∈ q_gw := List.mem_filter.mpr ⟨List.mem_of_getElem? (i := 1231) (by decide +kernel), by decide +kernel⟩
theorem ml_L_116 : Cond.methodLink RL 116 yX8_redo ∈ q_gw := List.mem_filter.mpr ⟨List.mem_of_getElem? (i := 694) (by decide +kernel), by decide +kernel⟩
theorem ml_L_119 : Cond.methodLink RL 119 yX9_redo ∈ q_gw := List.mem_filter.mpr ⟨List.mem_of_getElem? (i := 1235) (by decide +kernel), by decide +kernel⟩
theorem ml_L_120 : Cond.methodLink RL 120 yX8_hint ∈ q_gw := List.mem_filter.mpr ⟨List.mem_of_getElem? (i := 702) (by decide +kernel), by decide +kernel⟩
theorem ml_L_123 : Cond.methodLink RL 123 yX9_hint ∈ q_gw := List.mem_filter.mpr ⟨List.mem_of_getElem? (i := 1239) (by decide +kernel), by decide +kernel⟩
theorem ml_L_124 : Cond.methodLink RL 124 yX8_state ∈ q_gw := List.mem_filter.mpr ⟨List.mem_of_getElem? (i := 718) (by decide +kernel), by decide +kernel⟩
theorem ml_L_127 : Cond.methodLink RL 127 yX9_state ∈ q_gw := List.mem_filter.mpr ⟨List.mem_of_getElem? (i := 1247) (by decide +kernel), by decide +kernel⟩
theorem ml_L_128 : Cond.methodLink RL 128 yX8_write ∈ q_gw := List.mem_filter.mpr ⟨List.mem_of_getElem? (i := 730) (by decide +kernel), by decide +kernel⟩
theorem ml_L_131 : Cond.methodLink RL 131 yX9_write ∈ q_gw := List.mem_filter.mpr ⟨List.mem_of_getElem? (i := 1251) (by decide +kernel), by decide +kernel⟩
theorem ml_L_132 : Cond.methodLink RL 132 yX8_out ∈ q_gw := List.mem_filter.mpr ⟨List.mem_of_getElem? (i := 888) (by decide +kernel), by decide +kernel⟩
theorem ml_L_135 : Cond.methodLink RL 135 yX9_out ∈ q_gw := List.mem_filter.mpr ⟨List.mem_of_getElem? (i := 1259) (by decide +kernel), by decide +kernel⟩
theorem ml_L_136 : Cond.methodLink RL 136 yX8_count ∈ q_gw := List.mem_filter.mpr ⟨List.mem_of_getElem? (i := 904) (by decide +kernel), by decide +kernel⟩
theorem ml_L_139 : Cond.methodLink RL 139 yX9_count ∈ q_gw := List.mem_filter.mpr ⟨List.mem_of_getElem? (i := 1263) (by decide +kernel), by decide +kernel⟩
theorem ml_X9_1 : Cond.methodLink RX9 1 objectInit ∈ q_gw := List.mem_filter.mpr ⟨List.mem_of_getElem? (i := 913) (by decide +kernel), by decide +kernel⟩
theorem fl_X9_9 : q_FL RX9 9 10 1 := ⟨RX9, "RunPicturesModel", TX9, 36, tyX9, rfl, by decide, ing_X9, List.mem_filter.mpr ⟨List.mem_of_getElem? (i := 915) (by decide +kernel), by decide +kernel⟩, Or.inl rfl, tyX9_ok, nmX9⟩
theorem fp_X9_9 : q_FP RX9 10 1 (.array .int) "<init>" := ⟨RX9, TX9, 36, rfl, by decide +kernel, Or.inr ⟨rfl, rfl, rfl⟩⟩
theorem fl_X9_13 : q_FL RX9 13 10 2 := ⟨RX9, "RunPicturesModel", TX9, 36, tyX9, rfl, by decide, ing_X9, List.mem_filter.mpr ⟨List.mem_of_getElem? (i := 916) (by decide +kernel), by decide +kernel⟩, Or.inl rfl, tyX9_ok, nmX9⟩
theorem fp_X9_13 : q_FP RX9 10 2 (.array .int) "<init>" := ⟨RX9, TX9, 36, rfl, by decide +kernel, Or.inr ⟨rfl, rfl, rfl⟩⟩
theorem fl_X9_16 : q_FL RX9 16 10 3 := ⟨RX9, "RunPicturesModel", TX9, 36, tyX9, rfl, by decide, ing_X9, List.mem_filter.mpr ⟨List.mem_of_getElem? (i := 917) (by decide +kernel), by decide +kernel⟩, Or.inl rfl, tyX9_ok, nmX9⟩
theorem fp_X9_16 : q_FP RX9 10 3 (.array .int) "<init>" := ⟨RX9, TX9, 36, rfl, by decide +kernel, Or.inr ⟨rfl, rfl, rfl⟩⟩
theorem fl_X9_19 : q_FL RX9 19 10 4 := ⟨RX9, "RunPicturesModel", TX9, 36, tyX9, rfl, by decide, ing_X9, List.mem_filter.mpr ⟨List.mem_of_getElem? (i := 918) (by decide +kernel), by decide +kernel⟩, Or.inl rfl, tyX9_ok, nmX9⟩
theorem fp_X9_19 : q_FP RX9 10 4 (.array .boolean) "<init>" := ⟨RX9, TX9, 36, rfl, by decide +kernel, Or.inr ⟨rfl, rfl, rfl⟩⟩
theorem fl_X9_23 : q_FL RX9 23 10 5 := ⟨RX9, "RunPicturesModel", TX9, 36, tyX9, rfl, by decide, ing_X9, List.mem_filter.mpr ⟨List.mem_of_getElem? (i := 919) (by decide +kernel), by decide +kernel⟩, Or.inl rfl, tyX9_ok, nmX9⟩
theorem fp_X9_23 : q_FP RX9 10 5 (.array .int) "<init>" := ⟨RX9, TX9, 36, rfl, by decide +kernel, Or.inr ⟨rfl, rfl, rfl⟩⟩
theorem fl_X9_26 : q_FL RX9 26 10 6 := ⟨RX9, "RunPicturesModel", TX9, 36, tyX9, rfl, by decide, ing_X9, List.mem_filter.mpr ⟨List.mem_of_getElem? (i := 920) (by decide +kernel), by decide +kernel⟩, Or.inl rfl, tyX9_ok, nmX9⟩
theorem fp_X9_26 : q_FP RX9 10 6 (.array .int) "<init>" := ⟨RX9, TX9, 36, rfl, by decide +kernel, Or.inr ⟨rfl, rfl, rfl⟩⟩
theorem fl_X9_29 : q_FL RX9 29 10 7 := ⟨RX9, "RunPicturesModel", TX9, 36, tyX9, rfl, by decide, ing_X9, List.mem_filter.mpr ⟨List.mem_of_getElem? (i := 921) (by decide +kernel), by decide +kernel⟩, Or.inl rfl, tyX9_ok, nmX9⟩
theorem fp_X9_29 : q_FP RX9 10 7 (.array .int) "<init>" := ⟨RX9, TX9, 36, rfl, by decide +kernel, Or.inr ⟨rfl, rfl, rfl⟩⟩
theorem fl_X9_32 : q_FL RX9 32 10 8 := ⟨RX9, "RunPicturesModel", TX9, 36, tyX9, rfl, by decide, ing_X9, List.mem_filter.mpr ⟨List.mem_of_getElem? (i := 922) (by decide +kernel), by decide +kernel⟩, Or.inl rfl, tyX9_ok, nmX9⟩
theorem fp_X9_32 : q_FP RX9 10 8 (.array .int) "<init>" := ⟨RX9, TX9, 36, rfl, by decide +kernel, Or.inr ⟨rfl, rfl, rfl⟩⟩
theorem fl_X9_35 : q_FL RX9 35 10 9 := ⟨RX9, "RunPicturesModel", TX9, 36, tyX9, rfl, by decide, ing_X9, List.mem_filter.mpr ⟨List.mem_of_getElem? (i := 923) (by decide +kernel), by decide +kernel⟩, Or.inl rfl, tyX9_ok, nmX9⟩
theorem fp_X9_35 : q_FP RX9 10 9 (.array .int) "<init>" := ⟨RX9, TX9, 36, rfl, by decide +kernel, Or.inr ⟨rfl, rfl, rfl⟩⟩
theorem fl_X9_38 : q_FL RX9 38 10 10 := ⟨RX9, "RunPicturesModel", TX9, 36, tyX9, rfl, by decide, ing_X9, List.mem_filter.mpr ⟨List.mem_of_getElem? (i := 924) (by decide +kernel), by decide +kernel⟩, Or.inl rfl, tyX9_ok, nmX9⟩
theorem fp_X9_38 : q_FP RX9 10 10 (.array .int) "<init>" := ⟨RX9, TX9, 36, rfl, by decide +kernel, Or.inr ⟨rfl, rfl, rfl⟩⟩
theorem fl_X9_41 : q_FL RX9 41 10 11 := ⟨RX9, "RunPicturesModel", TX9, 36, tyX9, rfl, by decide, ing_X9, List.mem_filter.mpr ⟨List.mem_of_getElem? (i := 925) (by decide +kernel), by decide +kernel⟩, Or.inl rfl, tyX9_ok, nmX9⟩
theorem fp_X9_41 : q_FP RX9 10 11 (.array .int) "<init>" := ⟨RX9, TX9, 36, rfl, by decide +kernel, Or.inr ⟨rfl, rfl, rfl⟩⟩
theorem fl_X9_44 : q_FL RX9 44 10 12 := ⟨RX9, "RunPicturesModel", TX9, 36, tyX9, rfl, by decide, ing_X9, List.mem_filter.mpr ⟨List.mem_of_getElem? (i := 926) (by decide +kernel), by decide +kernel⟩, Or.inl rfl, tyX9_ok, nmX9⟩
theorem fp_X9_44 : q_FP RX9 10 12 (.array .int) "<init>" := ⟨RX9, TX9, 36, rfl, by decide +kernel, Or.inr ⟨rfl, rfl, rfl⟩⟩
theorem fl_X9_47 : q_FL RX9 47 10 13 := ⟨RX9, "RunPicturesModel", TX9, 36, tyX9, rfl, by decide, ing_X9, List.mem_filter.mpr ⟨List.mem_of_getElem? (i := 927) (by decide +kernel), by decide +kernel⟩, Or.inl rfl, tyX9_ok, nmX9⟩
theorem fp_X9_47 : q_FP RX9 10 13 (.array .int) "<init>" := ⟨RX9, TX9, 36, rfl, by decide +kernel, Or.inr ⟨rfl, rfl, rfl⟩⟩
theorem fl_X9_50 : q_FL RX9 50 10 14 := ⟨RX9, "RunPicturesModel", TX9, 36, tyX9, rfl, by decide, ing_X9, List.mem_filter.mpr ⟨List.mem_of_getElem? (i := 928) (by decide +kernel), by decide +kernel⟩, Or.inl rfl, tyX9_ok, nmX9⟩
theorem fp_X9_50 : q_FP RX9 10 14 (.array .int) "<init>" := ⟨RX9, TX9, 36, rfl, by decide +kernel, Or.inr ⟨rfl, rfl, rfl⟩⟩
theorem fl_X9_53 : q_FL RX9 53 10 15 := ⟨RX9, "RunPicturesModel", TX9, 36, tyX9, rfl, by decide, ing_X9, List.mem_filter.mpr ⟨List.mem_of_getElem? (i := 929) (by decide +kernel), by decide +kernel⟩, Or.inl rfl, tyX9_ok, nmX9⟩
theorem fp_X9_53 : q_FP RX9 10 15 (.array .int) "<init>" := ⟨RX9, TX9, 36, rfl, by decide +kernel, Or.inr ⟨rfl, rfl, rfl⟩⟩
theorem fl_X9_56 : q_FL RX9 56 10 20 := ⟨RX9, "RunPicturesModel", TX9, 36, tyX9, rfl, by decide, ing_X9, List.mem_filter.mpr ⟨List.mem_of_getElem? (i := 934) (by decide +kernel), by decide +kernel⟩, Or.inl rfl, tyX9_ok, nmX9⟩
theorem fp_X9_56 : q_FP RX9 10 20 (.array .int) "<init>" := ⟨RX9, TX9, 36, rfl, by decide +kernel, Or.inr ⟨rfl, rfl, rfl⟩⟩
theorem fl_X9_59 : q_FL RX9 59 10 21 := ⟨RX9, "RunPicturesModel", TX9, 36, tyX9, rfl, by decide, ing_X9, List.mem_filter.mpr ⟨List.mem_of_getElem? (i := 935) (by decide +kernel), by decide +kernel⟩, Or.inl rfl, tyX9_ok, nmX9⟩
theorem fp_X9_59 : q_FP RX9 10 21 (.array .int) "<init>" := ⟨RX9, TX9, 36, rfl, by decide +kernel, Or.inr ⟨rfl, rfl, rfl⟩⟩
theorem fl_X9_62 : q_FL RX9 62 10 22 := ⟨RX9, "RunPicturesModel", TX9, 36, tyX9, rfl, by decide, ing_X9, List.mem_filter.mpr ⟨List.mem_of_getElem? (i := 936) (by decide +kernel), by decide +kernel⟩, Or.inl rfl, tyX9_ok, nmX9⟩
theorem fp_X9_62 : q_FP RX9 10 22 (.array .int) "<init>" := ⟨RX9, TX9, 36, rfl, by decide +kernel, Or.inr ⟨rfl, rfl, rfl⟩⟩
theorem fl_X9_65 : q_FL RX9 65 10 26 := ⟨RX9, "RunPicturesModel", TX9, 36, tyX9, rfl, by decide, ing_X9, List.mem_filter.mpr ⟨List.mem_of_getElem? (i := 940) (by decide +kernel), by decide +kernel⟩, Or.inl rfl, tyX9_ok, nmX9⟩
theorem fp_X9_65 : q_FP RX9 10 26 (.array .int) "<init>" := ⟨RX9, TX9, 36, rfl, by decide +kernel, Or.inr ⟨rfl, rfl, rfl⟩⟩
theorem fl_X9_68 : q_FL RX9 68 10 27 := ⟨RX9, "RunPicturesModel", TX9, 36, tyX9, rfl, by decide, ing_X9, List.mem_filter.mpr ⟨List.mem_of_getElem? (i := 941) (by decide +kernel), by decide +kernel⟩, Or.inl rfl, tyX9_ok, nmX9⟩
theorem fp_X9_68 : q_FP RX9 10 27 (.array .int) "<init>" := ⟨RX9, TX9, 36, rfl, by decide +kernel, Or.inr ⟨rfl, rfl, rfl⟩⟩
theorem fl_X9_71 : q_FL RX9 71 10 28 := ⟨RX9, "RunPicturesModel", TX9, 36, tyX9, rfl, by decide, ing_X9, List.mem_filter.mpr ⟨List.mem_of_getElem? (i := 942) (by decide +kernel), by decide +kernel⟩, Or.inl rfl, tyX9_ok, nmX9⟩
theorem fp_X9_71 : q_FP RX9 10 28 (.array .int) "<init>" := ⟨RX9, TX9, 36, rfl, by decide +kernel, Or.inr ⟨rfl, rfl, rfl⟩⟩
theorem fl_X9_74 : q_FL RX9 74 10 29 := ⟨RX9, "RunPicturesModel", TX9, 36, tyX9, rfl, by decide, ing_X9, List.mem_filter.mpr ⟨List.mem_of_getElem? (i := 943) (by decide +kernel), by decide +kernel⟩, Or.inl rfl, tyX9_ok, nmX9⟩
theorem fp_X9_74 : q_FP RX9 10 29 (.array .int) "<init>" := ⟨RX9, TX9, 36, rfl, by decide +kernel, Or.inr ⟨rfl, rfl, rfl⟩⟩
theorem fl_X9_77 : q_FL RX9 77 10 30 := ⟨RX9, "RunPicturesModel", TX9, 36, tyX9, rfl, by decide, ing_X9, List.mem_filter.mpr ⟨List.mem_of_getElem? (i := 944) (by decide +kernel), by decide +kernel⟩, Or.inl rfl, tyX9_ok, nmX9⟩
theorem fp_X9_77 : q_FP RX9 10 30 (.array .int) "<init>" := ⟨RX9, TX9, 36, rfl, by decide +kernel, Or.inr ⟨rfl, rfl, rfl⟩⟩
theorem fl_X9_80 : q_FL RX9 80 10 31 := ⟨RX9, "RunPicturesModel", TX9, 36, tyX9, rfl, by decide, ing_X9, List.mem_filter.mpr ⟨List.mem_of_getElem? (i := 945) (by decide +kernel), by decide +kernel⟩, Or.inl rfl, tyX9_ok, nmX9⟩
theorem fp_X9_80 : q_FP RX9 10 31 (.array .int) "<init>" := ⟨RX9, TX9, 36, rfl, by decide +kernel, Or.inr ⟨rfl, rfl, rfl⟩⟩
theorem fl_X9_83 : q_FL RX9 83 10 32 := ⟨RX9, "RunPicturesModel", TX9, 36, tyX9, rfl, by decide, ing_X9, List.mem_filter.mpr ⟨List.mem_of_getElem? (i := 946) (by decide +kernel), by decide +kernel⟩, Or.inl rfl, tyX9_ok, nmX9⟩
theorem fp_X9_83 : q_FP RX9 10 32 (.array .int) "<init>" := ⟨RX9, TX9, 36, rfl, by decide +kernel, Or.inr ⟨rfl, rfl, rfl⟩⟩
theorem fl_X9_86 : q_FL RX9 86 10 33 := ⟨RX9, "RunPicturesModel", TX9, 36, tyX9, rfl, by decide, ing_X9, List.mem_filter.mpr ⟨List.mem_of_getElem? (i := 947) (by decide +kernel), by decide +kernel⟩, Or.inl rfl, tyX9_ok, nmX9⟩
theorem fp_X9_86 : q_FP RX9 10 33 (.array .int) "<init>" := ⟨RX9, TX9, 36, rfl, by decide +kernel, Or.inr ⟨rfl, rfl, rfl⟩⟩
theorem fl_X9_89 : q_FL RX9 89 10 34 := ⟨RX9, "RunPicturesModel", TX9, 36, tyX9, rfl, by decide, ing_X9, List.mem_filter.mpr ⟨List.mem_of_getElem? (i := 948) (by decide +kernel), by decide +kernel⟩, Or.inl rfl, tyX9_ok, nmX9⟩
theorem fp_X9_89 : q_FP RX9 10 34 (.array .int) "<init>" := ⟨RX9, TX9, 36, rfl, by decide +kernel, Or.inr ⟨rfl, rfl, rfl⟩⟩
theorem fl_X9_92 : q_FL RX9 92 10 0 := ⟨RX9, "RunPicturesModel", TX9, 36, tyX9, rfl, by decide, ing_X9, List.mem_filter.mpr ⟨List.mem_of_getElem? (i := 914) (by decide +kernel), by decide +kernel⟩, Or.inl rfl, tyX9_ok, nmX9⟩
theorem fp_X9_92 {nm : String} : q_FP RX9 10 0 .int nm := ⟨RX9, TX9, 36, rfl, by decide +kernel, Or.inl rfl⟩
theorem ml_X9_96 : Cond.methodLink RX9 96 yX9_in ∈ q_gw := List.mem_filter.mpr ⟨List.mem_of_getElem? (i := 1028) (by decide +kernel), by decide +kernel⟩
theorem ml_X9_100 : Cond.methodLink RX9 100 yX9_isPuzzle ∈ q_gw := List.mem_filter.mpr ⟨List.mem_of_getElem? (i := 1035) (by decide +kernel), by decide +kernel⟩
theorem ml_X9_104 : Cond.methodLink RX9 104 yX9_linesOf ∈ q_gw := List.mem_filter.mpr ⟨List.mem_of_getElem? (i := 1056) (by decide +kernel), by decide +kernel⟩
theorem ml_X9_108 : Cond.methodLink RX9 108 yX9_sizeOf ∈ q_gw := List.mem_filter.mpr ⟨List.mem_of_getElem? (i := 1039) (by decide +kernel), by decide +kernel⟩
theorem ml_X9_111 : Cond.methodLink RX9 111 yX9_fresh ∈ q_gw := List.mem_filter.mpr ⟨List.mem_of_getElem? (i := 1031) (by decide +kernel), by decide +kernel⟩
theorem ml_X9_114 : Cond.methodLink RX9 114 yX9_full ∈ q_gw := List.mem_filter.mpr ⟨List.mem_of_getElem? (i := 1043) (by decide +kernel), by decide +kernel⟩
theorem ml_X9_117 : Cond.methodLink RX9 117 yX9_isLine ∈ q_gw := List.mem_filter.mpr ⟨List.mem_of_getElem? (i := 1052) (by decide +kernel), by decide +kernel⟩
theorem ml_X9_121 : Cond.methodLink RX9 121 yX9_runAt ∈ q_gw := List.mem_filter.mpr ⟨List.mem_of_getElem? (i := 1060) (by decide +kernel), by decide +kernel⟩
theorem ml_X9_125 : Cond.methodLink RX9 125 yX9_lineLength ∈ q_gw := List.mem_filter.mpr ⟨List.mem_of_getElem? (i := 1064) (by decide +kernel), by decide +kernel⟩
theorem ml_X9_128 : Cond.methodLink RX9 128 yX9_isOne ∈ q_gw := List.mem_filter.mpr ⟨List.mem_of_getElem? (i := 1072) (by decide +kernel), by decide +kernel⟩
theorem ml_X9_131 : Cond.methodLink RX9 131 yX9_isCell ∈ q_gw := List.mem_filter.mpr ⟨List.mem_of_getElem? (i := 1083) (by decide +kernel), by decide +kernel⟩
theorem fl_X9_134 : q_FL RX9 134 10 16 := ⟨RX9, "RunPicturesModel", TX9, 36, tyX9, rfl, by decide, ing_X9, List.mem_filter.mpr ⟨List.mem_of_getElem? (i := 930) (by decide +kernel), by decide +kernel⟩, Or.inl rfl, tyX9_ok, nmX9⟩
theorem fp_X9_134 {nm : String} : q_FP RX9 10 16 .int nm := ⟨RX9, TX9, 36, rfl, by decide +kernel, Or.inl rfl⟩
theorem ml_X9_137 : Cond.methodLink RX9 137 yX9_first ∈ q_gw := List.mem_filter.mpr ⟨List.mem_of_getElem? (i := 1119) (by decide +kernel), by decide +kernel⟩
theorem ml_X9_140 : Cond.methodLink RX9 140 yX9_cellOf ∈ q_gw := List.mem_filter.mpr ⟨List.mem_of_getElem? (i := 1111) (by decide +kernel), by decide +kernel⟩
theorem ml_X9_144 : Cond.methodLink RX9 144 yX9_lays ∈ q_gw := List.mem_filter.mpr ⟨List.mem_of_getElem? (i := 1115) (by decide +kernel), by decide +kernel⟩
theorem ml_X9_147 : Cond.methodLink RX9 147 yX9_fits ∈ q_gw := List.mem_filter.mpr ⟨List.mem_of_getElem? (i := 1123) (by decide +kernel), by decide +kernel⟩
theorem ml_X9_150 : Cond.methodLink RX9 150 yX9_lists ∈ q_gw := List.mem_filter.mpr ⟨List.mem_of_getElem? (i := 1107) (by decide +kernel), by decide +kernel⟩
theorem ml_X9_153 : Cond.methodLink RX9 153 yX9_steps ∈ q_gw := List.mem_filter.mpr ⟨List.mem_of_getElem? (i := 1103) (by decide +kernel), by decide +kernel⟩
theorem ml_X9_156 : Cond.methodLink RX9 156 yX9_loads ∈ q_gw := List.mem_filter.mpr ⟨List.mem_of_getElem? (i := 1099) (by decide +kernel), by decide +kernel⟩
theorem ml_X9_160 : Cond.methodLink RX9 160 yX9_stores ∈ q_gw := List.mem_filter.mpr ⟨List.mem_of_getElem? (i := 1127) (by decide +kernel), by decide +kernel⟩
theorem ml_X9_163 : Cond.methodLink RX9 163 yX9_settles ∈ q_gw := List.mem_filter.mpr ⟨List.mem_of_getElem? (i := 1139) (by decide +kernel), by decide +kernel⟩
theorem ml_X9_166 : Cond.methodLink RX9 166 yX9_sizeOfSet ∈ q_gw := List.mem_filter.mpr ⟨List.mem_of_getElem? (i := 1155) (by decide +kernel), by decide +kernel⟩
theorem ml_X9_169 : Cond.methodLink RX9 169 yX9_openCell ∈ q_gw := List.mem_filter.mpr ⟨List.mem_of_getElem? (i := 1151) (by decide +kernel), by decide +kernel⟩
theorem fl_X9_172 : q_FL RX9 172 10 17 := ⟨RX9, "RunPicturesModel", TX9, 36, tyX9, rfl, by decide, ing_X9, List.mem_filter.mpr ⟨List.mem_of_getElem? (i := 931) (by decide +kernel), by decide +kernel⟩, Or.inl rfl, tyX9_ok, nmX9⟩
theorem fp_X9_172 {nm : String} : q_FP RX9 10 17 .int nm := ⟨RX9, TX9, 36, rfl, by decide +kernel, Or.inl rfl⟩
theorem fl_X9_175 : q_FL RX9 175 10 18 := ⟨RX9, "RunPicturesModel", TX9, 36, tyX9, rfl, by decide, ing_X9, List.mem_filter.mpr ⟨List.mem_of_getElem? (i := 932) (by decide +kernel), by decide +kernel⟩, Or.inl rfl, tyX9_ok, nmX9⟩
theorem fp_X9_175 {nm : String} : q_FP RX9 10 18 .int nm := ⟨RX9, TX9, 36, rfl, by decide +kernel, Or.inl rfl⟩
theorem fl_X9_178 : q_FL RX9 178 10 19 := ⟨RX9, "RunPicturesModel", TX9, 36, tyX9, rfl, by decide, ing_X9, List.mem_filter.mpr ⟨List.mem_of_getElem? (i := 933) (by decide +kernel), by decide +kernel⟩, Or.inl rfl, tyX9_ok, nmX9⟩
theorem fp_X9_178 {nm : String} : q_FP RX9 10 19 .int nm := ⟨RX9, TX9, 36, rfl, by decide +kernel, Or.inl rfl⟩
theorem ml_X9_181 : Cond.methodLink RX9 181 yX9_opens ∈ q_gw := List.mem_filter.mpr ⟨List.mem_of_getElem? (i := 1147) (by decide +kernel), by decide +kernel⟩
theorem ml_X9_184 : Cond.methodLink RX9 184 yX9_copies ∈ q_gw := List.mem_filter.mpr ⟨List.mem_of_getElem? (i := 1158) (by decide +kernel), by decide +kernel⟩
theorem fl_X9_188 : q_FL RX9 188 10 23 := ⟨RX9, "RunPicturesModel", TX9, 36, tyX9, rfl, by decide, ing_X9, List.mem_filter.mpr ⟨List.mem_of_getElem? (i := 937) (by decide +kernel), by decide +kernel⟩, Or.inl rfl, tyX9_ok, nmX9⟩
theorem fp_X9_188 {nm : String} : q_FP RX9 10 23 .int nm := ⟨RX9, TX9, 36, rfl, by decide +kernel, Or.inl rfl⟩
theorem fl_X9_191 : q_FL RX9 191 10 24 := ⟨RX9, "RunPicturesModel", TX9, 36, tyX9, rfl, by decide, ing_X9, List.mem_filter.mpr ⟨List.mem_of_getElem? (i := 938) (by decide +kernel), by decide +kernel⟩, Or.inl rfl, tyX9_ok, nmX9⟩
theorem fp_X9_191 {nm : String} : q_FP RX9 10 24 .boolean nm := ⟨RX9, TX9, 36, rfl, by decide +kernel, Or.inl rfl⟩
theorem ml_X9_195 : Cond.methodLink RX9 195 yX9_passes ∈ q_gw := List.mem_filter.mpr ⟨List.mem_of_getElem? (i := 1174) (by decide +kernel), by decide +kernel⟩
theorem ml_X9_198 : Cond.methodLink RX9 198 yX9_puzzle ∈ q_gw := List.mem_filter.mpr ⟨List.mem_of_getElem? (i := 1190) (by decide +kernel), by decide +kernel⟩
theorem ml_X9_201 : Cond.methodLink RX9 201 yX9_painted ∈ q_gw := List.mem_filter.mpr ⟨List.mem_of_getElem? (i := 1191) (by decide +kernel), by decide +kernel⟩
theorem ml_X9_204 : Cond.methodLink RX9 204 yX9_source ∈ q_gw := List.mem_filter.mpr ⟨List.mem_of_getElem? (i := 1199) (by decide +kernel), by decide +kernel⟩
theorem ml_X9_207 : Cond.methodLink RX9 207 yX9_isRound ∈ q_gw := List.mem_filter.mpr ⟨List.mem_of_getElem? (i := 1203) (by decide +kernel), by decide +kernel⟩
theorem ml_X9_210 : Cond.methodLink RX9 210 yX9_isSame ∈ q_gw := List.mem_filter.mpr ⟨List.mem_of_getElem? (i := 1211) (by decide +kernel), by decide +kernel⟩
theorem fl_X9_213 : q_FL RX9 213 10 25 := ⟨RX9, "RunPicturesModel", TX9, 36, tyX9, rfl, by decide, ing_X9, List.mem_filter.mpr ⟨List.mem_of_getElem? (i := 939) (by decide +kernel), by decide +kernel⟩, Or.inl rfl, tyX9_ok, nmX9⟩
theorem fp_X9_213 {nm : String} : q_FP RX9 10 25 .int nm := ⟨RX9, TX9, 36, rfl, by decide +kernel, Or.inl rfl⟩
theorem ml_X9_216 : Cond.methodLink RX9 216 yX9_isGame ∈ q_gw := List.mem_filter.mpr ⟨List.mem_of_getElem? (i := 1223) (by decide +kernel), by decide +kernel⟩
theorem ml_X9_219 : Cond.methodLink RX9 219 yX9_marksAsSets ∈ q_gw := List.mem_filter.mpr ⟨List.mem_of_getElem? (i := 1243) (by decide +kernel), by decide +kernel⟩
theorem fl_X9_223 : q_FL RX9 223 10 35 := ⟨RX9, "RunPicturesModel", TX9, 36, tyX9, rfl, by decide, ing_X9, List.mem_filter.mpr ⟨List.mem_of_getElem? (i := 949) (by decide +kernel), by decide +kernel⟩, Or.inl rfl, tyX9_ok, nmX9⟩
theorem fp_X9_223 {nm : String} : q_FP RX9 10 35 .int nm := ⟨RX9, TX9, 36, rfl, by decide +kernel, Or.inl rfl⟩
theorem ml_X9_226 : Cond.methodLink RX9 226 yX9_sign ∈ q_gw := List.mem_filter.mpr ⟨List.mem_of_getElem? (i := 1255) (by decide +kernel), by decide +kernel⟩
theorem ml_J5_3 : Cond.methodLink RJ5 3 objectInit ∈ q_gw := List.mem_filter.mpr ⟨List.mem_of_getElem? (i := 86) (by decide +kernel), by decide +kernel⟩
theorem fl_J5_15 : q_FL RJ5 15 0 0 := ⟨RJ4, "java/lang/AbstractStringBuilder", TJ4, 4, tyJ4, rfl, by decide, ing_J4, List.mem_filter.mpr ⟨List.mem_of_getElem? (i := 96) (by decide +kernel), by decide +kernel⟩, Or.inl rfl, tyJ4_ok, nmJ4⟩
theorem fp_J5_15 {nm : String} : q_FP RJ5 0 0 (.array .byte) nm := ⟨RJ4, TJ4, 4, rfl, by decide +kernel, Or.inl rfl⟩
theorem fl_J5_22 : q_FL RJ5 22 0 1 := ⟨RJ4, "java/lang/AbstractStringBuilder", TJ4, 4, tyJ4, rfl, by decide, ing_J4, List.mem_filter.mpr ⟨List.mem_of_getElem? (i := 97) (by decide +kernel), by decide +kernel⟩, Or.inl rfl, tyJ4_ok, nmJ4⟩
theorem fp_J5_22 {nm : String} : q_FP RJ5 0 1 .byte nm := ⟨RJ4, TJ4, 4, rfl, by decide +kernel, Or.inl rfl⟩
theorem ml_J5_26 : Cond.methodLink RJ5 26 yJ2_newBytesFor_77867 ∈ q_gw := List.mem_filter.mpr ⟨List.mem_of_getElem? (i := 89) (by decide +kernel), by decide +kernel⟩
theorem cn_J5_39 : Cond.constant RJ5 39 2147483647 ∈ q_gw := List.mem_filter.mpr ⟨List.mem_of_getElem? (i := 759) (by decide +kernel), by decide +kernel⟩
theorem fl_J5_73 : q_FL RJ5 73 0 2 := ⟨RJ4, "java/lang/AbstractStringBuilder", TJ4, 4, tyJ4, rfl, by decide, ing_J4, List.mem_filter.mpr ⟨List.mem_of_getElem? (i := 98) (by decide +kernel), by decide +kernel⟩, Or.inl rfl, tyJ4_ok, nmJ4⟩
theorem fp_J5_73 {nm : String} : q_FP RJ5 0 2 .boolean nm := ⟨RJ4, TJ4, 4, rfl, by decide +kernel, Or.inl rfl⟩
theorem fl_J5_79 : q_FL RJ5 79 0 3 := ⟨RJ4, "java/lang/AbstractStringBuilder", TJ4, 4, tyJ4, rfl, by decide, ing_J4, List.mem_filter.mpr ⟨List.mem_of_getElem? (i := 99) (by decide +kernel), by decide +kernel⟩, Or.inl rfl, tyJ4_ok, nmJ4⟩
theorem fp_J5_79 {nm : String} : q_FP RJ5 0 3 .int nm := ⟨RJ4, TJ4, 4, rfl, by decide +kernel, Or.inl rfl⟩
theorem ml_J5_83 : Cond.methodLink RJ5 83 yJ5_isLatin1_aae02 ∈ q_gw := List.mem_filter.mpr ⟨List.mem_of_getElem? (i := 774) (by decide +kernel), by decide +kernel⟩
theorem ml_J5_100 : Cond.methodLink RJ5 100 yJ5_ensureCapacityInternal_d00df ∈ q_gw := List.mem_filter.mpr ⟨List.mem_of_getElem? (i := 741) (by decide +kernel), by decide +kernel⟩
theorem ml_J5_104 : Cond.methodLink RJ5 104 yJ5_newCapacity_0f7a4 ∈ q_gw := List.mem_filter.mpr ⟨List.mem_of_getElem? (i := 745) (by decide +kernel), by decide +kernel⟩
theorem ml_J5_108 : Cond.methodLink RJ5 108 yJ7_copyOf_9075b ∈ q_gw := List.mem_filter.mpr ⟨List.mem_of_getElem? (i := 760) (by decide +kernel), by decide +kernel⟩
theorem ml_J5_114 : Cond.methodLink RJ5 114 yJ8_newLength_cabcc ∈ q_gw := List.mem_filter.mpr ⟨List.mem_of_getElem? (i := 749) (by decide +kernel), by decide +kernel⟩
-- no link java/lang/AbstractStringBuilder 124
theorem ml_J5_125 : Cond.methodLink RJ5 125 yJ1_inflate_0e8fd ∈ q_gw := List.mem_filter.mpr ⟨List.mem_of_getElem? (i := 806) (by decide +kernel), by decide +kernel⟩
-- no link java/lang/AbstractStringBuilder 131
theorem ml_J5_133 : Cond.methodLink RJ5 133 yJ1_fillNull_b72d1 ∈ q_gw := List.mem_filter.mpr ⟨List.mem_of_getElem? (i := 779) (by decide +kernel), by decide +kernel⟩
theorem ml_J5_137 : Cond.methodLink RJ5 137 yJ2_fillNull_b72d1 ∈ q_gw := List.mem_filter.mpr ⟨List.mem_of_getElem? (i := 788) (by decide +kernel), by decide +kernel⟩
theorem ml_J5_138 : Cond.methodLink RJ5 138 yJ9_min_7cf53 ∈ q_gw := List.mem_filter.mpr ⟨List.mem_of_getElem? (i := 899) (by decide +kernel), by decide +kernel⟩
theorem ml_J5_144 : Cond.methodLink RJ5 144 yJ0_checkIndex_df160 ∈ q_gw := List.mem_filter.mpr ⟨List.mem_of_getElem? (i := 900) (by decide +kernel), by decide +kernel⟩
theorem ml_J5_148 : Cond.methodLink RJ5 148 yJ2_getChar_3b067 ∈ q_gw := List.mem_filter.mpr ⟨List.mem_of_getElem? (i := 901) (by decide +kernel), by decide +kernel⟩
theorem ml_J5_191 : Cond.methodLink RJ5 191 yJ1_canEncode_fc78d ∈ q_gw := List.mem_filter.mpr ⟨List.mem_of_getElem? (i := 799) (by decide +kernel), by decide +kernel⟩
theorem ml_J5_195 : Cond.methodLink RJ5 195 yJ5_inflate_da8c8 ∈ q_gw := List.mem_filter.mpr ⟨List.mem_of_getElem? (i := 802) (by decide +kernel), by decide +kernel⟩
theorem ml_J5_197 : Cond.methodLink RJ5 197 yJ2_putCharSB_b72d1 ∈ q_gw := List.mem_filter.mpr ⟨List.mem_of_getElem? (i := 835) (by decide +kernel), by decide +kernel⟩
theorem ml_J5_245 : Cond.methodLink RJ5 245 yJ6_stringSize_0f7a4 ∈ q_gw := List.mem_filter.mpr ⟨List.mem_of_getElem? (i := 854) (by decide +kernel), by decide +kernel⟩
theorem ml_J5_248 : Cond.methodLink RJ5 248 yJ6_getChars_ba4f3 ∈ q_gw := List.mem_filter.mpr ⟨List.mem_of_getElem? (i := 857) (by decide +kernel), by decide +kernel⟩
theorem ml_J5_251 : Cond.methodLink RJ5 251 yJ2_getChars_46870 ∈ q_gw := List.mem_filter.mpr ⟨List.mem_of_getElem? (i := 864) (by decide +kernel), by decide +kernel⟩
theorem ml_J0_1059 : Cond.methodLink RJ0 1059 yJ3_checkIndex_8e157 ∈ q_gw := List.mem_filter.mpr ⟨List.mem_of_getElem? (i := 844) (by decide +kernel), by decide +kernel⟩
theorem ml_J0_1062 : Cond.methodLink RJ0 1062 yJ3_checkFromToIndex_8c36e ∈ q_gw := List.mem_filter.mpr ⟨List.mem_of_getElem? (i := 873) (by decide +kernel), by decide +kernel⟩
theorem ml_J0_1065 : Cond.methodLink RJ0 1065 yJ3_checkFromIndexSize_8c36e ∈ q_gw := List.mem_filter.mpr ⟨List.mem_of_getElem? (i := 823) (by decide +kernel), by decide +kernel⟩
theorem ml_J4_1 : Cond.methodLink RJ4 1 yJ5_init_d00df ∈ q_gw := List.mem_filter.mpr ⟨List.mem_of_getElem? (i := 83) (by decide +kernel), by decide +kernel⟩
theorem ml_J4_50 : Cond.methodLink RJ4 50 yJ5_append_3fe6f ∈ q_gw := List.mem_filter.mpr ⟨List.mem_of_getElem? (i := 796) (by decide +kernel), by decide +kernel⟩
theorem ml_J4_53 : Cond.methodLink RJ4 53 yJ5_append_c97b9 ∈ q_gw := List.mem_filter.mpr ⟨List.mem_of_getElem? (i := 851) (by decide +kernel), by decide +kernel⟩
theorem ml_J4_329 : Cond.methodLink RJ4 329 yJ5_charAt_5068e ∈ q_gw := List.mem_filter.mpr ⟨List.mem_of_getElem? (i := 896) (by decide +kernel), by decide +kernel⟩
theorem ml_J4_333 : Cond.methodLink RJ4 333 yJ5_setLength_d00df ∈ q_gw := List.mem_filter.mpr ⟨List.mem_of_getElem? (i := 738) (by decide +kernel), by decide +kernel⟩
theorem ml_J4_343 : Cond.methodLink RJ4 343 yJ5_length_8abf5 ∈ q_gw := List.mem_filter.mpr ⟨List.mem_of_getElem? (i := 885) (by decide +kernel), by decide +kernel⟩
theorem ml_J1_236 : Cond.methodLink RJ1 236 yJ7_fill_eb02e ∈ q_gw := List.mem_filter.mpr ⟨List.mem_of_getElem? (i := 782) (by decide +kernel), by decide +kernel⟩
theorem ml_J1_240 : Cond.methodLink RJ1 240 yJ2_inflate_0e8fd ∈ q_gw := List.mem_filter.mpr ⟨List.mem_of_getElem? (i := 809) (by decide +kernel), by decide +kernel⟩
theorem ml_J2_11 : Cond.methodLink RJ2 11 yJ2_newBytesLength_0f7a4 ∈ q_gw := List.mem_filter.mpr ⟨List.mem_of_getElem? (i := 92) (by decide +kernel), by decide +kernel⟩
-- no link java/lang/StringUTF16 19
theorem cn_J2_20 : Cond.constant RJ2 20 1073741823 ∈ q_gw := List.mem_filter.mpr ⟨List.mem_of_getElem? (i := 95) (by decide +kernel), by decide +kernel⟩
-- no link java/lang/StringUTF16 25
-- no link java/lang/StringUTF16 28
-- no link java/lang/StringUTF16 32
-- no link java/lang/StringUTF16 37
-- no link java/lang/StringUTF16 41
theorem ml_J2_48 : Cond.methodLink RJ2 48 yJ2_length_9d52b ∈ q_gw := List.mem_filter.mpr ⟨List.mem_of_getElem? (i := 815) (by decide +kernel), by decide +kernel⟩
-- no link java/lang/StringUTF16 56
-- no link java/lang/StringUTF16 66
theorem ml_J2_67 : Cond.methodLink RJ2 67 yJ2_checkIndex_2214a ∈ q_gw := List.mem_filter.mpr ⟨List.mem_of_getElem? (i := 838) (by decide +kernel), by decide +kernel⟩
theorem ml_J2_96 : Cond.methodLink RJ2 96 yJ2_checkBoundsBeginEnd_d044e ∈ q_gw := List.mem_filter.mpr ⟨List.mem_of_getElem? (i := 867) (by decide +kernel), by decide +kernel⟩
theorem ml_J2_111 : Cond.methodLink RJ2 111 yJ2_putChar_b72d1 ∈ q_gw := List.mem_filter.mpr ⟨List.mem_of_getElem? (i := 826) (by decide +kernel), by decide +kernel⟩
theorem ml_J2_173 : Cond.methodLink RJ2 173 yJ2_checkBoundsOffCount_d044e ∈ q_gw := List.mem_filter.mpr ⟨List.mem_of_getElem? (i := 812) (by decide +kernel), by decide +kernel⟩
theorem ml_J2_241 : Cond.methodLink RJ2 241 yJ0_checkBoundsBeginEnd_23922 ∈ q_gw := List.mem_filter.mpr ⟨List.mem_of_getElem? (i := 870) (by decide +kernel), by decide +kernel⟩
theorem ml_J2_380 : Cond.methodLink RJ2 380 yJ7_fill_eb02e ∈ q_gw := List.mem_filter.mpr ⟨List.mem_of_getElem? (i := 791) (by decide +kernel), by decide +kernel⟩
theorem ml_J2_393 : Cond.methodLink RJ2 393 yJ2_getChars_ba4f3 ∈ q_gw := List.mem_filter.mpr ⟨List.mem_of_getElem? (i := 876) (by decide +kernel), by decide +kernel⟩
theorem ml_J2_414 : Cond.methodLink RJ2 414 yJ0_checkIndex_df160 ∈ q_gw := List.mem_filter.mpr ⟨List.mem_of_getElem? (i := 841) (by decide +kernel), by decide +kernel⟩
theorem ml_J2_419 : Cond.methodLink RJ2 419 yJ0_checkBoundsOffCount_cabcc ∈ q_gw := List.mem_filter.mpr ⟨List.mem_of_getElem? (i := 818) (by decide +kernel), by decide +kernel⟩
theorem ml_J7_13 : Cond.methodLink RJ7 13 yJ7_rangeCheck_23922 ∈ q_gw := List.mem_filter.mpr ⟨List.mem_of_getElem? (i := 785) (by decide +kernel), by decide +kernel⟩
-- no link java/util/Arrays 47
-- no link java/util/Arrays 50
-- no link java/util/Arrays 54
-- no link java/util/Arrays 61
-- no link java/util/Arrays 65
-- no link java/util/Arrays 70
theorem ml_J7_150 : Cond.methodLink RJ7 150 ⟨"java/lang/System", "arraycopy", "(Ljava/lang/Object;ILjava/lang/Object;II)V"⟩ ∈ q_gw := List.mem_filter.mpr ⟨List.mem_of_getElem? (i := 773) (by decide +kernel), by decide +kernel⟩
theorem ml_J7_304 : Cond.methodLink RJ7 304 yJ9_min_7cf53 ∈ q_gw := List.mem_filter.mpr ⟨List.mem_of_getElem? (i := 770) (by decide +kernel), by decide +kernel⟩
theorem ml_J7_310 : Cond.methodLink RJ7 310 ⟨"[B", "clone", "()Ljava/lang/Object;"⟩ ∈ q_gw := List.mem_filter.mpr ⟨List.mem_of_getElem? (i := 763) (by decide +kernel), by decide +kernel⟩
-- no link jdk/internal/util/ArraysSupport 91
-- no link jdk/internal/util/ArraysSupport 94
-- no link jdk/internal/util/ArraysSupport 98
-- no link jdk/internal/util/ArraysSupport 101
theorem ml_J8_194 : Cond.methodLink RJ8 194 yJ9_max_7cf53 ∈ q_gw := List.mem_filter.mpr ⟨List.mem_of_getElem? (i := 752) (by decide +kernel), by decide +kernel⟩
theorem cn_J8_200 : Cond.constant RJ8 200 2147483639 ∈ q_gw := List.mem_filter.mpr ⟨List.mem_of_getElem? (i := 755) (by decide +kernel), by decide +kernel⟩
theorem ml_J8_201 : Cond.methodLink RJ8 201 yJ8_hugeLength_7cf53 ∈ q_gw := List.mem_filter.mpr ⟨List.mem_of_getElem? (i := 756) (by decide +kernel), by decide +kernel⟩
-- no link jdk/internal/util/ArraysSupport 212
-- no link jdk/internal/util/Preconditions 95
-- no link jdk/internal/util/Preconditions 99
-- no link jdk/internal/util/Preconditions 103
