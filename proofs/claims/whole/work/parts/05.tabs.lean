/-! Tables of the small machine, by program: own classes, methods, links. -/
def jmC : List String := [RX0, RX1, RX2, RX3, RX4, RX5, RX6, RX7, RX8, RX9, RL, "java/lang/Integer", "java/lang/Math"]
def jm_own (o : Nat) : String := jmC.getD o ""
def jm_T (ci : Nat) : u_T := (vwCl.getD ci (RX0, TX0, 15)).2.1
def jm_Nf (ci : Nat) : Nat := (vwCl.getD ci (RX0, TX0, 15)).2.2
def jmTy : List (Nat → FieldType) := [tyX0, tyX1, tyX2, tyX3, tyX4, tyX5, tyX6, tyX7, tyX8, tyX9]
def jm_ty (ci k : Nat) : FieldType := jmTy.getD ci tyX0 k
abbrev jmQT : Type := MethodName × ByteArray × Nat × Option FieldType × Nat × Nat × Nat × Nat × Nat
def jmT_0 : List jmQT := [(yX7_init, cX7_init, 1, none, 7, 2, 4, 84, 0), (yX5_init, cX5_init, 3, none, 5, 2, 1, 20, 2), (yX1_init, cX1_init, 1, none, 1, 2, 3, 62, 0), (yX1_clear, cX1_clear, 1, none, 1, 0, 2, 42, 0), (yX5_cut, cX5_cut, 2, none, 5, 0, 1, 21, 1), (yJ9_min_7cf53, cJ9_min_7cf53, 2, (some .int), 12, 1, 0, 0, 2), (yX3_init, cX3_init, 3, none, 3, 2, 2, 42, 2), (yX4_init, cX4_init, 1, none, 4, 2, 2, 42, 0), (yX0_init, cX0_init, 2, none, 0, 2, 3, 62, 1), (yX6_init, cX6_init, 3, none, 6, 2, 3, 62, 1)]
def jmT_1 : List jmQT := [(yX2_init, cX2_init, 1, none, 2, 2, 2, 42, 0), (yX7_feed, cX7_feed, 6, (some .int), 7, 0, 4, 90, 5), (yX5_count, cX5_count, 1, (some .int), 5, 0, 0, 0, 0), (yX7_feedOne, cX7_feedOne, 3, none, 7, 0, 3, 68, 1), (yX5_push, cX5_push, 2, none, 5, 0, 2, 47, 1), (yX5_insert, cX5_insert, 3, none, 5, 0, 1, 25, 1), (yX5_shift, cX5_shift, 3, none, 5, 0, 0, 0, 2), (yX5_put, cX5_put, 6, none, 5, 0, 0, 0, 3), (yX7_hall, cX7_hall, 3, (some .int), 7, 0, 9, 206, 1), (yX7_refuse, cX7_refuse, 2, (some .int), 7, 0, 0, 0, 1)]
def jmT_2 : List jmQT := [(yX3_read, cX3_read, 4, (some .boolean), 3, 0, 8, 183, 1), (yX3_begin, cX3_begin, 2, none, 3, 0, 3, 62, 1), (yX3_goOn, cX3_goOn, 1, none, 3, 0, 1, 24, 0), (yX5_get, cX5_get, 5, (some .int), 5, 0, 0, 0, 2), (yX3_sortOf, cX3_sortOf, 2, (some .int), 3, 0, 0, 0, 1), (yX3_lineComing, cX3_lineComing, 3, (some .int), 3, 0, 5, 116, 0), (yX3_oneOf, cX3_oneOf, 7, (some .int), 3, 0, 4, 90, 1), (yX3_lineFault, cX3_lineFault, 3, (some .int), 3, 0, 2, 40, 1), (yX1_hasRows, cX1_hasRows, 1, (some .boolean), 1, 0, 1, 20, 0), (yX3_lackIf, cX3_lackIf, 2, (some .int), 3, 0, 0, 0, 1)]
def jmT_3 : List jmQT := [(yX3_fail, cX3_fail, 3, (some .boolean), 3, 0, 0, 0, 2), (yX3_readHall, cX3_readHall, 3, (some .boolean), 3, 0, 6, 138, 0), (yX3_expectOne, cX3_expectOne, 3, (some .boolean), 3, 0, 5, 116, 1), (yX3_expectWhole, cX3_expectWhole, 3, (some .boolean), 3, 0, 2, 44, 2), (yX3_readRow, cX3_readRow, 3, (some .boolean), 3, 0, 3, 68, 0), (yX3_readBand, cX3_readBand, 2, (some .boolean), 3, 0, 6, 138, 0), (yX3_expectCell, cX3_expectCell, 2, (some .boolean), 3, 0, 3, 66, 0), (yX3_expect, cX3_expect, 2, (some .boolean), 3, 0, 2, 44, 1), (yX1_cellAt, cX1_cellAt, 3, (some .int), 1, 0, 0, 0, 2), (yX3_readHome, cX3_readHome, 1, (some .boolean), 3, 0, 4, 87, 0)]
def jmT_4 : List jmQT := [(yX3_readSteps, cX3_readSteps, 2, (some .boolean), 3, 0, 7, 160, 0), (yX3_readListed, cX3_readListed, 3, (some .boolean), 3, 0, 6, 138, 1), (yX3_readLeads, cX3_readLeads, 2, (some .boolean), 3, 0, 7, 160, 0), (yX3_readTable, cX3_readTable, 3, (some .boolean), 3, 0, 7, 161, 0), (yX3_readName, cX3_readName, 2, (some .boolean), 3, 0, 5, 116, 0), (yX3_sameName, cX3_sameName, 4, (some .boolean), 3, 0, 1, 24, 2), (yX3_readPerson, cX3_readPerson, 4, (some .boolean), 3, 0, 6, 138, 3), (yX3_readDancer, cX3_readDancer, 1, (some .boolean), 3, 0, 7, 161, 0), (yX3_readSnake, cX3_readSnake, 5, (some .boolean), 3, 0, 6, 138, 0), (yX1_isOpen, cX1_isOpen, 2, (some .boolean), 1, 0, 1, 24, 1)]
def jmT_5 : List jmQT := [(yX1_beside, cX1_beside, 5, (some .int), 1, 0, 1, 22, 2), (yX3_readFrame, cX3_readFrame, 4, (some .boolean), 3, 0, 6, 138, 0), (yX3_isWhole, cX3_isWhole, 2, (some .boolean), 3, 0, 1, 22, 0), (yX1_copy, cX1_copy, 2, none, 1, 0, 2, 61, 1), (yX5_copy, cX5_copy, 3, none, 5, 0, 1, 39, 1), (yX1_layOut, cX1_layOut, 4, none, 1, 0, 3, 74, 0), (yX5_blank, cX5_blank, 4, none, 5, 0, 1, 21, 2), (yX1_spread, cX1_spread, 5, none, 1, 0, 2, 50, 2), (yX1_reach, cX1_reach, 6, none, 1, 0, 1, 25, 3), (yX4_enter, cX4_enter, 6, none, 4, 0, 3, 68, 1)]
def jmT_6 : List jmQT := [(yX4_copy, cX4_copy, 2, none, 4, 0, 2, 61, 1), (yX6_clear, cX6_clear, 1, none, 6, 0, 0, 0, 0), (yX7_answer, cX7_answer, 2, (some .int), 7, 0, 0, 0, 1), (yX7_fault, cX7_fault, 1, (some .int), 7, 0, 0, 0, 0), (yX7_where, cX7_where, 1, (some .int), 7, 0, 0, 0, 0), (yX7_cell, cX7_cell, 4, (some .int), 7, 0, 2, 44, 2), (yX7_cellAt, cX7_cellAt, 3, (some .int), 7, 0, 1, 22, 2), (yX7_many, cX7_many, 1, (some .int), 7, 0, 1, 21, 0), (yX7_dancer, cX7_dancer, 3, (some .int), 7, 0, 2, 45, 2), (yX7_isDancer, cX7_isDancer, 2, (some .boolean), 7, 0, 1, 20, 1)]
def jmT_7 : List jmQT := [(yX4_cellOf, cX4_cellOf, 2, (some .int), 4, 0, 1, 24, 1), (yX4_gapOf, cX4_gapOf, 2, (some .int), 4, 0, 1, 24, 1), (yX7_stands, cX7_stands, 5, (some .int), 7, 0, 2, 45, 2), (yX7_way, cX7_way, 3, (some .int), 7, 0, 1, 24, 1), (yX7_length, cX7_length, 1, (some .int), 7, 0, 1, 21, 0), (yX7_corners, cX7_corners, 4, (some .int), 7, 0, 2, 46, 0), (yX4_turnsAt, cX4_turnsAt, 3, (some .boolean), 4, 0, 1, 24, 1), (yX7_sits, cX7_sits, 2, (some .int), 7, 0, 2, 41, 1), (yX7_isTable, cX7_isTable, 2, (some .boolean), 7, 0, 1, 20, 1), (yX7_over, cX7_over, 1, (some .int), 7, 0, 1, 21, 0)]
def jmT_8 : List jmQT := [(yX7_manyIn, cX7_manyIn, 2, (some .int), 7, 0, 6, 141, 1), (yX7_foresee, cX7_foresee, 2, (some .boolean), 7, 0, 5, 120, 1), (yX0_begin, cX0_begin, 2, none, 0, 0, 3, 82, 1), (yX0_run, cX0_run, 4, none, 0, 0, 4, 97, 1), (yX0_stepsDue, cX0_stepsDue, 1, (some .int), 0, 0, 2, 46, 0), (yX1_pace, cX1_pace, 3, (some .int), 1, 0, 1, 24, 1), (yX0_goAhead, cX0_goAhead, 5, (some .boolean), 0, 0, 3, 71, 1), (yX4_shutCells, cX4_shutCells, 4, none, 4, 0, 2, 45, 2), (yX0_lookAround, cX0_lookAround, 7, none, 0, 0, 2, 45, 0), (yX0_sidePicked, cX0_sidePicked, 1, (some .int), 0, 0, 2, 49, 0)]
def jmT_9 : List jmQT := [(yX0_sideByLot, cX0_sideByLot, 4, (some .int), 0, 0, 1, 24, 0), (yX4_draw, cX4_draw, 1, (some .int), 4, 0, 0, 0, 0), (yX0_sideHome, cX0_sideHome, 6, (some .int), 0, 0, 1, 24, 0), (yX0_sideTold, cX0_sideTold, 1, (some .int), 0, 0, 1, 24, 0), (yX0_sideByHand, cX0_sideByHand, 5, (some .int), 0, 0, 1, 24, 0), (yX0_tally, cX0_tally, 4, none, 0, 0, 1, 25, 2), (yX0_comeAfter, cX0_comeAfter, 8, none, 0, 0, 3, 68, 0), (yX4_costFrom, cX4_costFrom, 3, (some .int), 4, 0, 2, 46, 2), (yX0_tear, cX0_tear, 3, none, 0, 0, 2, 45, 0), (yX0_leaveOnStairs, cX0_leaveOnStairs, 3, none, 0, 0, 2, 45, 0)]
def jmT_10 : List jmQT := [(yX5_drop, cX5_drop, 3, none, 5, 0, 1, 22, 1), (yX0_askAround, cX0_askAround, 4, none, 0, 0, 3, 74, 0), (yX0_askerAt, cX0_askerAt, 5, (some .int), 0, 0, 2, 45, 1), (yX4_join, cX4_join, 8, none, 4, 0, 2, 47, 3), (yX7_at, cX7_at, 4, (some .int), 7, 0, 6, 141, 2), (yX4_find, cX4_find, 3, (some .int), 4, 0, 1, 24, 1), (yX7_ran, cX7_ran, 4, (some .int), 7, 0, 6, 141, 2), (yX7_runner, cX7_runner, 4, (some .int), 7, 0, 6, 141, 1), (yX0_wentOf, cX0_wentOf, 2, (some .int), 0, 0, 1, 24, 1), (yX7_widest, cX7_widest, 4, (some .int), 7, 0, 6, 141, 1)]
def jmT_11 : List jmQT := [(yJ9_max_7cf53, cJ9_max_7cf53, 2, (some .int), 12, 1, 0, 0, 2), (yX7_torn, cX7_torn, 2, (some .int), 7, 0, 6, 141, 1), (yX7_tornBy, cX7_tornBy, 2, (some .int), 7, 0, 6, 141, 1), (yX7_joined, cX7_joined, 2, (some .int), 7, 0, 6, 141, 1), (yX7_ring, cX7_ring, 2, (some .int), 7, 0, 6, 141, 1), (yX7_jolt, cX7_jolt, 3, (some .int), 7, 0, 6, 144, 2), (yX0_joltFor, cX0_joltFor, 5, none, 0, 0, 5, 120, 3), (yX0_measure, cX0_measure, 3, none, 0, 0, 2, 45, 0), (yX7_joltOf, cX7_joltOf, 3, (some .int), 7, 0, 2, 46, 1), (yX7_grows, cX7_grows, 5, (some .int), 7, 0, 6, 144, 2)]
def jmT_12 : List jmQT := [(yJ6_compare_7cf53, cJ6_compare_7cf53, 2, (some .int), 11, 1, 0, 0, 2), (yX7_holds, cX7_holds, 2, (some .int), 7, 0, 5, 120, 0), (yX7_order, cX7_order, 1, (some .int), 7, 0, 6, 143, 0), (yX7_bestOrder, cX7_bestOrder, 4, (some .int), 7, 0, 5, 120, 0), (yX2_begin, cX2_begin, 3, none, 2, 0, 3, 68, 1), (yX4_takeWho, cX4_takeWho, 4, none, 4, 0, 1, 25, 3), (yX2_next, cX2_next, 6, (some .boolean), 2, 0, 2, 48, 0), (yX2_swap, cX2_swap, 4, none, 2, 0, 1, 25, 2), (yX7_orderAt, cX7_orderAt, 2, (some .int), 7, 0, 6, 143, 1), (yX7_leader, cX7_leader, 5, (some .int), 7, 0, 6, 141, 1)]
def jmT_13 : List jmQT := [(yX7_plan, cX7_plan, 3, (some .int), 7, 0, 6, 151, 1), (yX7_bestPlan, cX7_bestPlan, 5, (some .int), 7, 0, 5, 127, 1), (yX0_beginPlan, cX0_beginPlan, 5, none, 0, 0, 4, 103, 3), (yX0_sideOf, cX0_sideOf, 4, (some .int), 0, 0, 0, 0, 3), (yX7_planAt, cX7_planAt, 4, (some .int), 7, 0, 6, 151, 2), (yX7_mean, cX7_mean, 6, (some .int), 7, 0, 5, 120, 3), (yX7_late, cX7_late, 5, (some .int), 7, 0, 2, 44, 2), (yX1_delay, cX1_delay, 5, (some .int), 1, 0, 1, 20, 2), (yJ9_abs_0f7a4, cJ9_abs_0f7a4, 1, (some .int), 12, 1, 0, 0, 1), (yX7_kicks, cX7_kicks, 1, (some .int), 7, 0, 2, 46, 0)]
def jmT_14 : List jmQT := [(yX7_inTime, cX7_inTime, 1, (some .int), 7, 0, 3, 69, 0), (yX7_inTimeFrom, cX7_inTimeFrom, 5, (some .int), 7, 0, 2, 45, 1), (yX7_bestBand, cX7_bestBand, 5, (some .int), 7, 0, 3, 69, 0), (yX7_out, cX7_out, 2, (some .int), 7, 0, 3, 74, 0), (yX7_fits, cX7_fits, 3, (some .int), 7, 0, 6, 143, 0), (yX0_shows, cX0_shows, 4, (some .boolean), 0, 0, 5, 120, 1), (yX0_shown, cX0_shown, 3, (some .boolean), 0, 0, 2, 46, 1), (yX7_dance, cX7_dance, 2, (some .int), 7, 0, 5, 120, 1), (yX6_push, cX6_push, 3, none, 6, 0, 3, 82, 1), (yX6_isFull, cX6_isFull, 1, (some .boolean), 6, 0, 0, 0, 0)]
def jmT_15 : List jmQT := [(yX6_rowAt, cX6_rowAt, 3, (some (.object "SnakeRow$Row")), 6, 0, 1, 22, 1), (yJ9_floorMod_7cf53, cJ9_floorMod_7cf53, 3, (some .int), 12, 1, 0, 0, 2), (yX7_lead, cX7_lead, 2, (some .boolean), 7, 0, 4, 104, 1), (yX7_deny, cX7_deny, 2, (some .boolean), 7, 0, 0, 0, 1), (yX7_grant, cX7_grant, 1, (some .boolean), 7, 0, 0, 0, 0), (yX7_change, cX7_change, 3, (some .boolean), 7, 0, 4, 104, 2), (yX7_letGo, cX7_letGo, 2, (some .boolean), 7, 0, 4, 104, 1), (yX7_band, cX7_band, 4, (some .boolean), 7, 0, 4, 104, 2), (yX7_seed, cX7_seed, 2, (some .boolean), 7, 0, 1, 21, 1), (yX7_undo, cX7_undo, 1, (some .boolean), 7, 0, 5, 126, 0)]
def jmT_16 : List jmQT := [(yX6_pop, cX6_pop, 2, (some .boolean), 6, 0, 4, 105, 1), (yX6_show, cX6_show, 4, (some .boolean), 6, 0, 3, 82, 2), (yX7_mark, cX7_mark, 1, (some .int), 7, 0, 4, 104, 0), (yX6_count, cX6_count, 1, (some .int), 6, 0, 0, 0, 0), (yX7_back, cX7_back, 2, (some .boolean), 7, 0, 4, 105, 1), (yX7_table, cX7_table, 4, (some .int), 7, 0, 2, 41, 2), (yX7_steps, cX7_steps, 3, (some .int), 7, 0, 1, 24, 1), (yX7_size, cX7_size, 2, (some .int), 7, 0, 2, 41, 1), (yX7_sizeTold, cX7_sizeTold, 2, (some .int), 7, 0, 1, 20, 1), (yX7_sizeNow, cX7_sizeNow, 2, (some .int), 7, 0, 1, 20, 1)]
def jmT_17 : List jmQT := [(yX7_trouble, cX7_trouble, 1, (some .int), 7, 0, 0, 0, 0), (yX7_led, cX7_led, 4, (some .int), 7, 0, 2, 45, 1), (yX9_init, cX9_init, 1, none, 9, 2, 1, 20, 0), (yX9_thrown, cX9_thrown, 1, (some .int), 9, 0, 0, 0, 0), (yX9_feed, cX9_feed, 8, (some .int), 9, 0, 0, 0, 5), (yX9_hall, cX9_hall, 2, (some .int), 9, 0, 11, 248, 1), (yX9_refused, cX9_refused, 2, (some .int), 9, 0, 0, 0, 1), (yX8_init, cX8_init, 1, none, 8, 2, 1, 20, 0), (yX9_goesOn, cX9_goesOn, 3, none, 9, 0, 1, 21, 0), (yX9_byteAt, cX9_byteAt, 2, (some .int), 9, 0, 0, 0, 1)]
def jmT_18 : List jmQT := [(yX9_isLetter, cX9_isLetter, 1, (some .boolean), 9, 1, 0, 0, 1), (yX9_isDigit, cX9_isDigit, 1, (some .boolean), 9, 1, 0, 0, 1), (yX9_readAll, cX9_readAll, 2, none, 9, 0, 10, 227, 0), (yX9_readLine, cX9_readLine, 1, none, 9, 0, 9, 207, 0), (yX9_isWord, cX9_isWord, 2, (some .boolean), 9, 0, 5, 113, 1), (yX9_wordOf, cX9_wordOf, 4, (some .long), 9, 1, 4, 90, 1), (yX9_readHall, cX9_readHall, 5, none, 9, 0, 8, 178, 0), (yX9_flaw, cX9_flaw, 2, none, 9, 0, 0, 0, 1), (yX9_readPart, cX9_readPart, 4, (some .int), 9, 0, 7, 155, 3), (yX9_needs, cX9_needs, 2, none, 9, 0, 6, 134, 1)]
def jmT_19 : List jmQT := [(yX9_readWhole, cX9_readWhole, 4, (some .int), 9, 0, 2, 44, 2), (yX9_bounded, cX9_bounded, 3, (some .int), 9, 0, 1, 22, 2), (yX9_in, cX9_in, 3, (some .boolean), 9, 1, 0, 0, 3), (yX9_readRow, cX9_readRow, 3, none, 9, 0, 3, 66, 0), (yX9_begins, cX9_begins, 4, none, 9, 0, 2, 43, 3), (yX9_readBand, cX9_readBand, 3, none, 9, 0, 8, 178, 0), (yX9_knownCell, cX9_knownCell, 2, (some .int), 9, 0, 3, 67, 0), (yX9_needsSign, cX9_needsSign, 2, none, 9, 0, 2, 43, 1), (yX9_readHome, cX9_readHome, 2, none, 9, 0, 4, 88, 0), (yX9_readSteps, cX9_readSteps, 3, none, 9, 0, 3, 66, 0)]
def jmT_20 : List jmQT := [(yX9_eatsSign, cX9_eatsSign, 3, (some .boolean), 9, 0, 2, 43, 1), (yX9_readLeads, cX9_readLeads, 4, none, 9, 0, 7, 155, 0), (yX9_readSide, cX9_readSide, 2, (some .int), 9, 0, 6, 134, 0), (yX9_readTable, cX9_readTable, 10, none, 9, 0, 8, 178, 0), (yX9_isName, cX9_isName, 1, (some .boolean), 9, 0, 6, 134, 0), (yX9_readKind, cX9_readKind, 2, (some .int), 9, 0, 6, 134, 0), (yX9_readDancer, cX9_readDancer, 4, none, 9, 0, 8, 178, 0), (yX9_readSnake, cX9_readSnake, 5, none, 9, 0, 7, 155, 0), (yX8_isOpen, cX8_isOpen, 2, (some .boolean), 8, 0, 0, 0, 1), (yX8_to, cX8_to, 4, (some .int), 8, 0, 1, 20, 2)]
def jmT_21 : List jmQT := [(yX8_cells, cX8_cells, 1, (some .int), 8, 0, 0, 0, 0), (yX9_readFrame, cX9_readFrame, 4, none, 9, 0, 7, 155, 0), (yX9_startsFrom, cX9_startsFrom, 5, none, 9, 0, 2, 43, 1), (yX9_good, cX9_good, 2, (some .int), 9, 0, 0, 0, 1), (yX9_fault, cX9_fault, 1, (some .int), 9, 0, 0, 0, 0), (yX9_where, cX9_where, 1, (some .int), 9, 0, 0, 0, 0), (yX9_cell, cX9_cell, 3, (some .int), 9, 0, 2, 44, 2), (yX9_isCell, cX9_isCell, 3, (some .boolean), 9, 0, 1, 22, 2), (yX9_many, cX9_many, 1, (some .int), 9, 0, 1, 21, 0), (yX9_dancer, cX9_dancer, 3, (some .int), 9, 0, 1, 22, 2)]
def jmT_22 : List jmQT := [(yX9_isThere, cX9_isThere, 2, (some .boolean), 9, 0, 0, 0, 1), (yX9_cellOf, cX9_cellOf, 2, (some .int), 9, 1, 0, 0, 2), (yX9_gapOf, cX9_gapOf, 2, (some .int), 9, 1, 0, 0, 2), (yX9_stands, cX9_stands, 4, (some .int), 9, 0, 2, 44, 2), (yX9_way, cX9_way, 2, (some .int), 9, 0, 1, 21, 1), (yX9_length, cX9_length, 1, (some .int), 9, 0, 1, 21, 0), (yX9_corners, cX9_corners, 3, (some .int), 9, 0, 4, 88, 0), (yX9_turnsAt, cX9_turnsAt, 3, (some .boolean), 9, 0, 3, 66, 2), (yX9_sideFrom, cX9_sideFrom, 4, (some .int), 9, 0, 2, 43, 2), (yX9_sits, cX9_sits, 2, (some .int), 9, 0, 1, 21, 1)]
def jmT_23 : List jmQT := [(yX9_isTable, cX9_isTable, 2, (some .boolean), 9, 0, 0, 0, 1), (yX9_over, cX9_over, 1, (some .int), 9, 0, 1, 21, 0), (yX9_overBy, cX9_overBy, 1, (some .int), 9, 1, 0, 0, 1), (yX9_manyIn, cX9_manyIn, 3, (some .int), 9, 0, 8, 190, 1), (yX9_refusesIn, cX9_refusesIn, 2, (some .int), 9, 0, 1, 22, 1), (yX9_dances, cX9_dances, 3, none, 9, 0, 7, 168, 1), (yX9_copies, cX9_copies, 2, none, 9, 0, 0, 0, 0), (yX9_plainly, cX9_plainly, 2, none, 9, 0, 0, 0, 0), (yX9_beats, cX9_beats, 5, none, 9, 0, 6, 144, 2), (yX9_frontGoes, cX9_frontGoes, 7, none, 9, 0, 5, 118, 2)]
def jmT_24 : List jmQT := [(yX9_leads, cX9_leads, 3, (some .int), 9, 0, 4, 96, 1), (yX9_firstSide, cX9_firstSide, 6, (some .int), 9, 0, 3, 67, 5), (yX9_canGo, cX9_canGo, 4, (some .boolean), 9, 0, 2, 44, 2), (yX9_isStoodOn, cX9_isStoodOn, 4, (some .boolean), 9, 1, 1, 21, 3), (yX9_closes, cX9_closes, 2, (some .boolean), 9, 1, 1, 21, 2), (yX9_sideByLot, cX9_sideByLot, 5, (some .int), 9, 0, 3, 67, 1), (yX9_drawn, cX9_drawn, 1, (some .int), 9, 1, 0, 0, 1), (yX9_sideHome, cX9_sideHome, 7, (some .int), 9, 0, 3, 70, 1), (yX9_laysFar, cX9_laysFar, 7, none, 9, 0, 2, 44, 2), (yX9_sideTold, cX9_sideTold, 3, (some .int), 9, 0, 3, 67, 1)]
def jmT_25 : List jmQT := [(yX9_follows, cX9_follows, 5, none, 9, 0, 4, 88, 2), (yX9_tears, cX9_tears, 3, (some .int), 9, 0, 1, 21, 1), (yX9_auntsLeave, cX9_auntsLeave, 3, none, 9, 0, 2, 44, 1), (yX9_outs, cX9_outs, 3, none, 9, 1, 1, 22, 2), (yX9_moves, cX9_moves, 3, none, 9, 1, 0, 0, 3), (yX9_asks, cX9_asks, 9, none, 9, 0, 3, 66, 2), (yX8_isBeside, cX8_isBeside, 4, (some .boolean), 8, 0, 2, 43, 2), (yX9_at, cX9_at, 5, (some .int), 9, 0, 8, 190, 2), (yX9_indexOf, cX9_indexOf, 3, (some .int), 9, 1, 0, 0, 2), (yX9_ran, cX9_ran, 4, (some .int), 9, 0, 8, 190, 2)]
def jmT_26 : List jmQT := [(yX9_runner, cX9_runner, 5, (some .int), 9, 0, 8, 190, 1), (yX9_widest, cX9_widest, 5, (some .int), 9, 0, 8, 190, 1), (yX9_torn, cX9_torn, 3, (some .int), 9, 0, 8, 190, 1), (yX9_tornIn, cX9_tornIn, 3, (some .int), 9, 0, 7, 168, 1), (yX9_tornBy, cX9_tornBy, 3, (some .int), 9, 0, 8, 190, 1), (yX9_joined, cX9_joined, 3, (some .int), 9, 0, 8, 190, 1), (yX9_ring, cX9_ring, 4, (some .int), 9, 0, 7, 168, 1), (yX9_jolt, cX9_jolt, 3, (some .int), 9, 0, 8, 191, 2), (yX9_jolts, cX9_jolts, 4, none, 9, 0, 7, 168, 1), (yX9_joltOf, cX9_joltOf, 2, (some .int), 9, 0, 1, 22, 1)]
def jmT_27 : List jmQT := [(yX9_grows, cX9_grows, 5, (some .int), 9, 0, 8, 191, 2), (yX9_holds, cX9_holds, 3, (some .int), 9, 0, 7, 168, 0), (yX9_order, cX9_order, 1, (some .int), 9, 0, 8, 191, 0), (yX9_findsOrder, cX9_findsOrder, 4, none, 9, 0, 7, 168, 0), (yX9_turns, cX9_turns, 6, (some .boolean), 9, 0, 1, 23, 1), (yX9_swaps, cX9_swaps, 4, none, 9, 0, 0, 0, 2), (yX9_orderAt, cX9_orderAt, 2, (some .int), 9, 0, 8, 191, 1), (yX9_leader, cX9_leader, 7, (some .int), 9, 0, 7, 168, 1), (yX9_plan, cX9_plan, 3, (some .int), 9, 0, 8, 191, 1), (yX9_refusesPlan, cX9_refusesPlan, 2, (some .int), 9, 0, 1, 22, 1)]
def jmT_28 : List jmQT := [(yX9_plans, cX9_plans, 4, none, 9, 0, 7, 168, 1), (yX9_planAt, cX9_planAt, 4, (some .int), 9, 0, 8, 191, 2), (yX9_mean, cX9_mean, 7, (some .int), 9, 0, 7, 168, 3), (yX9_late, cX9_late, 3, (some .int), 9, 0, 2, 46, 2), (yX9_lateAt, cX9_lateAt, 3, (some .int), 9, 0, 1, 24, 2), (yX8_far, cX8_far, 5, (some .int), 8, 0, 0, 0, 2), (yX9_kicks, cX9_kicks, 1, (some .int), 9, 0, 1, 21, 0), (yX9_inTime, cX9_inTime, 2, (some .int), 9, 0, 3, 69, 0), (yX9_refusesBand, cX9_refusesBand, 1, (some .int), 9, 0, 0, 0, 0), (yX9_inTimeBy, cX9_inTimeBy, 4, (some .int), 9, 0, 2, 46, 1)]
def jmT_29 : List jmQT := [(yX9_bestBand, cX9_bestBand, 4, (some .int), 9, 0, 3, 69, 0), (yX9_out, cX9_out, 1, (some .int), 9, 0, 3, 70, 0), (yX9_fits, cX9_fits, 3, (some .int), 9, 0, 8, 193, 0), (yX9_fitsBy, cX9_fitsBy, 6, (some .boolean), 9, 0, 7, 168, 1), (yX9_dance, cX9_dance, 3, (some .int), 9, 0, 7, 168, 1), (yX9_keeps, cX9_keeps, 2, none, 9, 0, 0, 0, 0), (yX9_lead, cX9_lead, 2, (some .boolean), 9, 0, 2, 42, 1), (yX9_denied, cX9_denied, 2, (some .boolean), 9, 0, 1, 21, 1), (yX9_granted, cX9_granted, 1, (some .boolean), 9, 0, 1, 21, 0), (yX9_change, cX9_change, 3, (some .boolean), 9, 0, 2, 42, 2)]
def jmT_30 : List jmQT := [(yX9_swapsIn, cX9_swapsIn, 5, none, 9, 0, 0, 0, 3), (yX9_letGo, cX9_letGo, 2, (some .boolean), 9, 0, 2, 44, 1), (yX9_band, cX9_band, 3, (some .boolean), 9, 0, 2, 44, 2), (yX9_seed, cX9_seed, 2, (some .boolean), 9, 0, 2, 42, 1), (yX9_undo, cX9_undo, 2, (some .boolean), 9, 0, 2, 42, 0), (yX9_mark, cX9_mark, 2, (some .int), 9, 0, 1, 21, 0), (yX9_back, cX9_back, 3, (some .boolean), 9, 0, 2, 42, 1), (yX9_table, cX9_table, 3, (some .int), 9, 0, 1, 22, 2), (yX9_steps, cX9_steps, 2, (some .int), 9, 0, 1, 21, 1), (yX9_led, cX9_led, 4, (some .int), 9, 0, 1, 21, 1)]
def jmT_31 : List jmQT := [(yX9_size, cX9_size, 2, (some .int), 9, 0, 1, 22, 1), (yX9_trouble, cX9_trouble, 1, (some .int), 9, 0, 0, 0, 0), (x, code, 7, some .boolean, 10, 3, 12, 269, 1)]
def jmT : List jmQT := jmT_0 ++ (jmT_1 ++ (jmT_2 ++ (jmT_3 ++ (jmT_4 ++ (jmT_5 ++ (jmT_6 ++ (jmT_7 ++ (jmT_8 ++ (jmT_9 ++ (jmT_10 ++ (jmT_11 ++ (jmT_12 ++ (jmT_13 ++ (jmT_14 ++ (jmT_15 ++ (jmT_16 ++ (jmT_17 ++ (jmT_18 ++ (jmT_19 ++ (jmT_20 ++ (jmT_21 ++ (jmT_22 ++ (jmT_23 ++ (jmT_24 ++ (jmT_25 ++ (jmT_26 ++ (jmT_27 ++ (jmT_28 ++ (jmT_29 ++ (jmT_30 ++ (jmT_31)))))))))))))))))))))))))))))))
def jmTp_0 : List ((Nat × Nat) × (Nat × Nat) × (Nat × Nat) × Nat × Nat) := [((1, 26), (1, 1), (1, 25), (0, 0)), ((1, 34), (1, 2), (1, 33), (0, 0)), ((1, 54), (1, 3), (1, 53), (0, 0)), ((1, 61), (1, 3), (1, 59), (1, 60)), ((1, 65), (1, 2), (1, 63), (1, 64)), ((1, 68), (1, 4), (1, 67), (0, 0)), ((1, 168), (1, 5), (1, 167), (0, 0)), ((1, 215), (1, 6), (1, 214), (0, 0)), ((2, 34), (1, 7), (2, 33), (0, 0)), ((2, 99), (1, 8), (2, 98), (0, 0))]
def jmTp_1 : List ((Nat × Nat) × (Nat × Nat) × (Nat × Nat) × Nat × Nat) := [((2, 118), (1, 9), (2, 117), (0, 0)), ((2, 180), (1, 1), (2, 178), (2, 179)), ((2, 184), (1, 2), (2, 182), (2, 183)), ((2, 188), (1, 1), (2, 187), (0, 0)), ((2, 192), (1, 2), (2, 190), (2, 191)), ((2, 196), (1, 2), (2, 194), (2, 195)), ((2, 200), (1, 2), (2, 199), (0, 1)), ((2, 204), (1, 2), (2, 202), (2, 203)), ((2, 208), (1, 1), (2, 206), (2, 207)), ((2, 212), (1, 1), (2, 211), (0, 2))]
def jmTp_2 : List ((Nat × Nat) × (Nat × Nat) × (Nat × Nat) × Nat × Nat) := [((2, 216), (1, 5), (2, 214), (2, 215)), ((2, 220), (1, 5), (2, 219), (0, 3)), ((2, 226), (1, 5), (2, 225), (0, 4)), ((2, 230), (1, 2), (2, 228), (2, 229)), ((2, 235), (1, 5), (2, 234), (0, 5)), ((2, 239), (1, 5), (2, 238), (0, 6)), ((3, 4), (1, 5), (3, 3), (0, 7)), ((3, 56), (1, 5), (3, 55), (0, 8)), ((3, 60), (1, 3), (3, 58), (3, 59)), ((3, 65), (1, 5), (3, 64), (0, 9))]
def jmTp_3 : List ((Nat × Nat) × (Nat × Nat) × (Nat × Nat) × Nat × Nat) := [((3, 70), (1, 5), (3, 69), (0, 10)), ((3, 74), (1, 5), (3, 73), (0, 11)), ((3, 79), (1, 5), (3, 78), (0, 12)), ((3, 83), (1, 5), (3, 82), (0, 13)), ((3, 92), (1, 5), (3, 91), (0, 14)), ((3, 97), (1, 5), (3, 96), (0, 15)), ((3, 101), (1, 5), (3, 100), (0, 16)), ((3, 105), (1, 5), (3, 104), (0, 17)), ((3, 109), (1, 3), (3, 107), (3, 108)), ((3, 114), (1, 5), (3, 113), (0, 18))]
def jmTp_4 : List ((Nat × Nat) × (Nat × Nat) × (Nat × Nat) × Nat × Nat) := [((3, 118), (1, 5), (3, 117), (0, 19)), ((3, 122), (1, 5), (3, 121), (0, 20)), ((3, 127), (1, 5), (3, 126), (0, 21)), ((3, 132), (1, 5), (3, 131), (0, 22)), ((3, 136), (1, 5), (3, 135), (0, 23)), ((3, 140), (1, 5), (3, 139), (0, 24)), ((3, 147), (1, 5), (3, 146), (0, 25)), ((3, 155), (1, 5), (3, 154), (0, 26)), ((3, 159), (1, 5), (3, 158), (0, 27)), ((3, 163), (1, 3), (3, 161), (3, 162))]
def jmTp_5 : List ((Nat × Nat) × (Nat × Nat) × (Nat × Nat) × Nat × Nat) := [((3, 168), (1, 3), (3, 166), (3, 167)), ((3, 173), (1, 5), (3, 172), (0, 28)), ((3, 177), (1, 5), (3, 176), (0, 29)), ((3, 182), (1, 3), (3, 180), (3, 181)), ((3, 186), (1, 2), (3, 184), (3, 185)), ((3, 193), (1, 3), (3, 191), (3, 192)), ((3, 197), (1, 2), (3, 195), (3, 196)), ((3, 204), (1, 3), (3, 202), (3, 203)), ((3, 208), (1, 3), (3, 207), (0, 30)), ((3, 212), (1, 6), (3, 210), (3, 211))]
def jmTp_6 : List ((Nat × Nat) × (Nat × Nat) × (Nat × Nat) × Nat × Nat) := [((3, 222), (1, 6), (3, 220), (3, 221)), ((3, 227), (1, 8), (3, 225), (3, 226)), ((3, 231), (1, 1), (3, 230), (0, 31)), ((3, 236), (1, 1), (3, 234), (3, 235)), ((4, 0), (1, 1), (3, 238), (3, 239)), ((4, 4), (1, 1), (4, 2), (4, 3)), ((4, 8), (1, 1), (4, 7), (0, 32)), ((4, 14), (1, 1), (4, 12), (4, 13)), ((4, 18), (1, 1), (4, 16), (4, 17)), ((4, 22), (1, 1), (4, 21), (0, 33))]
def jmTp_7 : List ((Nat × Nat) × (Nat × Nat) × (Nat × Nat) × Nat × Nat) := [((4, 26), (1, 6), (4, 24), (4, 25)), ((4, 30), (1, 6), (4, 28), (4, 29)), ((4, 34), (1, 1), (4, 32), (4, 33)), ((4, 38), (1, 1), (4, 36), (4, 37)), ((4, 42), (1, 1), (4, 40), (4, 41)), ((4, 46), (1, 1), (4, 44), (4, 45)), ((4, 50), (1, 6), (4, 48), (4, 49)), ((4, 54), (1, 1), (4, 52), (4, 53)), ((4, 58), (1, 1), (4, 57), (0, 34)), ((4, 62), (1, 1), (4, 60), (4, 61))]
def jmTp_8 : List ((Nat × Nat) × (Nat × Nat) × (Nat × Nat) × Nat × Nat) := [((4, 66), (1, 1), (4, 64), (4, 65)), ((4, 70), (1, 1), (4, 69), (0, 35)), ((4, 74), (1, 7), (4, 72), (4, 73)), ((4, 81), (1, 7), (4, 79), (4, 80)), ((4, 85), (1, 7), (4, 84), (0, 36)), ((4, 89), (1, 3), (4, 87), (4, 88)), ((4, 93), (1, 7), (4, 92), (0, 37)), ((4, 98), (1, 6), (4, 96), (4, 97)), ((4, 104), (1, 7), (4, 103), (0, 38)), ((4, 111), (1, 7), (4, 110), (0, 39))]
def jmTp_9 : List ((Nat × Nat) × (Nat × Nat) × (Nat × Nat) × Nat × Nat) := [((4, 115), (1, 7), (4, 114), (0, 40)), ((4, 119), (1, 6), (4, 117), (4, 118)), ((4, 124), (1, 7), (4, 123), (0, 41)), ((4, 128), (1, 7), (4, 127), (0, 42)), ((4, 132), (1, 7), (4, 131), (0, 43)), ((4, 139), (1, 7), (4, 138), (0, 44)), ((4, 143), (1, 7), (4, 142), (0, 45)), ((4, 147), (1, 6), (4, 145), (4, 146)), ((4, 152), (1, 7), (4, 151), (0, 46)), ((4, 158), (1, 7), (4, 157), (0, 47))]
def jmTp_10 : List ((Nat × Nat) × (Nat × Nat) × (Nat × Nat) × Nat × Nat) := [((4, 162), (1, 2), (4, 160), (4, 161)), ((4, 166), (1, 7), (4, 165), (0, 48)), ((4, 170), (1, 7), (4, 169), (0, 49)), ((4, 174), (1, 6), (4, 172), (4, 173)), ((4, 179), (1, 1), (4, 177), (4, 178)), ((4, 183), (1, 6), (4, 181), (4, 182)), ((4, 187), (1, 1), (4, 185), (4, 186)), ((4, 191), (1, 1), (4, 189), (4, 190)), ((4, 195), (1, 7), (4, 193), (4, 194)), ((4, 199), (1, 1), (4, 197), (4, 198))]
def jmTp_11 : List ((Nat × Nat) × (Nat × Nat) × (Nat × Nat) × Nat × Nat) := [((4, 202), (1, 4), (4, 201), (0, 0)), ((4, 206), (1, 1), (4, 204), (4, 205)), ((4, 210), (1, 1), (4, 208), (4, 209)), ((4, 214), (1, 1), (4, 212), (4, 213)), ((4, 218), (1, 1), (4, 216), (4, 217)), ((4, 222), (1, 1), (4, 220), (4, 221)), ((4, 226), (1, 7), (4, 224), (4, 225)), ((4, 232), (1, 7), (4, 231), (0, 50)), ((4, 237), (1, 1), (4, 236), (0, 51)), ((5, 1), (1, 1), (4, 239), (5, 0))]
def jmTp_12 : List ((Nat × Nat) × (Nat × Nat) × (Nat × Nat) × Nat × Nat) := [((5, 4), (1, 17), (5, 3), (0, 0)), ((5, 8), (1, 1), (5, 6), (5, 7)), ((5, 12), (1, 1), (5, 10), (5, 11)), ((5, 16), (1, 1), (5, 15), (0, 52)), ((5, 20), (1, 9), (5, 18), (5, 19)), ((5, 27), (1, 6), (5, 25), (5, 26)), ((5, 32), (1, 9), (5, 30), (5, 31)), ((5, 38), (1, 9), (5, 37), (0, 53)), ((5, 43), (1, 1), (5, 41), (5, 42)), ((5, 47), (1, 1), (5, 45), (5, 46))]
def jmTp_13 : List ((Nat × Nat) × (Nat × Nat) × (Nat × Nat) × Nat × Nat) := [((5, 51), (1, 1), (5, 49), (5, 50)), ((5, 55), (1, 1), (5, 54), (0, 54)), ((5, 59), (1, 7), (5, 57), (5, 58)), ((5, 63), (1, 7), (5, 61), (5, 62)), ((5, 67), (1, 1), (5, 65), (5, 66)), ((5, 72), (1, 1), (5, 70), (5, 71)), ((5, 77), (1, 1), (5, 75), (5, 76)), ((5, 81), (1, 3), (5, 79), (5, 80)), ((5, 84), (1, 4), (5, 83), (0, 0)), ((5, 88), (1, 1), (5, 86), (5, 87))]
def jmTp_14 : List ((Nat × Nat) × (Nat × Nat) × (Nat × Nat) × Nat × Nat) := [((5, 93), (1, 1), (5, 91), (5, 92)), ((5, 97), (1, 1), (5, 96), (0, 55)), ((5, 101), (1, 1), (5, 99), (5, 100)), ((5, 105), (1, 1), (5, 103), (5, 104)), ((5, 111), (1, 1), (5, 109), (5, 110)), ((5, 115), (1, 7), (5, 113), (5, 114)), ((5, 119), (1, 7), (5, 118), (0, 56)), ((5, 124), (1, 1), (5, 122), (5, 123)), ((5, 128), (1, 8), (5, 126), (5, 127)), ((5, 132), (1, 8), (5, 130), (5, 131))]
def jmTp_15 : List ((Nat × Nat) × (Nat × Nat) × (Nat × Nat) × Nat × Nat) := [((5, 136), (1, 8), (5, 135), (0, 57)), ((5, 139), (1, 4), (5, 138), (0, 0)), ((5, 144), (1, 1), (5, 142), (5, 143)), ((5, 148), (1, 1), (5, 147), (0, 58)), ((5, 152), (1, 1), (5, 151), (0, 59)), ((5, 156), (1, 1), (5, 154), (5, 155)), ((5, 160), (1, 1), (5, 158), (5, 159)), ((5, 165), (1, 1), (5, 163), (5, 164)), ((5, 169), (1, 1), (5, 167), (5, 168)), ((5, 173), (1, 1), (5, 171), (5, 172))]
def jmTp_16 : List ((Nat × Nat) × (Nat × Nat) × (Nat × Nat) × Nat × Nat) := [((5, 177), (1, 8), (5, 175), (5, 176)), ((5, 181), (1, 8), (5, 179), (5, 180)), ((5, 185), (1, 1), (5, 183), (5, 184)), ((5, 190), (1, 8), (5, 188), (5, 189)), ((5, 194), (1, 1), (5, 192), (5, 193)), ((5, 199), (1, 1), (5, 197), (5, 198)), ((5, 203), (1, 1), (5, 201), (5, 202)), ((5, 207), (1, 1), (5, 205), (5, 206)), ((5, 211), (1, 1), (5, 210), (0, 60)), ((5, 215), (1, 1), (5, 214), (0, 61))]
def jmTp_17 : List ((Nat × Nat) × (Nat × Nat) × (Nat × Nat) × Nat × Nat) := [((5, 219), (1, 1), (5, 217), (5, 218)), ((5, 227), (1, 1), (5, 225), (5, 226)), ((6, 57), (1, 10), (6, 56), (0, 0)), ((6, 183), (1, 10), (6, 181), (6, 182)), ((6, 187), (1, 10), (6, 185), (6, 186)), ((6, 191), (1, 10), (6, 189), (6, 190)), ((6, 195), (1, 10), (6, 194), (0, 63)), ((6, 200), (1, 16), (6, 199), (0, 0)), ((7, 87), (1, 10), (7, 86), (0, 64)), ((7, 91), (1, 10), (7, 90), (0, 65))]
def jmTp_18 : List ((Nat × Nat) × (Nat × Nat) × (Nat × Nat) × Nat × Nat) := [((7, 94), (1, 10), (7, 93), (0, 0)), ((7, 98), (1, 10), (7, 97), (0, 0)), ((7, 102), (1, 10), (7, 101), (0, 66)), ((7, 106), (1, 10), (7, 105), (0, 67)), ((7, 111), (1, 10), (7, 110), (0, 68)), ((7, 114), (1, 10), (7, 113), (0, 0)), ((7, 120), (1, 10), (7, 119), (0, 69)), ((7, 124), (1, 10), (7, 123), (0, 70)), ((7, 129), (1, 10), (7, 128), (0, 71)), ((7, 133), (1, 10), (7, 132), (0, 72))]
def jmTp_19 : List ((Nat × Nat) × (Nat × Nat) × (Nat × Nat) × Nat × Nat) := [((7, 137), (1, 10), (7, 136), (0, 73)), ((7, 141), (1, 10), (7, 140), (0, 74)), ((7, 144), (1, 10), (7, 143), (0, 0)), ((7, 156), (1, 10), (7, 155), (0, 75)), ((7, 160), (1, 10), (7, 159), (0, 76)), ((7, 165), (1, 10), (7, 164), (0, 77)), ((7, 169), (1, 10), (7, 168), (0, 78)), ((7, 173), (1, 10), (7, 172), (0, 79)), ((7, 179), (1, 10), (7, 178), (0, 80)), ((7, 184), (1, 10), (7, 183), (0, 81))]
def jmTp_20 : List ((Nat × Nat) × (Nat × Nat) × (Nat × Nat) × Nat × Nat) := [((7, 188), (1, 10), (7, 187), (0, 82)), ((7, 193), (1, 10), (7, 192), (0, 83)), ((7, 202), (1, 10), (7, 201), (0, 84)), ((7, 211), (1, 10), (7, 210), (0, 85)), ((7, 215), (1, 10), (7, 214), (0, 86)), ((7, 224), (1, 10), (7, 223), (0, 87)), ((7, 235), (1, 10), (7, 234), (0, 88)), ((7, 239), (1, 10), (7, 238), (0, 89)), ((8, 3), (1, 16), (8, 1), (8, 2)), ((8, 7), (1, 16), (8, 5), (8, 6))]
def jmTp_21 : List ((Nat × Nat) × (Nat × Nat) × (Nat × Nat) × Nat × Nat) := [((8, 11), (1, 16), (8, 9), (8, 10)), ((8, 15), (1, 10), (8, 14), (0, 90)), ((8, 19), (1, 10), (8, 18), (0, 91)), ((8, 23), (1, 10), (8, 22), (0, 92)), ((8, 27), (1, 10), (8, 25), (8, 26)), ((8, 31), (1, 10), (8, 29), (8, 30)), ((8, 35), (1, 10), (8, 33), (8, 34)), ((8, 39), (1, 10), (8, 38), (0, 93)), ((8, 43), (1, 10), (8, 41), (8, 42)), ((8, 47), (1, 10), (8, 45), (8, 46))]
def jmTp_22 : List ((Nat × Nat) × (Nat × Nat) × (Nat × Nat) × Nat × Nat) := [((8, 51), (1, 10), (8, 50), (0, 94)), ((8, 54), (1, 10), (8, 53), (0, 0)), ((8, 57), (1, 10), (8, 56), (0, 0)), ((8, 61), (1, 10), (8, 59), (8, 60)), ((8, 65), (1, 10), (8, 63), (8, 64)), ((8, 69), (1, 10), (8, 67), (8, 68)), ((8, 73), (1, 10), (8, 71), (8, 72)), ((8, 77), (1, 10), (8, 76), (0, 95)), ((8, 81), (1, 10), (8, 80), (0, 96)), ((8, 85), (1, 10), (8, 83), (8, 84))]
def jmTp_23 : List ((Nat × Nat) × (Nat × Nat) × (Nat × Nat) × Nat × Nat) := [((8, 89), (1, 10), (8, 88), (0, 97)), ((8, 93), (1, 10), (8, 91), (8, 92)), ((8, 96), (1, 10), (8, 95), (0, 0)), ((8, 100), (1, 10), (8, 98), (8, 99)), ((8, 104), (1, 10), (8, 103), (0, 98)), ((8, 108), (1, 10), (8, 107), (0, 99)), ((8, 112), (1, 10), (8, 111), (0, 100)), ((8, 116), (1, 10), (8, 115), (0, 101)), ((8, 120), (1, 10), (8, 119), (0, 102)), ((8, 124), (1, 10), (8, 123), (0, 103))]
def jmTp_24 : List ((Nat × Nat) × (Nat × Nat) × (Nat × Nat) × Nat × Nat) := [((8, 128), (1, 10), (8, 127), (0, 104)), ((8, 132), (1, 10), (8, 131), (0, 105)), ((8, 136), (1, 10), (8, 135), (0, 106)), ((8, 139), (1, 10), (8, 138), (0, 0)), ((8, 142), (1, 10), (8, 141), (0, 0)), ((8, 146), (1, 10), (8, 145), (0, 107)), ((8, 149), (1, 10), (8, 148), (0, 0)), ((8, 156), (1, 10), (8, 155), (0, 108)), ((8, 160), (1, 10), (8, 159), (0, 109)), ((8, 164), (1, 10), (8, 163), (0, 110))]
def jmTp_25 : List ((Nat × Nat) × (Nat × Nat) × (Nat × Nat) × Nat × Nat) := [((8, 168), (1, 10), (8, 167), (0, 111)), ((8, 172), (1, 10), (8, 171), (0, 112)), ((8, 176), (1, 10), (8, 175), (0, 113)), ((8, 179), (1, 10), (8, 178), (0, 0)), ((8, 182), (1, 10), (8, 181), (0, 0)), ((8, 186), (1, 10), (8, 185), (0, 114)), ((8, 190), (1, 16), (8, 188), (8, 189)), ((8, 195), (1, 10), (8, 193), (8, 194)), ((8, 198), (1, 10), (8, 197), (0, 0)), ((8, 202), (1, 10), (8, 200), (8, 201))]
def jmTp_26 : List ((Nat × Nat) × (Nat × Nat) × (Nat × Nat) × Nat × Nat) := [((8, 206), (1, 10), (8, 204), (8, 205)), ((8, 210), (1, 10), (8, 208), (8, 209)), ((8, 214), (1, 10), (8, 212), (8, 213)), ((8, 218), (1, 10), (8, 217), (0, 115)), ((8, 222), (1, 10), (8, 220), (8, 221)), ((8, 226), (1, 10), (8, 224), (8, 225)), ((8, 230), (1, 10), (8, 228), (8, 229)), ((8, 234), (1, 10), (8, 232), (8, 233)), ((8, 238), (1, 10), (8, 237), (0, 116)), ((9, 2), (1, 10), (9, 1), (0, 117))]
def jmTp_27 : List ((Nat × Nat) × (Nat × Nat) × (Nat × Nat) × Nat × Nat) := [((9, 6), (1, 10), (9, 4), (9, 5)), ((9, 10), (1, 10), (9, 8), (9, 9)), ((9, 14), (1, 10), (9, 12), (9, 13)), ((9, 18), (1, 10), (9, 17), (0, 118)), ((9, 22), (1, 10), (9, 21), (0, 119)), ((9, 26), (1, 10), (9, 25), (0, 120)), ((9, 30), (1, 10), (9, 28), (9, 29)), ((9, 34), (1, 10), (9, 32), (9, 33)), ((9, 38), (1, 10), (9, 36), (9, 37)), ((9, 42), (1, 10), (9, 41), (0, 121))]
def jmTp_28 : List ((Nat × Nat) × (Nat × Nat) × (Nat × Nat) × Nat × Nat) := [((9, 46), (1, 10), (9, 45), (0, 122)), ((9, 50), (1, 10), (9, 48), (9, 49)), ((9, 54), (1, 10), (9, 52), (9, 53)), ((9, 60), (1, 10), (9, 58), (9, 59)), ((9, 64), (1, 10), (9, 63), (0, 123)), ((9, 68), (1, 16), (9, 66), (9, 67)), ((9, 72), (1, 10), (9, 70), (9, 71)), ((9, 76), (1, 10), (9, 74), (9, 75)), ((9, 80), (1, 10), (9, 79), (0, 124)), ((9, 84), (1, 10), (9, 83), (0, 125))]
def jmTp_29 : List ((Nat × Nat) × (Nat × Nat) × (Nat × Nat) × Nat × Nat) := [((9, 88), (1, 10), (9, 86), (9, 87)), ((9, 93), (1, 10), (9, 91), (9, 92)), ((9, 97), (1, 10), (9, 95), (9, 96)), ((9, 101), (1, 10), (9, 100), (0, 126)), ((9, 105), (1, 10), (9, 103), (9, 104)), ((9, 109), (1, 10), (9, 108), (0, 127)), ((9, 113), (1, 10), (9, 111), (9, 112)), ((9, 117), (1, 10), (9, 116), (0, 128)), ((9, 121), (1, 10), (9, 120), (0, 129)), ((9, 125), (1, 10), (9, 123), (9, 124))]
def jmTp_30 : List ((Nat × Nat) × (Nat × Nat) × (Nat × Nat) × Nat × Nat) := [((9, 129), (1, 10), (9, 128), (0, 130)), ((9, 133), (1, 10), (9, 131), (9, 132)), ((9, 137), (1, 10), (9, 135), (9, 136)), ((9, 141), (1, 10), (9, 139), (9, 140)), ((9, 145), (1, 10), (9, 143), (9, 144)), ((9, 149), (1, 10), (9, 147), (9, 148)), ((9, 153), (1, 10), (9, 151), (9, 152)), ((9, 157), (1, 10), (9, 155), (9, 156)), ((9, 161), (1, 10), (9, 159), (9, 160)), ((9, 165), (1, 10), (9, 163), (9, 164))]
def jmTp_31 : List ((Nat × Nat) × (Nat × Nat) × (Nat × Nat) × Nat × Nat) := [((9, 169), (1, 10), (9, 167), (9, 168)), ((9, 173), (1, 10), (9, 171), (9, 172)), ((0, 0), (0, 0), (0, 0), (0, 0))]
abbrev jmQ : Type := (Nat × Nat) × (Nat × Nat × Nat × Int) × (Nat × Nat) × Nat
def jmTx : List String := ["hall row band home steps leads table dancer snake frame", "wide", "high", "law", "through round", "joins", "end behind", "sound", "north east south west", "ahead right left lot home told", "at", "sits", "plain aunt child heavy", "legs", "grip", "eager", "hall", "round", "through", "behind", "end", "row", "band", "home", "steps", "leads", "ahead", "right", "left", "lot", "told", "north", "east", "south", "west", "table", "dancer", "snake", "frame", "plain", "aunt", "child", "heavy"]
def jmK_0_0 : List jmQ := [((0, 173), (0, 1, 0, 1), (1, 72), 1), ((0, 52), (0, 1, 2, 1), (1, 77), 1), ((0, 230), (0, 1, 3, 1), (1, 82), 1), ((0, 139), (0, 1, 5, 1), (1, 89), 1), ((0, 196), (0, 1, 6, 1), (1, 92), 1), ((0, 221), (0, 1, 7, 1), (1, 94), 1), ((0, 192), (0, 1, 10, 0), (1, 103), 1), ((0, 218), (0, 1, 14, 0), (1, 116), 1), ((0, 107), (0, 4, 0, 1), (1, 220), 1), ((0, 149), (0, 4, 1, 1), (1, 224), 1), ((0, 233), (0, 4, 2, 1), (1, 227), 1), ((0, 88), (0, 4, 3, 0), (1, 229), 1)]
def jmK_0_1 : List jmQ := [((0, 127), (0, 4, 5, 0), (1, 234), 1), ((0, 186), (0, 4, 6, 0), (1, 237), 1), ((0, 130), (0, 4, 7, 0), (2, 0), 1), ((0, 81), (0, 4, 9, 0), (2, 3), 1), ((0, 3), (4, 0, 0, 0), (2, 35), 0), ((0, 9), (5, 4, 0, 0), (2, 36), 0), ((0, 11), (3, 7, 0, 0), (2, 37), 0), ((0, 18), (5, 5, 0, 0), (2, 38), 0), ((0, 20), (3, 1, 2, 0), (2, 39), 0), ((0, 41), (0, 0, 0, 1), (2, 40), 0), ((0, 12), (0, 0, 1, 1), (2, 41), 0), ((0, 23), (0, 0, 2, 1), (2, 43), 0)]
def jmK_0_2 : List jmQ := [((0, 27), (0, 0, 3, 1), (2, 45), 0), ((0, 30), (0, 0, 4, 1), (2, 47), 0), ((0, 35), (0, 0, 5, 1), (2, 48), 0), ((0, 38), (0, 0, 6, 1), (2, 49), 0), ((0, 56), (0, 0, 7, 0), (2, 50), 0), ((0, 60), (0, 0, 8, 0), (2, 52), 0), ((0, 63), (0, 0, 9, 0), (2, 53), 0), ((0, 66), (0, 0, 10, 0), (2, 54), 0), ((0, 69), (0, 0, 11, 0), (2, 56), 0), ((0, 72), (0, 0, 12, 0), (2, 58), 0), ((0, 75), (0, 0, 13, 0), (2, 60), 0), ((0, 78), (0, 0, 14, 0), (2, 62), 0)]
def jmK_0_3 : List jmQ := [((0, 45), (1, 60, 1, 0), (4, 75), 0), ((0, 49), (1, 56, 2, 0), (4, 76), 0), ((0, 53), (1, 54, 1, 0), (4, 77), 0), ((0, 84), (1, 84, 0, 0), (4, 82), 0), ((0, 171), (1, 85, 1, 0), (4, 86), 0), ((0, 91), (1, 86, 1, 0), (4, 90), 0), ((0, 110), (1, 12, 0, 0), (4, 94), 0), ((0, 176), (1, 87, 2, 0), (4, 95), 0), ((0, 180), (1, 88, 0, 0), (4, 101), 0), ((0, 156), (1, 70, 1, 0), (4, 105), 0), ((0, 142), (1, 23, 2, 0), (4, 106), 0), ((0, 167), (1, 17, 3, 0), (4, 107), 0)]
def jmK_0_4 : List jmQ := [((0, 183), (1, 89, 0, 0), (4, 108), 0), ((0, 199), (1, 90, 0, 0), (4, 112), 0), ((0, 215), (1, 91, 0, 0), (4, 116), 0), ((0, 202), (1, 92, 0, 0), (4, 121), 0), ((0, 205), (1, 93, 0, 0), (4, 125), 0), ((0, 208), (1, 94, 0, 0), (4, 129), 0), ((0, 211), (10, 0, 0, 0), (4, 133), 0), ((0, 124), (1, 14, 1, 0), (4, 135), 0), ((0, 189), (1, 95, 2, 0), (4, 136), 0), ((0, 95), (1, 96, 0, 0), (4, 140), 0), ((0, 224), (1, 97, 2, 0), (4, 144), 0), ((0, 98), (1, 98, 0, 0), (4, 149), 0)]
def jmK_0_5 : List jmQ := [((0, 159), (1, 71, 1, 0), (4, 153), 0), ((0, 116), (1, 4, 1, 0), (4, 154), 0), ((0, 101), (1, 99, 0, 0), (4, 155), 0), ((0, 227), (1, 100, 1, 0), (4, 159), 0), ((0, 104), (1, 101, 0, 0), (4, 163), 0), ((0, 236), (1, 102, 1, 0), (4, 167), 0), ((0, 239), (1, 103, 3, 0), (4, 171), 0), ((0, 113), (1, 82, 1, 0), (4, 227), 0), ((0, 133), (1, 83, 1, 0), (4, 228), 0), ((0, 136), (1, 117, 0, 0), (4, 229), 0), ((0, 162), (2, 110, 2, 0), (4, 233), 0), ((0, 120), (1, 133, 3, 0), (5, 60), 0)]
def jmK_0_6 : List jmQ := [((0, 146), (1, 146, 1, 0), (5, 116), 0), ((0, 152), (1, 105, 1, 0), (5, 120), 0)]
def jmK_0 : List jmQ := jmK_0_0 ++ (jmK_0_1 ++ (jmK_0_2 ++ (jmK_0_3 ++ (jmK_0_4 ++ (jmK_0_5 ++ (jmK_0_6))))))
def jmK_1_0 : List jmQ := [((1, 3), (4, 0, 0, 0), (1, 55), 0), ((1, 9), (5, 5, 0, 0), (1, 56), 0), ((1, 13), (3, 1, 2, 0), (1, 57), 0), ((1, 41), (1, 3, 0, 0), (1, 58), 0), ((1, 44), (1, 4, 1, 0), (1, 62), 0), ((1, 16), (0, 1, 0, 1), (1, 69), 0), ((1, 20), (0, 1, 1, 1), (1, 73), 0), ((1, 23), (0, 1, 2, 1), (1, 76), 0), ((1, 26), (0, 1, 3, 1), (1, 79), 0), ((1, 29), (0, 1, 4, 1), (1, 84), 0), ((1, 32), (0, 1, 5, 1), (1, 87), 0), ((1, 35), (0, 1, 6, 1), (1, 91), 0)]
def jmK_1_1 : List jmQ := [((1, 38), (0, 1, 7, 1), (1, 93), 0), ((1, 48), (0, 1, 8, 0), (1, 95), 0), ((1, 52), (0, 1, 9, 0), (1, 98), 0), ((1, 55), (0, 1, 10, 0), (1, 101), 0), ((1, 59), (0, 1, 11, 0), (1, 105), 0), ((1, 62), (0, 1, 12, 0), (1, 109), 0), ((1, 65), (0, 1, 13, 0), (1, 112), 0), ((1, 68), (0, 1, 14, 0), (1, 114), 0), ((1, 71), (0, 1, 15, 0), (1, 118), 0), ((1, 74), (0, 1, 16, 0), (1, 121), 0), ((1, 77), (0, 1, 17, 0), (1, 124), 0), ((1, 84), (1, 12, 0, 0), (3, 61), 0)]
def jmK_1_2 : List jmQ := [((1, 92), (1, 23, 2, 0), (3, 164), 0), ((1, 88), (1, 38, 2, 0), (3, 169), 0), ((1, 80), (1, 54, 1, 0), (3, 183), 0), ((1, 95), (1, 56, 2, 0), (3, 194), 0), ((1, 98), (1, 50, 2, 0), (3, 198), 0), ((1, 101), (1, 49, 1, 0), (3, 199), 0), ((1, 105), (1, 17, 3, 0), (3, 200), 0), ((1, 109), (1, 57, 2, 0), (3, 201), 0), ((1, 113), (1, 58, 3, 0), (3, 205), 0), ((1, 117), (2, 138, 1, 0), (5, 82), 0)]
def jmK_1 : List jmQ := jmK_1_0 ++ (jmK_1_1 ++ (jmK_1_2))
def jmK_2_0 : List jmQ := [((2, 1), (4, 0, 0, 0), (2, 119), 0), ((2, 7), (5, 5, 0, 0), (2, 120), 0), ((2, 9), (3, 1, 2, 0), (2, 121), 0), ((2, 12), (0, 2, 0, 1), (2, 122), 0), ((2, 18), (0, 2, 1, 1), (2, 124), 0), ((2, 21), (1, 4, 1, 0), (5, 21), 0), ((2, 25), (1, 14, 1, 0), (5, 22), 0), ((2, 28), (1, 54, 1, 0), (5, 23), 0), ((2, 32), (1, 12, 0, 0), (5, 33), 0), ((2, 36), (1, 23, 2, 0), (5, 34), 0), ((2, 40), (1, 127, 2, 0), (5, 35), 0), ((2, 43), (1, 17, 3, 0), (5, 39), 0)]
def jmK_2 : List jmQ := jmK_2_0
def jmK_3_0 : List jmQ := [((3, 188), (0, 1, 0, 1), (1, 71), 1), ((3, 107), (0, 1, 1, 1), (1, 74), 1), ((3, 211), (0, 1, 2, 1), (1, 78), 1), ((3, 145), (0, 1, 3, 1), (1, 81), 1), ((3, 148), (0, 1, 4, 1), (1, 86), 1), ((3, 151), (0, 1, 5, 1), (1, 88), 1), ((3, 129), (0, 1, 8, 0), (1, 96), 1), ((3, 182), (0, 1, 9, 0), (1, 99), 1), ((3, 171), (0, 1, 10, 0), (1, 102), 1), ((3, 179), (0, 1, 11, 0), (1, 106), 1), ((3, 139), (0, 1, 12, 0), (1, 111), 1), ((3, 199), (0, 1, 13, 0), (1, 113), 1)]
def jmK_3_1 : List jmQ := [((3, 142), (0, 1, 14, 0), (1, 115), 1), ((3, 113), (0, 1, 15, 0), (1, 120), 1), ((3, 116), (0, 1, 16, 0), (1, 123), 1), ((3, 249), (0, 1, 17, 0), (1, 126), 1), ((3, 3), (4, 0, 0, 0), (1, 169), 0), ((3, 9), (5, 5, 0, 0), (1, 170), 0), ((3, 11), (3, 1, 2, 0), (1, 171), 0), ((3, 20), (0, 3, 0, 1), (1, 172), 0), ((3, 23), (0, 3, 1, 1), (1, 173), 0), ((3, 14), (0, 3, 2, 1), (1, 174), 0), ((3, 31), (0, 3, 3, 0), (1, 175), 0), ((3, 70), (0, 3, 4, 0), (1, 176), 0)]
def jmK_3_2 : List jmQ := [((3, 80), (0, 3, 5, 0), (1, 177), 0), ((3, 95), (0, 3, 6, 0), (1, 178), 0), ((3, 255), (0, 3, 7, 0), (1, 179), 0), ((3, 162), (0, 3, 8, 0), (1, 180), 0), ((3, 219), (0, 3, 9, 0), (1, 181), 0), ((3, 98), (0, 3, 10, 0), (1, 182), 0), ((3, 101), (0, 3, 11, 0), (1, 184), 0), ((3, 27), (1, 21, 1, 0), (2, 217), 0), ((3, 87), (1, 3, 0, 0), (2, 221), 0), ((3, 92), (1, 4, 1, 0), (2, 222), 0), ((3, 104), (1, 22, 0, 0), (2, 223), 0), ((3, 184), (1, 23, 2, 0), (2, 227), 0)]
def jmK_3_3 : List jmQ := [((3, 267), (2, 5, 2, 0), (2, 231), 0), ((3, 272), (1, 24, 1, 0), (2, 232), 0), ((3, 35), (1, 25, 0, 0), (2, 236), 0), ((3, 119), (7, 2, 0, 0), (3, 0), 0), ((3, 121), (1, 26, 1, 0), (3, 1), 0), ((3, 258), (11, 0, 0, 0), (3, 5), 0), ((3, 263), (12, 0, 0, 0), (3, 15), 0), ((3, 125), (1, 27, 1, 0), (3, 53), 0), ((3, 132), (1, 28, 0, 0), (3, 57), 0), ((3, 135), (1, 29, 1, 0), (3, 62), 0), ((3, 110), (1, 12, 0, 0), (3, 66), 0), ((3, 83), (1, 30, 2, 0), (3, 67), 0)]
def jmK_3_4 : List jmQ := [((3, 39), (1, 31, 0, 0), (3, 71), 0), ((3, 154), (7, 3, 0, 0), (3, 75), 0), ((3, 155), (1, 32, 1, 0), (3, 76), 0), ((3, 159), (1, 33, 2, 0), (3, 80), 0), ((3, 165), (7, 4, 0, 0), (3, 84), 0), ((3, 167), (7, 5, 0, 0), (3, 85), 0), ((3, 169), (7, 6, 0, 0), (3, 86), 0), ((3, 175), (7, 7, 0, 0), (3, 87), 0), ((3, 177), (7, 8, 0, 0), (3, 88), 0), ((3, 43), (1, 34, 0, 0), (3, 89), 0), ((3, 191), (1, 14, 1, 0), (3, 93), 0), ((3, 46), (1, 35, 0, 0), (3, 94), 0)]
def jmK_3_5 : List jmQ := [((3, 194), (1, 36, 0, 0), (3, 98), 0), ((3, 76), (1, 37, 1, 0), (3, 102), 0), ((3, 252), (1, 38, 2, 0), (3, 106), 0), ((3, 197), (7, 9, 0, 0), (3, 110), 0), ((3, 49), (1, 39, 0, 0), (3, 111), 0), ((3, 52), (1, 40, 0, 0), (3, 115), 0), ((3, 201), (1, 41, 1, 0), (3, 119), 0), ((3, 209), (7, 10, 0, 0), (3, 123), 0), ((3, 55), (1, 42, 0, 0), (3, 124), 0), ((3, 205), (7, 11, 0, 0), (3, 128), 0), ((3, 58), (1, 43, 0, 0), (3, 129), 0), ((3, 214), (1, 44, 0, 0), (3, 133), 0)]
def jmK_3_6 : List jmQ := [((3, 234), (1, 45, 2, 0), (3, 137), 0), ((3, 222), (1, 17, 3, 0), (3, 141), 0), ((3, 217), (7, 12, 0, 0), (3, 142), 0), ((3, 226), (7, 13, 0, 0), (3, 143), 0), ((3, 228), (1, 46, 3, 0), (3, 144), 0), ((3, 237), (7, 14, 0, 0), (3, 148), 0), ((3, 239), (7, 15, 0, 0), (3, 149), 0), ((3, 241), (7, 16, 0, 0), (3, 150), 0), ((3, 232), (7, 17, 0, 0), (3, 151), 0), ((3, 61), (1, 47, 0, 0), (3, 152), 0), ((3, 64), (1, 48, 0, 0), (3, 156), 0), ((3, 243), (1, 49, 1, 0), (3, 160), 0)]
def jmK_3_7 : List jmQ := [((3, 246), (1, 50, 2, 0), (3, 165), 0), ((3, 67), (1, 51, 0, 0), (3, 170), 0), ((3, 73), (1, 52, 0, 0), (3, 174), 0)]
def jmK_3 : List jmQ := jmK_3_0 ++ (jmK_3_1 ++ (jmK_3_2 ++ (jmK_3_3 ++ (jmK_3_4 ++ (jmK_3_5 ++ (jmK_3_6 ++ (jmK_3_7)))))))
def jmK_4_0 : List jmQ := [((4, 86), (0, 1, 3, 1), (1, 80), 1), ((4, 55), (0, 1, 4, 1), (1, 85), 1), ((4, 103), (0, 1, 11, 0), (1, 107), 1), ((4, 90), (0, 1, 12, 0), (1, 110), 1), ((4, 89), (0, 1, 15, 0), (1, 119), 1), ((4, 68), (0, 1, 16, 0), (1, 122), 1), ((4, 78), (0, 1, 17, 0), (1, 125), 1), ((4, 3), (4, 0, 0, 0), (1, 216), 0), ((4, 9), (5, 5, 0, 0), (1, 217), 0), ((4, 11), (3, 1, 2, 0), (1, 218), 0), ((4, 14), (0, 4, 0, 1), (1, 219), 0), ((4, 20), (0, 4, 1, 1), (1, 222), 0)]
def jmK_4_1 : List jmQ := [((4, 23), (0, 4, 2, 1), (1, 225), 0), ((4, 34), (0, 4, 3, 0), (1, 228), 0), ((4, 37), (0, 4, 4, 0), (1, 231), 0), ((4, 40), (0, 4, 5, 0), (1, 233), 0), ((4, 43), (0, 4, 6, 0), (1, 236), 0), ((4, 46), (0, 4, 7, 0), (1, 239), 0), ((4, 49), (0, 4, 8, 0), (2, 1), 0), ((4, 52), (0, 4, 9, 0), (2, 2), 0), ((4, 26), (0, 4, 10, 0), (2, 5), 0), ((4, 60), (1, 12, 0, 0), (3, 213), 0), ((4, 64), (1, 4, 1, 0), (3, 214), 0), ((4, 71), (1, 14, 1, 0), (3, 215), 0)]
def jmK_4_2 : List jmQ := [((4, 74), (1, 17, 3, 0), (3, 216), 0), ((4, 79), (1, 50, 2, 0), (3, 217), 0), ((4, 83), (1, 23, 2, 0), (3, 218), 0), ((4, 30), (1, 54, 1, 0), (3, 223), 0), ((4, 95), (1, 56, 2, 0), (4, 99), 0), ((4, 98), (1, 70, 1, 0), (4, 100), 0), ((4, 102), (8, 0, 0, 65537), (4, 120), 0), ((4, 91), (1, 76, 1, 0), (4, 148), 0), ((4, 107), (1, 15, 1, 0), (4, 175), 0)]
def jmK_4 : List jmQ := jmK_4_0 ++ (jmK_4_1 ++ (jmK_4_2))
def jmK_5_0 : List jmQ := [((5, 1), (4, 0, 0, 0), (1, 35), 0), ((5, 16), (0, 5, 0, 1), (1, 36), 0), ((5, 13), (0, 5, 1, 1), (1, 37), 0), ((5, 7), (0, 5, 2, 1), (1, 38), 0), ((5, 20), (0, 5, 3, 0), (1, 39), 0), ((5, 35), (2, 5, 2, 0), (1, 66), 0), ((5, 23), (1, 15, 1, 0), (2, 193), 0), ((5, 31), (1, 16, 2, 0), (2, 197), 0), ((5, 27), (1, 17, 3, 0), (2, 201), 0), ((5, 41), (13, 0, 0, 0), (3, 187), 0)]
def jmK_5 : List jmQ := jmK_5_0
def jmK_6_0 : List jmQ := [((6, 1), (4, 0, 0, 0), (2, 100), 0), ((6, 7), (5, 4, 0, 0), (2, 101), 0), ((6, 15), (3, 7, 0, 0), (2, 103), 0), ((6, 9), (0, 6, 0, 1), (2, 104), 0), ((6, 16), (0, 6, 1, 0), (2, 105), 0), ((6, 20), (0, 6, 2, 0), (2, 106), 0), ((6, 23), (1, 149, 0, 0), (5, 129), 0), ((6, 27), (1, 150, 1, 0), (5, 133), 0), ((6, 39), (2, 151, 2, 0), (5, 137), 0), ((6, 31), (1, 60, 1, 0), (5, 140), 0), ((6, 35), (1, 161, 2, 0), (5, 178), 0)]
def jmK_6 : List jmQ := jmK_6_0
def jmK_7_0 : List jmQ := [((7, 1), (4, 0, 0, 0), (1, 27), 0), ((7, 7), (5, 5, 0, 0), (1, 30), 0), ((7, 11), (3, 1, 2, 0), (1, 32), 0), ((7, 18), (5, 1, 0, 0), (1, 50), 0), ((7, 20), (3, 2, 0, 0), (1, 52), 0), ((7, 137), (0, 1, 0, 1), (1, 70), 1), ((7, 302), (0, 1, 1, 1), (1, 75), 1), ((7, 299), (0, 1, 3, 1), (1, 83), 1), ((7, 349), (0, 1, 5, 1), (1, 90), 1), ((7, 338), (0, 1, 8, 0), (1, 97), 1), ((7, 340), (0, 1, 9, 0), (1, 100), 1), ((7, 343), (0, 1, 10, 0), (1, 104), 1)]
def jmK_7_1 : List jmQ := [((7, 346), (0, 1, 11, 0), (1, 108), 1), ((7, 257), (0, 1, 14, 0), (1, 117), 1), ((7, 28), (5, 3, 0, 0), (1, 164), 0), ((7, 30), (3, 6, 2, 0), (1, 166), 0), ((7, 107), (0, 3, 10, 0), (1, 183), 1), ((7, 108), (0, 3, 11, 0), (1, 185), 1), ((7, 37), (5, 4, 0, 0), (1, 211), 0), ((7, 39), (3, 7, 0, 0), (1, 213), 0), ((7, 152), (0, 4, 0, 1), (1, 221), 1), ((7, 127), (0, 4, 1, 1), (1, 223), 1), ((7, 161), (0, 4, 2, 1), (1, 226), 1), ((7, 249), (0, 4, 3, 0), (1, 230), 1)]
def jmK_7_2 : List jmQ := [((7, 240), (0, 4, 4, 0), (1, 232), 1), ((7, 226), (0, 4, 5, 0), (1, 235), 1), ((7, 352), (0, 4, 6, 0), (1, 238), 1), ((7, 164), (0, 4, 9, 0), (2, 4), 1), ((7, 243), (0, 4, 10, 0), (2, 6), 1), ((7, 47), (5, 0, 0, 0), (2, 30), 0), ((7, 49), (3, 8, 1, 0), (2, 32), 0), ((7, 170), (0, 0, 1, 1), (2, 42), 1), ((7, 176), (0, 0, 2, 1), (2, 44), 1), ((7, 321), (0, 0, 3, 1), (2, 46), 1), ((7, 214), (0, 0, 7, 0), (2, 51), 1), ((7, 187), (0, 0, 10, 0), (2, 55), 1)]
def jmK_7_3 : List jmQ := [((7, 190), (0, 0, 11, 0), (2, 57), 1), ((7, 329), (0, 0, 12, 0), (2, 59), 1), ((7, 193), (0, 0, 13, 0), (2, 61), 1), ((7, 196), (0, 0, 14, 0), (2, 63), 1), ((7, 56), (5, 6, 0, 0), (2, 95), 0), ((7, 58), (3, 9, 1, 0), (2, 97), 0), ((7, 68), (5, 2, 0, 0), (2, 114), 0), ((7, 70), (3, 10, 0, 0), (2, 116), 1), ((7, 326), (0, 2, 0, 1), (2, 123), 1), ((7, 223), (0, 2, 1, 1), (2, 125), 1), ((7, 14), (0, 7, 0, 1), (2, 131), 0), ((7, 21), (0, 7, 1, 1), (2, 132), 0)]
def jmK_7_4 : List jmQ := [((7, 25), (0, 7, 2, 1), (2, 133), 0), ((7, 33), (0, 7, 3, 1), (2, 134), 0), ((7, 40), (0, 7, 4, 1), (2, 135), 0), ((7, 44), (0, 7, 5, 1), (2, 136), 0), ((7, 52), (0, 7, 6, 1), (2, 137), 0), ((7, 61), (0, 7, 7, 1), (2, 138), 0), ((7, 65), (0, 7, 8, 1), (2, 139), 0), ((7, 71), (0, 7, 9, 1), (2, 140), 0), ((7, 75), (0, 7, 10, 1), (2, 141), 0), ((7, 78), (0, 7, 11, 0), (2, 142), 0), ((7, 82), (0, 7, 12, 0), (2, 143), 0), ((7, 86), (0, 7, 13, 0), (2, 144), 0)]
def jmK_7_5 : List jmQ := [((7, 89), (0, 7, 14, 0), (2, 145), 0), ((7, 92), (1, 12, 0, 0), (2, 181), 0), ((7, 96), (1, 13, 1, 0), (2, 185), 0), ((7, 318), (1, 14, 1, 0), (2, 189), 0), ((7, 99), (1, 19, 1, 0), (2, 209), 0), ((7, 103), (1, 20, 1, 0), (2, 213), 0), ((7, 109), (1, 4, 1, 0), (3, 178), 0), ((7, 112), (1, 53, 1, 0), (3, 179), 0), ((7, 115), (1, 55, 0, 0), (3, 190), 0), ((7, 118), (1, 59, 1, 0), (3, 209), 0), ((7, 121), (1, 60, 1, 0), (3, 219), 0), ((7, 124), (1, 61, 0, 0), (3, 224), 0)]
def jmK_7_6 : List jmQ := [((7, 130), (1, 62, 1, 0), (3, 228), 0), ((7, 133), (1, 66, 2, 0), (4, 5), 0), ((7, 320), (1, 38, 2, 0), (4, 9), 0), ((7, 140), (1, 23, 2, 0), (4, 10), 0), ((7, 143), (1, 69, 1, 0), (4, 19), 0), ((7, 146), (1, 70, 1, 0), (4, 23), 0), ((7, 149), (1, 71, 1, 0), (4, 27), 0), ((7, 155), (1, 76, 1, 0), (4, 47), 0), ((7, 158), (1, 78, 1, 0), (4, 55), 0), ((7, 167), (1, 81, 1, 0), (4, 67), 0), ((7, 211), (1, 82, 1, 0), (4, 71), 0), ((7, 217), (1, 83, 1, 0), (4, 78), 0)]
def jmK_7_7 : List jmQ := [((7, 173), (1, 105, 1, 0), (4, 180), 0), ((7, 179), (1, 108, 1, 0), (4, 192), 0), ((7, 182), (2, 110, 2, 0), (4, 200), 0), ((7, 199), (1, 116, 3, 0), (4, 223), 0), ((7, 203), (1, 118, 1, 0), (4, 234), 0), ((7, 206), (2, 120, 2, 0), (5, 2), 0), ((7, 220), (1, 123, 0, 0), (5, 13), 0), ((7, 324), (1, 124, 1, 0), (5, 17), 0), ((7, 280), (1, 125, 3, 0), (5, 24), 0), ((7, 332), (1, 54, 1, 0), (5, 28), 0), ((7, 335), (1, 126, 0, 0), (5, 29), 0), ((7, 229), (1, 131, 1, 0), (5, 52), 0)]
def jmK_7_8 : List jmQ := [((7, 232), (1, 132, 3, 0), (5, 56), 0), ((7, 235), (1, 133, 3, 0), (5, 68), 0), ((7, 239), (8, 0, 0, 65537), (5, 73), 0), ((7, 246), (1, 137, 2, 0), (5, 78), 0), ((7, 252), (1, 85, 1, 0), (5, 89), 0), ((7, 254), (1, 141, 1, 0), (5, 94), 0), ((7, 260), (1, 87, 2, 0), (5, 106), 0), ((7, 264), (1, 57, 2, 0), (5, 107), 0), ((7, 267), (1, 145, 1, 0), (5, 112), 0), ((7, 270), (1, 148, 1, 0), (5, 125), 0), ((7, 273), (1, 153, 1, 0), (5, 145), 0), ((7, 276), (1, 154, 0, 0), (5, 149), 0)]
def jmK_7_9 : List jmQ := [((7, 284), (1, 100, 1, 0), (5, 161), 0), ((7, 287), (1, 160, 1, 0), (5, 174), 0), ((7, 291), (1, 149, 0, 0), (5, 186), 0), ((7, 294), (1, 163, 0, 0), (5, 187), 0), ((7, 295), (1, 161, 2, 0), (5, 195), 0), ((7, 312), (1, 168, 1, 0), (5, 208), 0), ((7, 315), (1, 169, 1, 0), (5, 212), 0), ((7, 305), (14, 0, 0, 0), (5, 228), 0)]
def jmK_7 : List jmQ := jmK_7_0 ++ (jmK_7_1 ++ (jmK_7_2 ++ (jmK_7_3 ++ (jmK_7_4 ++ (jmK_7_5 ++ (jmK_7_6 ++ (jmK_7_7 ++ (jmK_7_8 ++ (jmK_7_9)))))))))
def jmK_8_0 : List jmQ := [((8, 3), (4, 0, 0, 0), (6, 201), 0), ((8, 74), (0, 8, 0, 0), (6, 202), 0), ((8, 77), (0, 8, 1, 0), (6, 204), 0), ((8, 9), (0, 8, 7, 0), (6, 211), 0), ((8, 15), (0, 8, 10, 0), (6, 214), 0), ((8, 18), (0, 8, 12, 0), (6, 217), 0), ((8, 21), (0, 8, 13, 0), (6, 219), 0), ((8, 24), (0, 8, 17, 1), (6, 224), 0), ((8, 28), (0, 8, 18, 1), (6, 226), 0), ((8, 31), (0, 8, 19, 1), (6, 228), 0), ((8, 34), (0, 8, 20, 1), (6, 230), 0), ((8, 37), (0, 8, 21, 1), (6, 232), 0)]
def jmK_8_1 : List jmQ := [((8, 40), (0, 8, 22, 1), (6, 234), 0), ((8, 43), (0, 8, 23, 1), (6, 236), 0), ((8, 46), (0, 8, 24, 1), (6, 238), 0), ((8, 49), (0, 8, 25, 1), (7, 0), 0), ((8, 52), (0, 8, 26, 1), (7, 2), 0), ((8, 55), (0, 8, 27, 1), (7, 4), 0), ((8, 58), (0, 8, 28, 1), (7, 6), 0), ((8, 61), (0, 8, 29, 1), (7, 8), 0), ((8, 64), (0, 8, 30, 1), (7, 10), 0), ((8, 67), (0, 8, 31, 1), (7, 12), 0), ((8, 70), (0, 8, 32, 1), (7, 14), 0), ((8, 80), (1, 210, 0, 0), (8, 8), 0)]
def jmK_8_2 : List jmQ := [((8, 84), (1, 209, 2, 0), (8, 191), 0)]
def jmK_8 : List jmQ := jmK_8_0 ++ (jmK_8_1 ++ (jmK_8_2))
def jmK_9_0 : List jmQ := [((9, 3), (4, 0, 0, 0), (6, 58), 0), ((9, 54), (0, 9, 0, 0), (6, 59), 0), ((9, 57), (0, 9, 1, 0), (6, 60), 0), ((9, 9), (0, 9, 2, 0), (6, 61), 0), ((9, 389), (0, 9, 3, 0), (6, 62), 0), ((9, 150), (0, 9, 4, 0), (6, 63), 0), ((9, 13), (0, 9, 5, 1), (6, 64), 0), ((9, 382), (0, 9, 6, 0), (6, 65), 0), ((9, 67), (0, 9, 7, 0), (6, 66), 0), ((9, 85), (0, 9, 8, 0), (6, 67), 0), ((9, 82), (0, 9, 9, 0), (6, 68), 0), ((9, 91), (0, 9, 10, 0), (6, 69), 0)]
def jmK_9_1 : List jmQ := [((9, 94), (0, 9, 11, 0), (6, 70), 0), ((9, 111), (0, 9, 12, 0), (6, 71), 0), ((9, 105), (0, 9, 13, 0), (6, 72), 0), ((9, 114), (0, 9, 14, 0), (6, 73), 0), ((9, 117), (0, 9, 15, 0), (6, 74), 0), ((9, 17), (0, 9, 16, 1), (6, 75), 0), ((9, 101), (0, 9, 17, 0), (6, 76), 0), ((9, 21), (0, 9, 18, 1), (6, 77), 0), ((9, 24), (0, 9, 19, 1), (6, 78), 0), ((9, 27), (0, 9, 20, 1), (6, 79), 0), ((9, 30), (0, 9, 21, 1), (6, 80), 0), ((9, 395), (0, 9, 22, 0), (6, 81), 0)]
def jmK_9_2 : List jmQ := [((9, 398), (0, 9, 23, 0), (6, 82), 0), ((9, 33), (0, 9, 24, 1), (6, 83), 0), ((9, 36), (0, 9, 25, 1), (6, 84), 0), ((9, 480), (0, 9, 26, 0), (6, 85), 0), ((9, 446), (0, 9, 27, 0), (6, 86), 0), ((9, 39), (0, 9, 28, 1), (6, 87), 0), ((9, 42), (0, 9, 29, 1), (6, 88), 0), ((9, 474), (0, 9, 30, 0), (6, 89), 0), ((9, 461), (0, 9, 31, 0), (6, 90), 0), ((9, 472), (0, 9, 32, 0), (6, 91), 0), ((9, 526), (0, 9, 33, 0), (6, 92), 0), ((9, 45), (0, 9, 34, 1), (6, 93), 0)]
def jmK_9_3 : List jmQ := [((9, 48), (0, 9, 35, 1), (6, 94), 0), ((9, 51), (0, 9, 36, 1), (6, 95), 0), ((9, 538), (0, 9, 37, 0), (6, 96), 0), ((9, 554), (0, 9, 38, 0), (6, 97), 0), ((9, 551), (0, 9, 39, 0), (6, 98), 0), ((9, 60), (1, 176, 1, 0), (6, 192), 0), ((9, 155), (5, 8, 0, 0), (6, 196), 0), ((9, 385), (3, 177, 0, 0), (6, 198), 2), ((9, 154), (0, 8, 0, 0), (6, 203), 2), ((9, 161), (0, 8, 1, 0), (6, 205), 2), ((9, 268), (0, 8, 2, 0), (6, 206), 2), ((9, 311), (0, 8, 3, 0), (6, 207), 2)]
def jmK_9_4 : List jmQ := [((9, 351), (0, 8, 4, 0), (6, 208), 2), ((9, 206), (0, 8, 5, 0), (6, 209), 2), ((9, 305), (0, 8, 6, 0), (6, 210), 2), ((9, 209), (0, 8, 7, 0), (6, 212), 2), ((9, 370), (0, 8, 8, 0), (6, 213), 2), ((9, 278), (0, 8, 10, 0), (6, 215), 2), ((9, 285), (0, 8, 11, 0), (6, 216), 2), ((9, 287), (0, 8, 12, 0), (6, 218), 2), ((9, 212), (0, 8, 13, 0), (6, 220), 2), ((9, 367), (0, 8, 14, 0), (6, 221), 2), ((9, 263), (0, 8, 15, 0), (6, 222), 2), ((9, 266), (0, 8, 16, 0), (6, 223), 2)]
def jmK_9_5 : List jmQ := [((9, 275), (0, 8, 17, 1), (6, 225), 2), ((9, 335), (0, 8, 18, 1), (6, 227), 2), ((9, 338), (0, 8, 19, 1), (6, 229), 2), ((9, 340), (0, 8, 20, 1), (6, 231), 2), ((9, 343), (0, 8, 21, 1), (6, 233), 2), ((9, 346), (0, 8, 22, 1), (6, 235), 2), ((9, 349), (0, 8, 23, 1), (6, 237), 2), ((9, 354), (0, 8, 24, 1), (6, 239), 2), ((9, 357), (0, 8, 25, 1), (7, 1), 2), ((9, 359), (0, 8, 26, 1), (7, 3), 2), ((9, 289), (0, 8, 27, 1), (7, 5), 2), ((9, 308), (0, 8, 28, 1), (7, 7), 2)]
def jmK_9_6 : List jmQ := [((9, 373), (0, 8, 29, 1), (7, 9), 2), ((9, 376), (0, 8, 30, 1), (7, 11), 2), ((9, 379), (0, 8, 31, 1), (7, 13), 2), ((9, 318), (0, 8, 32, 1), (7, 15), 2), ((9, 124), (1, 178, 0, 0), (7, 84), 0), ((9, 88), (1, 179, 1, 0), (7, 88), 0), ((9, 97), (2, 180, 1, 0), (7, 92), 0), ((9, 76), (9, 0, 0, 32), (7, 95), 0), ((9, 108), (2, 181, 1, 0), (7, 96), 0), ((9, 386), (1, 182, 0, 0), (7, 99), 0), ((9, 200), (1, 183, 0, 0), (7, 103), 0), ((9, 164), (7, 18, 0, 0), (7, 107), 0)]
def jmK_9_7 : List jmQ := [((9, 127), (1, 184, 1, 0), (7, 108), 0), ((9, 120), (2, 185, 1, 0), (7, 112), 0), ((9, 70), (11, 0, 0, 0), (7, 115), 0), ((9, 78), (12, 0, 0, 0), (7, 116), 0), ((9, 215), (1, 186, 0, 0), (7, 117), 0), ((9, 131), (1, 187, 1, 0), (7, 121), 0), ((9, 245), (7, 3, 0, 0), (7, 125), 0), ((9, 246), (1, 188, 3, 0), (7, 126), 0), ((9, 143), (1, 189, 1, 0), (7, 130), 0), ((9, 147), (1, 190, 2, 0), (7, 134), 0), ((9, 139), (1, 191, 2, 0), (7, 138), 0), ((9, 135), (2, 192, 3, 0), (7, 142), 0)]
def jmK_9_8 : List jmQ := [((9, 250), (7, 4, 0, 0), (7, 145), 0), ((9, 251), (7, 5, 0, 0), (7, 146), 0), ((9, 253), (7, 19, 0, 0), (7, 147), 0), ((9, 255), (7, 20, 0, 0), (7, 148), 0), ((9, 257), (7, 7, 0, 0), (7, 149), 0), ((9, 259), (7, 21, 0, 0), (7, 150), 0), ((9, 261), (7, 22, 0, 0), (7, 151), 0), ((9, 166), (7, 23, 0, 0), (7, 152), 0), ((9, 218), (1, 193, 0, 0), (7, 153), 0), ((9, 271), (1, 194, 3, 0), (7, 157), 0), ((9, 168), (7, 24, 0, 0), (7, 161), 0), ((9, 221), (1, 195, 0, 0), (7, 162), 0)]
def jmK_9_9 : List jmQ := [((9, 280), (1, 196, 0, 0), (7, 166), 0), ((9, 158), (1, 197, 1, 0), (7, 170), 0), ((9, 283), (7, 9, 0, 0), (7, 174), 0), ((9, 170), (7, 25, 0, 0), (7, 175), 0), ((9, 224), (1, 198, 0, 0), (7, 176), 0), ((9, 172), (7, 26, 0, 0), (7, 180), 0), ((9, 227), (1, 199, 0, 0), (7, 181), 0), ((9, 203), (1, 200, 1, 0), (7, 185), 0), ((9, 174), (7, 27, 0, 0), (7, 189), 0), ((9, 230), (1, 201, 0, 0), (7, 190), 0), ((9, 292), (7, 28, 0, 0), (7, 194), 0), ((9, 294), (7, 29, 0, 0), (7, 195), 0)]
def jmK_9_10 : List jmQ := [((9, 296), (7, 30, 0, 0), (7, 196), 0), ((9, 298), (7, 31, 0, 0), (7, 197), 0), ((9, 300), (7, 32, 0, 0), (7, 198), 0), ((9, 302), (1, 202, 0, 0), (7, 199), 0), ((9, 184), (7, 33, 0, 0), (7, 203), 0), ((9, 186), (7, 34, 0, 0), (7, 204), 0), ((9, 188), (7, 35, 0, 0), (7, 205), 0), ((9, 190), (7, 36, 0, 0), (7, 206), 0), ((9, 176), (7, 37, 0, 0), (7, 207), 0), ((9, 233), (1, 203, 0, 0), (7, 208), 0), ((9, 314), (1, 204, 0, 0), (7, 212), 0), ((9, 178), (7, 38, 0, 0), (7, 216), 0)]
def jmK_9_11 : List jmQ := [((9, 180), (7, 39, 0, 0), (7, 217), 0), ((9, 182), (7, 40, 0, 0), (7, 218), 0), ((9, 322), (7, 12, 0, 0), (7, 219), 0), ((9, 324), (7, 13, 0, 0), (7, 220), 0), ((9, 326), (1, 205, 0, 0), (7, 221), 0), ((9, 192), (7, 41, 0, 0), (7, 225), 0), ((9, 194), (7, 42, 0, 0), (7, 226), 0), ((9, 196), (7, 43, 0, 0), (7, 227), 0), ((9, 198), (7, 44, 0, 0), (7, 228), 0), ((9, 329), (7, 15, 0, 0), (7, 229), 0), ((9, 331), (7, 16, 0, 0), (7, 230), 0), ((9, 333), (7, 17, 0, 0), (7, 231), 0)]
def jmK_9_12 : List jmQ := [((9, 236), (1, 206, 0, 0), (7, 232), 0), ((9, 239), (1, 207, 0, 0), (7, 236), 0), ((9, 361), (1, 208, 1, 0), (8, 0), 0), ((9, 364), (1, 209, 2, 0), (8, 4), 0), ((9, 242), (1, 211, 0, 0), (8, 12), 0), ((9, 391), (1, 212, 1, 0), (8, 16), 0), ((9, 64), (1, 213, 1, 0), (8, 20), 0), ((9, 508), (1, 217, 2, 0), (8, 36), 0), ((9, 511), (1, 220, 1, 0), (8, 48), 0), ((9, 409), (2, 221, 2, 0), (8, 52), 0), ((9, 458), (2, 222, 2, 0), (8, 55), 0), ((9, 451), (1, 227, 2, 0), (8, 74), 0)]
def jmK_9_13 : List jmQ := [((9, 401), (1, 228, 2, 0), (8, 78), 0), ((9, 514), (1, 230, 1, 0), (8, 86), 0), ((9, 477), (2, 232, 1, 0), (8, 94), 0), ((9, 517), (1, 234, 1, 0), (8, 101), 0), ((9, 520), (1, 235, 1, 0), (8, 105), 0), ((9, 498), (1, 236, 0, 0), (8, 109), 0), ((9, 501), (1, 237, 0, 0), (8, 113), 0), ((9, 504), (1, 238, 2, 0), (8, 117), 0), ((9, 483), (1, 239, 2, 0), (8, 121), 0), ((9, 449), (1, 240, 1, 0), (8, 125), 0), ((9, 416), (1, 241, 5, 0), (8, 129), 0), ((9, 430), (1, 242, 2, 0), (8, 133), 0)]
def jmK_9_14 : List jmQ := [((9, 405), (2, 243, 3, 0), (8, 137), 0), ((9, 412), (2, 244, 2, 0), (8, 140), 0), ((9, 420), (1, 245, 1, 0), (8, 143), 0), ((9, 439), (2, 246, 1, 0), (8, 147), 0), ((9, 433), (9, 0, 0, 75), (8, 150), 0), ((9, 435), (9, 0, 0, 74), (8, 151), 0), ((9, 437), (9, 0, 0, 65537), (8, 152), 0), ((9, 424), (1, 247, 1, 0), (8, 153), 0), ((9, 442), (1, 248, 2, 0), (8, 157), 0), ((9, 427), (1, 249, 1, 0), (8, 161), 0), ((9, 486), (1, 250, 2, 0), (8, 165), 0), ((9, 489), (1, 251, 1, 0), (8, 169), 0)]
def jmK_9_15 : List jmQ := [((9, 492), (1, 252, 1, 0), (8, 173), 0), ((9, 464), (2, 253, 2, 0), (8, 177), 0), ((9, 454), (2, 254, 3, 0), (8, 180), 0), ((9, 495), (1, 255, 2, 0), (8, 183), 0), ((9, 468), (1, 256, 2, 0), (8, 187), 0), ((9, 523), (2, 258, 2, 0), (8, 196), 0), ((9, 529), (1, 263, 1, 0), (8, 215), 0), ((9, 532), (1, 268, 1, 0), (8, 235), 0), ((9, 535), (1, 269, 1, 0), (8, 239), 0), ((9, 548), (1, 273, 0, 0), (9, 15), 0), ((9, 541), (1, 274, 1, 0), (9, 19), 0), ((9, 544), (1, 275, 2, 0), (9, 23), 0)]
def jmK_9_16 : List jmQ := [((9, 557), (1, 279, 1, 0), (9, 39), 0), ((9, 560), (1, 280, 1, 0), (9, 43), 0), ((9, 563), (8, 0, 0, 65536), (9, 55), 0), ((9, 564), (8, 0, 0, 65537), (9, 56), 0), ((9, 567), (1, 284, 2, 0), (9, 61), 0), ((9, 565), (1, 285, 2, 0), (9, 65), 0), ((9, 570), (1, 288, 0, 0), (9, 77), 0), ((9, 573), (1, 289, 1, 0), (9, 81), 0), ((9, 576), (1, 210, 0, 0), (9, 89), 0), ((9, 579), (1, 293, 1, 0), (9, 98), 0), ((9, 582), (1, 295, 0, 0), (9, 106), 0), ((9, 585), (1, 297, 1, 0), (9, 114), 0)]
def jmK_9_17 : List jmQ := [((9, 588), (1, 298, 0, 0), (9, 118), 0), ((9, 591), (1, 300, 3, 0), (9, 126), 0)]
def jmK_9 : List jmQ := jmK_9_0 ++ (jmK_9_1 ++ (jmK_9_2 ++ (jmK_9_3 ++ (jmK_9_4 ++ (jmK_9_5 ++ (jmK_9_6 ++ (jmK_9_7 ++ (jmK_9_8 ++ (jmK_9_9 ++ (jmK_9_10 ++ (jmK_9_11 ++ (jmK_9_12 ++ (jmK_9_13 ++ (jmK_9_14 ++ (jmK_9_15 ++ (jmK_9_16 ++ (jmK_9_17)))))))))))))))))
def jmK_10_0 : List jmQ := [((10, 8), (5, 7, 0, 0), (1, 22), 0), ((10, 15), (3, 0, 0, 0), (1, 24), 0), ((10, 19), (1, 11, 5, 0), (2, 177), 0), ((10, 24), (1, 18, 1, 0), (2, 205), 0), ((10, 28), (1, 63, 0, 0), (3, 233), 0), ((10, 33), (1, 64, 0, 0), (3, 237), 0), ((10, 37), (1, 65, 2, 0), (4, 1), 0), ((10, 42), (1, 67, 0, 0), (4, 11), 0), ((10, 46), (1, 68, 2, 0), (4, 15), 0), ((10, 50), (1, 72, 2, 0), (4, 31), 0), ((10, 54), (1, 73, 1, 0), (4, 35), 0), ((10, 58), (1, 74, 0, 0), (4, 39), 0)]
def jmK_10_1 : List jmQ := [((10, 62), (1, 75, 0, 0), (4, 43), 0), ((10, 66), (1, 77, 1, 0), (4, 51), 0), ((10, 70), (1, 79, 0, 0), (4, 59), 0), ((10, 74), (1, 80, 1, 0), (4, 63), 0), ((10, 78), (1, 104, 2, 0), (4, 176), 0), ((10, 82), (1, 106, 2, 0), (4, 184), 0), ((10, 86), (1, 107, 1, 0), (4, 188), 0), ((10, 90), (1, 109, 1, 0), (4, 196), 0), ((10, 94), (1, 111, 1, 0), (4, 203), 0), ((10, 98), (1, 112, 1, 0), (4, 207), 0), ((10, 102), (1, 113, 1, 0), (4, 211), 0), ((10, 106), (1, 114, 1, 0), (4, 215), 0)]
def jmK_10_2 : List jmQ := [((10, 110), (1, 115, 2, 0), (4, 219), 0), ((10, 114), (1, 119, 2, 0), (4, 238), 0), ((10, 118), (1, 121, 0, 0), (5, 5), 0), ((10, 122), (1, 122, 0, 0), (5, 9), 0), ((10, 126), (1, 128, 1, 0), (5, 40), 0), ((10, 130), (1, 129, 1, 0), (5, 44), 0), ((10, 134), (1, 130, 1, 0), (5, 48), 0), ((10, 138), (1, 134, 2, 0), (5, 64), 0), ((10, 142), (1, 135, 3, 0), (5, 69), 0), ((10, 147), (1, 136, 2, 0), (5, 74), 0), ((10, 151), (1, 139, 0, 0), (5, 85), 0), ((10, 155), (1, 140, 0, 0), (5, 90), 0)]
def jmK_10_3 : List jmQ := [((10, 159), (1, 142, 0, 0), (5, 98), 0), ((10, 163), (1, 143, 0, 0), (5, 102), 0), ((10, 167), (1, 144, 0, 0), (5, 108), 0), ((10, 171), (1, 147, 1, 0), (5, 121), 0), ((10, 175), (1, 152, 1, 0), (5, 141), 0), ((10, 180), (1, 155, 2, 0), (5, 153), 0), ((10, 185), (1, 156, 1, 0), (5, 157), 0), ((10, 189), (1, 157, 2, 0), (5, 162), 0), ((10, 193), (1, 158, 1, 0), (5, 166), 0), ((10, 197), (1, 159, 0, 0), (5, 170), 0), ((10, 202), (1, 162, 0, 0), (5, 182), 0), ((10, 206), (1, 164, 1, 0), (5, 191), 0)]
def jmK_10_4 : List jmQ := [((10, 210), (1, 165, 2, 0), (5, 196), 0), ((10, 214), (1, 166, 1, 0), (5, 200), 0), ((10, 227), (1, 167, 1, 0), (5, 204), 0), ((10, 231), (1, 170, 0, 0), (5, 216), 0), ((10, 218), (16, 0, 0, 0), (5, 220), 0), ((10, 7), (1, 171, 1, 0), (5, 224), 0), ((10, 16), (5, 9, 0, 0), (6, 53), 0), ((10, 18), (3, 172, 0, 0), (6, 55), 0), ((10, 224), (1, 173, 0, 0), (6, 180), 0), ((10, 23), (1, 174, 5, 0), (6, 184), 0), ((10, 27), (1, 175, 1, 0), (6, 188), 0), ((10, 32), (1, 214, 0, 0), (8, 24), 0)]
def jmK_10_5 : List jmQ := [((10, 36), (1, 215, 0, 0), (8, 28), 0), ((10, 41), (1, 216, 2, 0), (8, 32), 0), ((10, 45), (1, 218, 0, 0), (8, 40), 0), ((10, 49), (1, 219, 2, 0), (8, 44), 0), ((10, 53), (1, 223, 2, 0), (8, 58), 0), ((10, 57), (1, 224, 1, 0), (8, 62), 0), ((10, 61), (1, 225, 0, 0), (8, 66), 0), ((10, 65), (1, 226, 0, 0), (8, 70), 0), ((10, 69), (1, 229, 1, 0), (8, 82), 0), ((10, 73), (1, 231, 0, 0), (8, 90), 0), ((10, 77), (1, 233, 1, 0), (8, 97), 0), ((10, 81), (1, 257, 2, 0), (8, 192), 0)]
def jmK_10_6 : List jmQ := [((10, 85), (1, 259, 2, 0), (8, 199), 0), ((10, 89), (1, 260, 1, 0), (8, 203), 0), ((10, 93), (1, 261, 1, 0), (8, 207), 0), ((10, 97), (1, 262, 1, 0), (8, 211), 0), ((10, 101), (1, 264, 1, 0), (8, 219), 0), ((10, 105), (1, 265, 1, 0), (8, 223), 0), ((10, 109), (1, 266, 1, 0), (8, 227), 0), ((10, 113), (1, 267, 2, 0), (8, 231), 0), ((10, 117), (1, 270, 2, 0), (9, 3), 0), ((10, 121), (1, 271, 0, 0), (9, 7), 0), ((10, 125), (1, 272, 0, 0), (9, 11), 0), ((10, 129), (1, 276, 1, 0), (9, 27), 0)]
def jmK_10_7 : List jmQ := [((10, 133), (1, 277, 1, 0), (9, 31), 0), ((10, 137), (1, 278, 1, 0), (9, 35), 0), ((10, 141), (1, 281, 2, 0), (9, 47), 0), ((10, 146), (1, 282, 3, 0), (9, 51), 0), ((10, 150), (1, 283, 2, 0), (9, 57), 0), ((10, 154), (1, 286, 0, 0), (9, 69), 0), ((10, 158), (1, 287, 0, 0), (9, 73), 0), ((10, 162), (1, 290, 0, 0), (9, 85), 0), ((10, 166), (1, 291, 0, 0), (9, 90), 0), ((10, 170), (1, 292, 0, 0), (9, 94), 0), ((10, 174), (1, 294, 1, 0), (9, 102), 0), ((10, 179), (1, 296, 1, 0), (9, 110), 0)]
def jmK_10_8 : List jmQ := [((10, 184), (1, 299, 2, 0), (9, 122), 0), ((10, 188), (1, 301, 1, 0), (9, 130), 0), ((10, 192), (1, 302, 2, 0), (9, 134), 0), ((10, 196), (1, 303, 1, 0), (9, 138), 0), ((10, 201), (1, 304, 0, 0), (9, 142), 0), ((10, 205), (1, 305, 0, 0), (9, 146), 0), ((10, 209), (1, 306, 1, 0), (9, 150), 0), ((10, 213), (1, 307, 2, 0), (9, 154), 0), ((10, 217), (1, 308, 1, 0), (9, 158), 0), ((10, 223), (1, 309, 1, 0), (9, 162), 0), ((10, 230), (1, 310, 1, 0), (9, 166), 0), ((10, 234), (1, 311, 0, 0), (9, 170), 0)]
def jmK_10 : List jmQ := jmK_10_0 ++ (jmK_10_1 ++ (jmK_10_2 ++ (jmK_10_3 ++ (jmK_10_4 ++ (jmK_10_5 ++ (jmK_10_6 ++ (jmK_10_7 ++ (jmK_10_8))))))))
def jmK_11_0 : List jmQ := []
def jmK_11 : List jmQ := jmK_11_0
def jmK_12_0 : List jmQ := []
def jmK_12 : List jmQ := jmK_12_0
def jmK : List (List jmQ) := [jmK_0, jmK_1, jmK_2, jmK_3, jmK_4, jmK_5, jmK_6, jmK_7, jmK_8, jmK_9, jmK_10, jmK_11, jmK_12]
def jm_rw (i : Nat) : jmQT := jmT.getD i (x, code, 7, some .boolean, 10, 3, 0, 0, 1)
def jm_y (i : Nat) : MethodName := (jm_rw i).1
def jm_b (i : Nat) : ByteArray := (jm_rw i).2.1
def jm_m (i : Nat) : Nat := (jm_rw i).2.2.1
def jm_r (i : Nat) : Option FieldType := (jm_rw i).2.2.2.1
def jm_o (i : Nat) : Nat := (jm_rw i).2.2.2.2.1
def jm_k (i : Nat) : Nat := (jm_rw i).2.2.2.2.2.1
def jm_f (i : Nat) : Nat := (jm_rw i).2.2.2.2.2.2.1
def jm_l (i : Nat) : Nat := (jm_rw i).2.2.2.2.2.2.2.1
def jm_a (i : Nat) : Nat := (jm_rw i).2.2.2.2.2.2.2.2
def jm_fq (o idx : Nat) : Option jmQ := (jmK.getD o []).find? (fun q => q.1.2 == idx && q.1.1 == o)
def jm_lk (o idx : Nat) : Nat × Nat × Nat × Int := match jm_fq o idx with
  | some q => q.2.1
  | none => (99, 0, 0, 0)
def jm_host (z : Nat) : String := if z = 1 then RX7 else RX9
def jm_lw (q : jmQ) : Cond := match q.2.1.1 with
  | 0 => if q.2.2.2 = 0 then .fieldLink (jm_own q.1.1) q.1.2 (jm_T q.2.1.2.1 q.2.1.2.2.1).1 (jm_T q.2.1.2.1 q.2.1.2.2.1).2.1 (jm_T q.2.1.2.1 q.2.1.2.2.1).2.2.1 else .fieldLinkNest (jm_own q.1.1) q.1.2 (jm_T q.2.1.2.1 q.2.1.2.2.1).1 (jm_T q.2.1.2.1 q.2.1.2.2.1).2.1 (jm_T q.2.1.2.1 q.2.1.2.2.1).2.2.1 (jm_host q.2.2.2)
  | 1 => .methodLink (jm_own q.1.1) q.1.2 (jm_y q.2.1.2.1)
  | 2 => .methodLink (jm_own q.1.1) q.1.2 (jm_y q.2.1.2.1)
  | 3 => if q.2.2.2 = 0 then .methodLink (jm_own q.1.1) q.1.2 (jm_y q.2.1.2.1) else .methodLinkNest (jm_own q.1.1) q.1.2 (jm_y q.2.1.2.1) (jm_host q.2.2.2)
  | 4 => .methodLink (jm_own q.1.1) q.1.2 objectInit
  | 5 => .classLink (jm_own q.1.1) q.1.2 (jm_own q.2.1.2.1)
  | 7 => .stringRef (jm_own q.1.1) q.1.2 (jmTx.getD (q.2.1.2.1 - 2) "")
  | 8 => .constant (jm_own q.1.1) q.1.2 (Int32.ofInt q.2.1.2.2.2)
  | 9 => .constantLong (jm_own q.1.1) q.1.2 (Int64.ofInt q.2.1.2.2.2)
  | 10 => .fieldLink (jm_own q.1.1) q.1.2 RX0 "TURNS" "[I"
  | 11 => .methodLink (jm_own q.1.1) q.1.2 ⟨"java/lang/String", "length", "()I"⟩
  | 12 => .methodLink (jm_own q.1.1) q.1.2 ⟨"java/lang/String", "charAt", "(I)C"⟩
  | 13 => .methodLink (jm_own q.1.1) q.1.2 arraycopyName
  | 16 => .methodLink (jm_own q.1.1) q.1.2 yL_led
  | _ => .classLink (jm_own q.1.1) q.1.2 "java/util/NoSuchElementException"
def jm_tb (c : Nat) : List Cond := match c with
  | 0 => k2_sels lw_privs
  | 1 => tables_1_1
  | 2 => tables_1_2
  | 3 => tables_1_3
  | 4 => tables_1_4
  | 5 => tables_1_5
  | 6 => tables_1_6
  | 7 => tables_1_7
  | 8 => tables_1_8
  | _ => tables_1_9
def jm_qok (q : jmQ) : Bool := decide ((jm_tb q.2.2.1.1)[q.2.2.1.2]? = some (jm_lw q))
def jm_at (p : Nat × Nat) (w : Cond) : Bool := decide ((jm_tb p.1)[p.2]? = some w)
def jm_tok (q : jmQT) (p : (Nat × Nat) × (Nat × Nat) × (Nat × Nat) × Nat × Nat) : Bool := match q.2.2.2.2.2.1 with
  | 0 => jm_at p.1 (.code q.1 q.2.1 q.2.2.1 q.2.2.2.1) && jm_at p.2.1 (.initialized q.1.cls) && jm_at p.2.2.1 (.instanceMethod q.1) && jm_at p.2.2.2 (.selects q.1.cls q.1 q.1) && decide (q.1.cls = jm_own q.2.2.2.2.1)
  | 1 => jm_at p.1 (.code q.1 q.2.1 q.2.2.1 q.2.2.2.1) && jm_at p.2.1 (.initialized q.1.cls) && jm_at p.2.2.1 (.static q.1) && decide (q.1.cls = jm_own q.2.2.2.2.1)
  | 2 => jm_at p.1 (.code q.1 q.2.1 q.2.2.1 q.2.2.2.1) && jm_at p.2.1 (.initialized q.1.cls) && jm_at p.2.2.1 (.instanceMethod q.1) && decide (q.1.name = "<init>") && decide (q.1.cls = jm_own q.2.2.2.2.1)
  | _ => true
set_option maxRecDepth 100000 in
theorem jm_q_0_0 : jmK_0_0.all jm_qok = true := by decide +kernel
set_option maxRecDepth 100000 in
theorem jm_q_0_1 : jmK_0_1.all jm_qok = true := by decide +kernel
set_option maxRecDepth 100000 in
theorem jm_q_0_2 : jmK_0_2.all jm_qok = true := by decide +kernel
set_option maxRecDepth 100000 in
theorem jm_q_0_3 : jmK_0_3.all jm_qok = true := by decide +kernel
set_option maxRecDepth 100000 in
theorem jm_q_0_4 : jmK_0_4.all jm_qok = true := by decide +kernel
set_option maxRecDepth 100000 in
theorem jm_q_0_5 : jmK_0_5.all jm_qok = true := by decide +kernel
set_option maxRecDepth 100000 in
theorem jm_q_0_6 : jmK_0_6.all jm_qok = true := by decide +kernel
theorem jm_q_0 : jmK_0.all jm_qok = true := by simp only [jmK_0, List.all_append, jm_q_0_0, jm_q_0_1, jm_q_0_2, jm_q_0_3, jm_q_0_4, jm_q_0_5, jm_q_0_6, Bool.and_self]
set_option maxRecDepth 100000 in
theorem jm_q_1_0 : jmK_1_0.all jm_qok = true := by decide +kernel
set_option maxRecDepth 100000 in
theorem jm_q_1_1 : jmK_1_1.all jm_qok = true := by decide +kernel
set_option maxRecDepth 100000 in
theorem jm_q_1_2 : jmK_1_2.all jm_qok = true := by decide +kernel
theorem jm_q_1 : jmK_1.all jm_qok = true := by simp only [jmK_1, List.all_append, jm_q_1_0, jm_q_1_1, jm_q_1_2, Bool.and_self]
set_option maxRecDepth 100000 in
theorem jm_q_2_0 : jmK_2_0.all jm_qok = true := by decide +kernel
theorem jm_q_2 : jmK_2.all jm_qok = true := by simp only [jmK_2, List.all_append, jm_q_2_0, Bool.and_self]
set_option maxRecDepth 100000 in
theorem jm_q_3_0 : jmK_3_0.all jm_qok = true := by decide +kernel
set_option maxRecDepth 100000 in
theorem jm_q_3_1 : jmK_3_1.all jm_qok = true := by decide +kernel
set_option maxRecDepth 100000 in
theorem jm_q_3_2 : jmK_3_2.all jm_qok = true := by decide +kernel
set_option maxRecDepth 100000 in
theorem jm_q_3_3 : jmK_3_3.all jm_qok = true := by decide +kernel
set_option maxRecDepth 100000 in
theorem jm_q_3_4 : jmK_3_4.all jm_qok = true := by decide +kernel
set_option maxRecDepth 100000 in
theorem jm_q_3_5 : jmK_3_5.all jm_qok = true := by decide +kernel
set_option maxRecDepth 100000 in
theorem jm_q_3_6 : jmK_3_6.all jm_qok = true := by decide +kernel
set_option maxRecDepth 100000 in
theorem jm_q_3_7 : jmK_3_7.all jm_qok = true := by decide +kernel
theorem jm_q_3 : jmK_3.all jm_qok = true := by simp only [jmK_3, List.all_append, jm_q_3_0, jm_q_3_1, jm_q_3_2, jm_q_3_3, jm_q_3_4, jm_q_3_5, jm_q_3_6, jm_q_3_7, Bool.and_self]
set_option maxRecDepth 100000 in
theorem jm_q_4_0 : jmK_4_0.all jm_qok = true := by decide +kernel
set_option maxRecDepth 100000 in
theorem jm_q_4_1 : jmK_4_1.all jm_qok = true := by decide +kernel
set_option maxRecDepth 100000 in
theorem jm_q_4_2 : jmK_4_2.all jm_qok = true := by decide +kernel
theorem jm_q_4 : jmK_4.all jm_qok = true := by simp only [jmK_4, List.all_append, jm_q_4_0, jm_q_4_1, jm_q_4_2, Bool.and_self]
set_option maxRecDepth 100000 in
theorem jm_q_5_0 : jmK_5_0.all jm_qok = true := by decide +kernel
theorem jm_q_5 : jmK_5.all jm_qok = true := by simp only [jmK_5, List.all_append, jm_q_5_0, Bool.and_self]
set_option maxRecDepth 100000 in
theorem jm_q_6_0 : jmK_6_0.all jm_qok = true := by decide +kernel
theorem jm_q_6 : jmK_6.all jm_qok = true := by simp only [jmK_6, List.all_append, jm_q_6_0, Bool.and_self]
set_option maxRecDepth 100000 in
theorem jm_q_7_0 : jmK_7_0.all jm_qok = true := by decide +kernel
set_option maxRecDepth 100000 in
theorem jm_q_7_1 : jmK_7_1.all jm_qok = true := by decide +kernel
set_option maxRecDepth 100000 in
theorem jm_q_7_2 : jmK_7_2.all jm_qok = true := by decide +kernel
set_option maxRecDepth 100000 in
theorem jm_q_7_3 : jmK_7_3.all jm_qok = true := by decide +kernel
set_option maxRecDepth 100000 in
theorem jm_q_7_4 : jmK_7_4.all jm_qok = true := by decide +kernel
set_option maxRecDepth 100000 in
theorem jm_q_7_5 : jmK_7_5.all jm_qok = true := by decide +kernel
set_option maxRecDepth 100000 in
theorem jm_q_7_6 : jmK_7_6.all jm_qok = true := by decide +kernel
set_option maxRecDepth 100000 in
theorem jm_q_7_7 : jmK_7_7.all jm_qok = true := by decide +kernel
set_option maxRecDepth 100000 in
theorem jm_q_7_8 : jmK_7_8.all jm_qok = true := by decide +kernel
set_option maxRecDepth 100000 in
theorem jm_q_7_9 : jmK_7_9.all jm_qok = true := by decide +kernel
theorem jm_q_7 : jmK_7.all jm_qok = true := by simp only [jmK_7, List.all_append, jm_q_7_0, jm_q_7_1, jm_q_7_2, jm_q_7_3, jm_q_7_4, jm_q_7_5, jm_q_7_6, jm_q_7_7, jm_q_7_8, jm_q_7_9, Bool.and_self]
set_option maxRecDepth 100000 in
theorem jm_q_8_0 : jmK_8_0.all jm_qok = true := by decide +kernel
set_option maxRecDepth 100000 in
theorem jm_q_8_1 : jmK_8_1.all jm_qok = true := by decide +kernel
set_option maxRecDepth 100000 in
theorem jm_q_8_2 : jmK_8_2.all jm_qok = true := by decide +kernel
theorem jm_q_8 : jmK_8.all jm_qok = true := by simp only [jmK_8, List.all_append, jm_q_8_0, jm_q_8_1, jm_q_8_2, Bool.and_self]
set_option maxRecDepth 100000 in
theorem jm_q_9_0 : jmK_9_0.all jm_qok = true := by decide +kernel
set_option maxRecDepth 100000 in
theorem jm_q_9_1 : jmK_9_1.all jm_qok = true := by decide +kernel
set_option maxRecDepth 100000 in
theorem jm_q_9_2 : jmK_9_2.all jm_qok = true := by decide +kernel
set_option maxRecDepth 100000 in
theorem jm_q_9_3 : jmK_9_3.all jm_qok = true := by decide +kernel
set_option maxRecDepth 100000 in
theorem jm_q_9_4 : jmK_9_4.all jm_qok = true := by decide +kernel
set_option maxRecDepth 100000 in
theorem jm_q_9_5 : jmK_9_5.all jm_qok = true := by decide +kernel
set_option maxRecDepth 100000 in
theorem jm_q_9_6 : jmK_9_6.all jm_qok = true := by decide +kernel
set_option maxRecDepth 100000 in
theorem jm_q_9_7 : jmK_9_7.all jm_qok = true := by decide +kernel
set_option maxRecDepth 100000 in
theorem jm_q_9_8 : jmK_9_8.all jm_qok = true := by decide +kernel
set_option maxRecDepth 100000 in
theorem jm_q_9_9 : jmK_9_9.all jm_qok = true := by decide +kernel
set_option maxRecDepth 100000 in
theorem jm_q_9_10 : jmK_9_10.all jm_qok = true := by decide +kernel
set_option maxRecDepth 100000 in
theorem jm_q_9_11 : jmK_9_11.all jm_qok = true := by decide +kernel
set_option maxRecDepth 100000 in
theorem jm_q_9_12 : jmK_9_12.all jm_qok = true := by decide +kernel
set_option maxRecDepth 100000 in
theorem jm_q_9_13 : jmK_9_13.all jm_qok = true := by decide +kernel
set_option maxRecDepth 100000 in
theorem jm_q_9_14 : jmK_9_14.all jm_qok = true := by decide +kernel
set_option maxRecDepth 100000 in
theorem jm_q_9_15 : jmK_9_15.all jm_qok = true := by decide +kernel
set_option maxRecDepth 100000 in
theorem jm_q_9_16 : jmK_9_16.all jm_qok = true := by decide +kernel
set_option maxRecDepth 100000 in
theorem jm_q_9_17 : jmK_9_17.all jm_qok = true := by decide +kernel
theorem jm_q_9 : jmK_9.all jm_qok = true := by simp only [jmK_9, List.all_append, jm_q_9_0, jm_q_9_1, jm_q_9_2, jm_q_9_3, jm_q_9_4, jm_q_9_5, jm_q_9_6, jm_q_9_7, jm_q_9_8, jm_q_9_9, jm_q_9_10, jm_q_9_11, jm_q_9_12, jm_q_9_13, jm_q_9_14, jm_q_9_15, jm_q_9_16, jm_q_9_17, Bool.and_self]
set_option maxRecDepth 100000 in
theorem jm_q_10_0 : jmK_10_0.all jm_qok = true := by decide +kernel
set_option maxRecDepth 100000 in
theorem jm_q_10_1 : jmK_10_1.all jm_qok = true := by decide +kernel
set_option maxRecDepth 100000 in
theorem jm_q_10_2 : jmK_10_2.all jm_qok = true := by decide +kernel
set_option maxRecDepth 100000 in
theorem jm_q_10_3 : jmK_10_3.all jm_qok = true := by decide +kernel
set_option maxRecDepth 100000 in
theorem jm_q_10_4 : jmK_10_4.all jm_qok = true := by decide +kernel
set_option maxRecDepth 100000 in
theorem jm_q_10_5 : jmK_10_5.all jm_qok = true := by decide +kernel
set_option maxRecDepth 100000 in
theorem jm_q_10_6 : jmK_10_6.all jm_qok = true := by decide +kernel
set_option maxRecDepth 100000 in
theorem jm_q_10_7 : jmK_10_7.all jm_qok = true := by decide +kernel
set_option maxRecDepth 100000 in
theorem jm_q_10_8 : jmK_10_8.all jm_qok = true := by decide +kernel
theorem jm_q_10 : jmK_10.all jm_qok = true := by simp only [jmK_10, List.all_append, jm_q_10_0, jm_q_10_1, jm_q_10_2, jm_q_10_3, jm_q_10_4, jm_q_10_5, jm_q_10_6, jm_q_10_7, jm_q_10_8, Bool.and_self]
set_option maxRecDepth 100000 in
theorem jm_q_11_0 : jmK_11_0.all jm_qok = true := by decide +kernel
theorem jm_q_11 : jmK_11.all jm_qok = true := by simp only [jmK_11, List.all_append, jm_q_11_0, Bool.and_self]
set_option maxRecDepth 100000 in
theorem jm_q_12_0 : jmK_12_0.all jm_qok = true := by decide +kernel
theorem jm_q_12 : jmK_12.all jm_qok = true := by simp only [jmK_12, List.all_append, jm_q_12_0, Bool.and_self]
set_option maxRecDepth 100000 in
theorem jm_t_0 : (jmT_0.zip jmTp_0).all (fun q => jm_tok q.1 q.2) = true := by decide +kernel
set_option maxRecDepth 100000 in
theorem jm_t_1 : (jmT_1.zip jmTp_1).all (fun q => jm_tok q.1 q.2) = true := by decide +kernel
set_option maxRecDepth 100000 in
theorem jm_t_2 : (jmT_2.zip jmTp_2).all (fun q => jm_tok q.1 q.2) = true := by decide +kernel
set_option maxRecDepth 100000 in
theorem jm_t_3 : (jmT_3.zip jmTp_3).all (fun q => jm_tok q.1 q.2) = true := by decide +kernel
set_option maxRecDepth 100000 in
theorem jm_t_4 : (jmT_4.zip jmTp_4).all (fun q => jm_tok q.1 q.2) = true := by decide +kernel
set_option maxRecDepth 100000 in
theorem jm_t_5 : (jmT_5.zip jmTp_5).all (fun q => jm_tok q.1 q.2) = true := by decide +kernel
set_option maxRecDepth 100000 in
theorem jm_t_6 : (jmT_6.zip jmTp_6).all (fun q => jm_tok q.1 q.2) = true := by decide +kernel
set_option maxRecDepth 100000 in
theorem jm_t_7 : (jmT_7.zip jmTp_7).all (fun q => jm_tok q.1 q.2) = true := by decide +kernel
set_option maxRecDepth 100000 in
theorem jm_t_8 : (jmT_8.zip jmTp_8).all (fun q => jm_tok q.1 q.2) = true := by decide +kernel
set_option maxRecDepth 100000 in
theorem jm_t_9 : (jmT_9.zip jmTp_9).all (fun q => jm_tok q.1 q.2) = true := by decide +kernel
set_option maxRecDepth 100000 in
theorem jm_t_10 : (jmT_10.zip jmTp_10).all (fun q => jm_tok q.1 q.2) = true := by decide +kernel
set_option maxRecDepth 100000 in
theorem jm_t_11 : (jmT_11.zip jmTp_11).all (fun q => jm_tok q.1 q.2) = true := by decide +kernel
set_option maxRecDepth 100000 in
theorem jm_t_12 : (jmT_12.zip jmTp_12).all (fun q => jm_tok q.1 q.2) = true := by decide +kernel
set_option maxRecDepth 100000 in
theorem jm_t_13 : (jmT_13.zip jmTp_13).all (fun q => jm_tok q.1 q.2) = true := by decide +kernel
set_option maxRecDepth 100000 in
theorem jm_t_14 : (jmT_14.zip jmTp_14).all (fun q => jm_tok q.1 q.2) = true := by decide +kernel
set_option maxRecDepth 100000 in
theorem jm_t_15 : (jmT_15.zip jmTp_15).all (fun q => jm_tok q.1 q.2) = true := by decide +kernel
set_option maxRecDepth 100000 in
theorem jm_t_16 : (jmT_16.zip jmTp_16).all (fun q => jm_tok q.1 q.2) = true := by decide +kernel
set_option maxRecDepth 100000 in
theorem jm_t_17 : (jmT_17.zip jmTp_17).all (fun q => jm_tok q.1 q.2) = true := by decide +kernel
set_option maxRecDepth 100000 in
theorem jm_t_18 : (jmT_18.zip jmTp_18).all (fun q => jm_tok q.1 q.2) = true := by decide +kernel
set_option maxRecDepth 100000 in
theorem jm_t_19 : (jmT_19.zip jmTp_19).all (fun q => jm_tok q.1 q.2) = true := by decide +kernel
set_option maxRecDepth 100000 in
theorem jm_t_20 : (jmT_20.zip jmTp_20).all (fun q => jm_tok q.1 q.2) = true := by decide +kernel
set_option maxRecDepth 100000 in
theorem jm_t_21 : (jmT_21.zip jmTp_21).all (fun q => jm_tok q.1 q.2) = true := by decide +kernel
set_option maxRecDepth 100000 in
theorem jm_t_22 : (jmT_22.zip jmTp_22).all (fun q => jm_tok q.1 q.2) = true := by decide +kernel
set_option maxRecDepth 100000 in
theorem jm_t_23 : (jmT_23.zip jmTp_23).all (fun q => jm_tok q.1 q.2) = true := by decide +kernel
set_option maxRecDepth 100000 in
theorem jm_t_24 : (jmT_24.zip jmTp_24).all (fun q => jm_tok q.1 q.2) = true := by decide +kernel
set_option maxRecDepth 100000 in
theorem jm_t_25 : (jmT_25.zip jmTp_25).all (fun q => jm_tok q.1 q.2) = true := by decide +kernel
set_option maxRecDepth 100000 in
theorem jm_t_26 : (jmT_26.zip jmTp_26).all (fun q => jm_tok q.1 q.2) = true := by decide +kernel
set_option maxRecDepth 100000 in
theorem jm_t_27 : (jmT_27.zip jmTp_27).all (fun q => jm_tok q.1 q.2) = true := by decide +kernel
set_option maxRecDepth 100000 in
theorem jm_t_28 : (jmT_28.zip jmTp_28).all (fun q => jm_tok q.1 q.2) = true := by decide +kernel
set_option maxRecDepth 100000 in
theorem jm_t_29 : (jmT_29.zip jmTp_29).all (fun q => jm_tok q.1 q.2) = true := by decide +kernel
set_option maxRecDepth 100000 in
theorem jm_t_30 : (jmT_30.zip jmTp_30).all (fun q => jm_tok q.1 q.2) = true := by decide +kernel
set_option maxRecDepth 100000 in
theorem jm_t_31 : (jmT_31.zip jmTp_31).all (fun q => jm_tok q.1 q.2) = true := by decide +kernel
