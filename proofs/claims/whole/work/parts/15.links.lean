abbrev M_X0_init : Mt := (yX0_init, cX0_init, 1, none)
abbrev M_X0_lay : Mt := (yX0_lay, cX0_lay, 4, none)
abbrev M_X0_has : Mt := (yX0_has, cX0_has, 3, (some .boolean))
abbrev M_X0_narrowed : Mt := (yX0_narrowed, cX0_narrowed, 3, (some .long))
abbrev M_X1_init : Mt := (yX1_init, cX1_init, 1, none)
abbrev M_X2_init : Mt := (yX2_init, cX2_init, 1, none)
abbrev M_X2_depthAt : Mt := (yX2_depthAt, cX2_depthAt, 12, (some .int))
abbrev M_X2_isHere : Mt := (yX2_isHere, cX2_isHere, 2, (some .boolean))
abbrev M_X2_leastBeside : Mt := (yX2_leastBeside, cX2_leastBeside, 12, (some .int))
abbrev M_X2_findDeepest : Mt := (yX2_findDeepest, cX2_findDeepest, 5, none)
abbrev M_X2_considerCrossing : Mt := (yX2_considerCrossing, cX2_considerCrossing, 11, none)
abbrev M_X2_consider : Mt := (yX2_consider, cX2_consider, 10, none)
abbrev M_X2_isAhead : Mt := (yX2_isAhead, cX2_isAhead, 11, (some .boolean))
abbrev M_X2_tell : Mt := (yX2_tell, cX2_tell, 2, (some .long))
abbrev M_X3_init : Mt := (yX3_init, cX3_init, 1, none)
abbrev M_X3_peel : Mt := (yX3_peel, cX3_peel, 4, none)
abbrev M_X3_peelOne : Mt := (yX3_peelOne, cX3_peelOne, 5, (some .int))
abbrev M_X3_isIn : Mt := (yX3_isIn, cX3_isIn, 3, (some .boolean))
abbrev M_X3_isOnEdge : Mt := (yX3_isOnEdge, cX3_isOnEdge, 6, (some .boolean))
abbrev M_X3_isOneSided : Mt := (yX3_isOneSided, cX3_isOneSided, 9, (some .boolean))
abbrev M_X3_layerOf : Mt := (yX3_layerOf, cX3_layerOf, 2, (some .int))
abbrev M_X3_sizeOf : Mt := (yX3_sizeOf, cX3_sizeOf, 4, (some .int))
abbrev M_X4_init : Mt := (yX4_init, cX4_init, 1, none)
abbrev M_X4_become : Mt := (yX4_become, cX4_become, 5, none)
abbrev M_X4_join : Mt := (yX4_join, cX4_join, 8, none)
abbrev M_X4_sideOf : Mt := (yX4_sideOf, cX4_sideOf, 5, (some .int))
abbrev M_X5_init : Mt := (yX5_init, cX5_init, 1, none)
abbrev M_X5_gather : Mt := (yX5_gather, cX5_gather, 4, none)
abbrev M_X5_isFirstPair : Mt := (yX5_isFirstPair, cX5_isFirstPair, 6, (some .boolean))
abbrev M_X5_add : Mt := (yX5_add, cX5_add, 5, none)
abbrev M_X5_plantsOn : Mt := (yX5_plantsOn, cX5_plantsOn, 6, (some .int))
abbrev M_X5_furrowCount : Mt := (yX5_furrowCount, cX5_furrowCount, 2, (some .int))
abbrev M_X5_findFurrows : Mt := (yX5_findFurrows, cX5_findFurrows, 3, none)
abbrev M_X5_giveFurrow : Mt := (yX5_giveFurrow, cX5_giveFurrow, 5, none)
abbrev M_X6_init : Mt := (yX6_init, cX6_init, 1, none)
abbrev M_X6_begin : Mt := (yX6_begin, cX6_begin, 5, none)
abbrev M_X6_paint : Mt := (yX6_paint, cX6_paint, 3, none)
abbrev M_X6_become : Mt := (yX6_become, cX6_become, 2, none)
abbrev M_X6_isOf : Mt := (yX6_isOf, cX6_isOf, 4, (some .boolean))
abbrev M_X6_answer : Mt := (yX6_answer, cX6_answer, 3, (some .int))
abbrev M_X6_begun : Mt := (yX6_begun, cX6_begun, 5, (some .int))
abbrev M_X6_gives : Mt := (yX6_gives, cX6_gives, 5, (some .int))
abbrev M_X7_init : Mt := (yX7_init, cX7_init, 1, none)
abbrev M_X7_gather : Mt := (yX7_gather, cX7_gather, 4, none)
abbrev M_X7_add : Mt := (yX7_add, cX7_add, 3, none)
abbrev M_X7_placeOf : Mt := (yX7_placeOf, cX7_placeOf, 3, (some .int))
abbrev M_X7_isTogether : Mt := (yX7_isTogether, cX7_isTogether, 3, (some .boolean))
abbrev M_X7_row : Mt := (yX7_row, cX7_row, 2, (some (.array .int)))
abbrev M_X7_total : Mt := (yX7_total, cX7_total, 5, (some .int))
abbrev M_X7_sumAt : Mt := (yX7_sumAt, cX7_sumAt, 7, (some .int))
abbrev M_X7_isHalvedBy : Mt := (yX7_isHalvedBy, cX7_isHalvedBy, 9, (some .boolean))
abbrev M_X7_turn : Mt := (yX7_turn, cX7_turn, 4, (some .int))
abbrev M_X8_init : Mt := (yX8_init, cX8_init, 1, none)
abbrev M_X8_findWidest : Mt := (yX8_findWidest, cX8_findWidest, 5, none)
abbrev M_X8_consider : Mt := (yX8_consider, cX8_consider, 10, none)
abbrev M_X8_putInOrder : Mt := (yX8_putInOrder, cX8_putInOrder, 4, none)
abbrev M_X9_init : Mt := (yX9_init, cX9_init, 2, none)
abbrev M_X9_leave : Mt := (yX9_leave, cX9_leave, 2, none)
abbrev M_X10_init : Mt := (yX10_init, cX10_init, 2, none)
abbrev M_X10_bed : Mt := (yX10_bed, cX10_bed, 4, (some .int))
abbrev M_X10_set : Mt := (yX10_set, cX10_set, 6, (some .long))
abbrev M_X10_drop : Mt := (yX10_drop, cX10_drop, 2, (some .int))
abbrev M_X10_copy : Mt := (yX10_copy, cX10_copy, 8, (some .int))
abbrev M_X10_plant : Mt := (yX10_plant, cX10_plant, 10, (some .int))
abbrev M_X10_move : Mt := (yX10_move, cX10_move, 9, (some .int))
abbrev M_X10_away : Mt := (yX10_away, cX10_away, 2, (some .int))
abbrev M_X10_colour : Mt := (yX10_colour, cX10_colour, 5, (some .int))
abbrev M_X10_told : Mt := (yX10_told, cX10_told, 4, (some .int))
abbrev M_X10_is : Mt := (yX10_is, cX10_is, 3, (some .int))
abbrev M_X10_ask : Mt := (yX10_ask, cX10_ask, 3, (some .int))
abbrev M_X10_trace : Mt := (yX10_trace, cX10_trace, 2, (some .int))
abbrev M_X10_undo : Mt := (yX10_undo, cX10_undo, 1, (some .int))
abbrev M_X10_line : Mt := (yX10_line, cX10_line, 4, (some .int))
abbrev M_X10_through : Mt := (yX10_through, cX10_through, 5, (some .int))
abbrev M_X10_lineAt : Mt := (yX10_lineAt, cX10_lineAt, 2, (some .int))
abbrev M_X10_side : Mt := (yX10_side, cX10_side, 3, (some .int))
abbrev M_X10_halves : Mt := (yX10_halves, cX10_halves, 2, (some .int))
abbrev M_X10_furrow : Mt := (yX10_furrow, cX10_furrow, 2, (some .int))
abbrev M_X10_furrows : Mt := (yX10_furrows, cX10_furrows, 1, (some .int))
abbrev M_X10_depth : Mt := (yX10_depth, cX10_depth, 4, (some .int))
abbrev M_X10_deepest : Mt := (yX10_deepest, cX10_deepest, 2, (some .long))
abbrev M_X10_layer : Mt := (yX10_layer, cX10_layer, 2, (some .int))
abbrev M_X10_widest : Mt := (yX10_widest, cX10_widest, 2, (some .long))
abbrev M_X10_count : Mt := (yX10_count, cX10_count, 2, (some .int))
abbrev M_X10_status : Mt := (yX10_status, cX10_status, 1, (some .int))
abbrev M_X10_found : Mt := (yX10_found, cX10_found, 2, (some .int))
abbrev M_X10_done : Mt := (yX10_done, cX10_done, 2, (some .int))
abbrev M_X10_isGiven : Mt := (yX10_isGiven, cX10_isGiven, 2, (some .boolean))
abbrev M_X10_bedsThere : Mt := (yX10_bedsThere, cX10_bedsThere, 3, (some .int))
abbrev M_X10_keepForUndo : Mt := (yX10_keepForUndo, cX10_keepForUndo, 2, none)
abbrev M_X10_forget : Mt := (yX10_forget, cX10_forget, 1, none)
abbrev M_X10_gathered : Mt := (yX10_gathered, cX10_gathered, 1, (some (.object "FurrowField$Stand")))
abbrev M_X10_joined : Mt := (yX10_joined, cX10_joined, 1, (some (.object "FurrowField$Lines")))
abbrev M_X10_peeled : Mt := (yX10_peeled, cX10_peeled, 1, (some (.object "FurrowField$Layers")))
abbrev M_X10_isBelow : Mt := (yX10_isBelow, cX10_isBelow, 2, (some .boolean))
abbrev M_X10_isWithin : Mt := (yX10_isWithin, cX10_isWithin, 4, (some .boolean))
abbrev M_X10_isInField : Mt := (yX10_isInField, cX10_isInField, 2, (some .boolean))
abbrev M_X10_isBed : Mt := (yX10_isBed, cX10_isBed, 1, (some .boolean))
abbrev M_X10_commonDivisor : Mt := (yX10_commonDivisor, cX10_commonDivisor, 11, (some .long))
abbrev M_X10_without : Mt := (yX10_without, cX10_without, 6, (some .long))
abbrev M_X11_init : Mt := (yX11_init, cX11_init, 1, none)
abbrev M_X11_in : Mt := (yX11_in, cX11_in, 6, (some .boolean))
abbrev M_X11_finds : Mt := (yX11_finds, cX11_finds, 2, (some .int))
abbrev M_X11_well : Mt := (yX11_well, cX11_well, 2, (some .int))
abbrev M_X11_isBed : Mt := (yX11_isBed, cX11_isBed, 1, (some .boolean))
abbrev M_X11_bed : Mt := (yX11_bed, cX11_bed, 5, (some .int))
abbrev M_X11_set : Mt := (yX11_set, cX11_set, 7, (some .long))
abbrev M_X11_drop : Mt := (yX11_drop, cX11_drop, 2, (some .int))
abbrev M_X11_copy : Mt := (yX11_copy, cX11_copy, 7, (some .int))
abbrev M_X11_isPlant : Mt := (yX11_isPlant, cX11_isPlant, 2, (some .boolean))
abbrev M_X11_keep : Mt := (yX11_keep, cX11_keep, 3, none)
abbrev M_X11_plant : Mt := (yX11_plant, cX11_plant, 8, (some .int))
abbrev M_X11_move : Mt := (yX11_move, cX11_move, 4, (some .int))
abbrev M_X11_there : Mt := (yX11_there, cX11_there, 3, (some .int))
abbrev M_X11_away : Mt := (yX11_away, cX11_away, 2, (some .int))
abbrev M_X11_colour : Mt := (yX11_colour, cX11_colour, 4, (some .int))
abbrev M_X11_told : Mt := (yX11_told, cX11_told, 4, (some .int))
abbrev M_X11_isOf : Mt := (yX11_isOf, cX11_isOf, 3, (some .boolean))
abbrev M_X11_is : Mt := (yX11_is, cX11_is, 3, (some .int))
abbrev M_X11_begins : Mt := (yX11_begins, cX11_begins, 2, none)
abbrev M_X11_red : Mt := (yX11_red, cX11_red, 2, (some .int))
abbrev M_X11_blue : Mt := (yX11_blue, cX11_blue, 2, (some .int))
abbrev M_X11_lentAll : Mt := (yX11_lentAll, cX11_lentAll, 4, (some .int))
abbrev M_X11_all : Mt := (yX11_all, cX11_all, 2, (some .int))
abbrev M_X11_worth : Mt := (yX11_worth, cX11_worth, 2, (some .int))
abbrev M_X11_asked : Mt := (yX11_asked, cX11_asked, 3, (some .int))
abbrev M_X11_ask : Mt := (yX11_ask, cX11_ask, 4, (some .int))
abbrev M_X11_trace : Mt := (yX11_trace, cX11_trace, 2, (some .int))
abbrev M_X11_undo : Mt := (yX11_undo, cX11_undo, 1, (some .int))
abbrev M_X11_divisor : Mt := (yX11_divisor, cX11_divisor, 10, (some .long))
abbrev M_X11_line : Mt := (yX11_line, cX11_line, 6, (some .int))
abbrev M_X11_isApart : Mt := (yX11_isApart, cX11_isApart, 3, (some .boolean))
abbrev M_X11_look : Mt := (yX11_look, cX11_look, 5, none)
abbrev M_X11_at : Mt := (yX11_at, cX11_at, 2, (some .long))
abbrev M_X11_lookAtLine : Mt := (yX11_lookAtLine, cX11_lookAtLine, 1, none)
abbrev M_X11_putLine : Mt := (yX11_putLine, cX11_putLine, 1, none)
abbrev M_X11_through : Mt := (yX11_through, cX11_through, 3, (some .int))
abbrev M_X11_lineAt : Mt := (yX11_lineAt, cX11_lineAt, 2, (some .int))
abbrev M_X11_sumOf : Mt := (yX11_sumOf, cX11_sumOf, 8, (some .int))
abbrev M_X11_isHalved : Mt := (yX11_isHalved, cX11_isHalved, 5, (some .boolean))
abbrev M_X11_side : Mt := (yX11_side, cX11_side, 3, (some .int))
abbrev M_X11_halves : Mt := (yX11_halves, cX11_halves, 2, (some .int))
abbrev M_X11_isFirst : Mt := (yX11_isFirst, cX11_isFirst, 5, (some .boolean))
abbrev M_X11_firstThere : Mt := (yX11_firstThere, cX11_firstThere, 2, (some .int))
abbrev M_X11_findFurrow : Mt := (yX11_findFurrow, cX11_findFurrow, 6, (some .int))
abbrev M_X11_furrow : Mt := (yX11_furrow, cX11_furrow, 2, (some .int))
abbrev M_X11_furrows : Mt := (yX11_furrows, cX11_furrows, 1, (some .int))
abbrev M_X11_sumBeyond : Mt := (yX11_sumBeyond, cX11_sumBeyond, 17, (some .int))
abbrev M_X11_depthOf : Mt := (yX11_depthOf, cX11_depthOf, 17, (some .int))
abbrev M_X11_depth : Mt := (yX11_depth, cX11_depth, 4, (some .int))
abbrev M_X11_offer : Mt := (yX11_offer, cX11_offer, 12, none)
abbrev M_X11_deepest : Mt := (yX11_deepest, cX11_deepest, 11, (some .long))
abbrev M_X11_isOnEdge : Mt := (yX11_isOnEdge, cX11_isOnEdge, 7, (some .boolean))
abbrev M_X11_findLayers : Mt := (yX11_findLayers, cX11_findLayers, 4, (some .int))
abbrev M_X11_layer : Mt := (yX11_layer, cX11_layer, 5, (some .int))
abbrev M_X11_most : Mt := (yX11_most, cX11_most, 7, (some .int))
abbrev M_X11_offerGap : Mt := (yX11_offerGap, cX11_offerGap, 15, none)
abbrev M_X11_widest : Mt := (yX11_widest, cX11_widest, 8, (some .long))
abbrev M_X11_count : Mt := (yX11_count, cX11_count, 4, (some .int))
abbrev M_X11_status : Mt := (yX11_status, cX11_status, 1, (some .int))
abbrev M_law : Mt := (⟨"FurrowFieldLaw", "law", "([I)Z"⟩, cL_law, 4, some .boolean)
theorem fk_X0_9 : FL RX0 9 0 0 := ⟨_, rfl, by decide, (List.mem_append_right _ (List.mem_of_getElem? (i := 30) (by decide +kernel)))⟩
theorem fk_X10_113 : FL RX10 113 0 0 := ⟨_, rfl, by decide, (List.mem_append_right _ (List.mem_of_getElem? (i := 31) (by decide +kernel)))⟩
theorem fk_X0_15 : FL RX0 15 0 1 := ⟨_, rfl, by decide, (List.mem_append_right _ (List.mem_of_getElem? (i := 32) (by decide +kernel)))⟩
theorem fk_X10_106 : FL RX10 106 0 1 := ⟨_, rfl, by decide, (List.mem_append_right _ (List.mem_of_getElem? (i := 33) (by decide +kernel)))⟩
theorem fk_X0_19 : FL RX0 19 0 2 := ⟨_, rfl, by decide, (List.mem_append_right _ (List.mem_of_getElem? (i := 34) (by decide +kernel)))⟩
theorem fk_X10_128 : FL RX10 128 0 2 := ⟨_, rfl, by decide, (List.mem_append_right _ (List.mem_of_getElem? (i := 35) (by decide +kernel)))⟩
theorem fk_X0_23 : FL RX0 23 0 3 := ⟨_, rfl, by decide, (List.mem_append_right _ (List.mem_of_getElem? (i := 36) (by decide +kernel)))⟩
theorem fk_X10_125 : FL RX10 125 0 3 := ⟨_, rfl, by decide, (List.mem_append_right _ (List.mem_of_getElem? (i := 37) (by decide +kernel)))⟩
theorem fk_X6_9 : FL RX6 9 6 0 := ⟨_, rfl, by decide, (List.mem_append_right _ (List.mem_of_getElem? (i := 55) (by decide +kernel)))⟩
theorem fk_X7_47 : FL RX7 47 6 0 := ⟨_, rfl, by decide, (List.mem_append_right _ (List.mem_of_getElem? (i := 56) (by decide +kernel)))⟩
theorem fk_X10_159 : FL RX10 159 6 0 := ⟨_, rfl, by decide, (List.mem_append_right _ (List.mem_of_getElem? (i := 57) (by decide +kernel)))⟩
theorem fk_X6_15 : FL RX6 15 6 1 := ⟨_, rfl, by decide, (List.mem_append_right _ (List.mem_of_getElem? (i := 58) (by decide +kernel)))⟩
theorem fk_X7_49 : FL RX7 49 6 1 := ⟨_, rfl, by decide, (List.mem_append_right _ (List.mem_of_getElem? (i := 59) (by decide +kernel)))⟩
theorem fk_X10_162 : FL RX10 162 6 1 := ⟨_, rfl, by decide, (List.mem_append_right _ (List.mem_of_getElem? (i := 60) (by decide +kernel)))⟩
theorem fk_X6_18 : FL RX6 18 6 2 := ⟨_, rfl, by decide, (List.mem_append_right _ (List.mem_of_getElem? (i := 61) (by decide +kernel)))⟩
theorem fk_X10_172 : FL RX10 172 6 2 := ⟨_, rfl, by decide, (List.mem_append_right _ (List.mem_of_getElem? (i := 62) (by decide +kernel)))⟩
theorem fk_X6_29 : FL RX6 29 6 3 := ⟨_, rfl, by decide, (List.mem_append_right _ (List.mem_of_getElem? (i := 63) (by decide +kernel)))⟩
theorem fk_X10_175 : FL RX10 175 6 3 := ⟨_, rfl, by decide, (List.mem_append_right _ (List.mem_of_getElem? (i := 64) (by decide +kernel)))⟩
theorem fk_X6_36 : FL RX6 36 6 4 := ⟨_, rfl, by decide, (List.mem_append_right _ (List.mem_of_getElem? (i := 65) (by decide +kernel)))⟩
theorem fk_X7_51 : FL RX7 51 6 4 := ⟨_, rfl, by decide, (List.mem_append_right _ (List.mem_of_getElem? (i := 66) (by decide +kernel)))⟩
theorem fk_X6_39 : FL RX6 39 6 5 := ⟨_, rfl, by decide, (List.mem_append_right _ (List.mem_of_getElem? (i := 67) (by decide +kernel)))⟩
theorem fk_X7_53 : FL RX7 53 6 5 := ⟨_, rfl, by decide, (List.mem_append_right _ (List.mem_of_getElem? (i := 68) (by decide +kernel)))⟩
theorem fk_X6_42 : FL RX6 42 6 6 := ⟨_, rfl, by decide, (List.mem_append_right _ (List.mem_of_getElem? (i := 69) (by decide +kernel)))⟩
theorem fk_X7_55 : FL RX7 55 6 6 := ⟨_, rfl, by decide, (List.mem_append_right _ (List.mem_of_getElem? (i := 70) (by decide +kernel)))⟩
theorem fk_X6_21 : FL RX6 21 6 7 := ⟨_, rfl, by decide, (List.mem_append_right _ (List.mem_of_getElem? (i := 71) (by decide +kernel)))⟩
theorem fk_X7_34 : FL RX7 34 6 7 := ⟨_, rfl, by decide, (List.mem_append_right _ (List.mem_of_getElem? (i := 72) (by decide +kernel)))⟩
theorem fk_X10_158 : FL RX10 158 6 7 := ⟨_, rfl, by decide, (List.mem_append_right _ (List.mem_of_getElem? (i := 73) (by decide +kernel)))⟩
theorem fk_X1_10 : FL RX1 10 1 0 := ⟨_, rfl, by decide, (List.mem_append_right _ (List.mem_of_getElem? (i := 99) (by decide +kernel)))⟩
theorem fk_X10_214 : FL RX10 214 1 0 := ⟨_, rfl, by decide, (List.mem_append_right _ (List.mem_of_getElem? (i := 100) (by decide +kernel)))⟩
theorem fk_X10_207 : FL RX10 207 1 1 := ⟨_, rfl, by decide, (List.mem_append_right _ (List.mem_of_getElem? (i := 101) (by decide +kernel)))⟩
theorem fk_X10_210 : FL RX10 210 1 2 := ⟨_, rfl, by decide, (List.mem_append_right _ (List.mem_of_getElem? (i := 102) (by decide +kernel)))⟩
theorem fk_X10_222 : FL RX10 222 1 3 := ⟨_, rfl, by decide, (List.mem_append_right _ (List.mem_of_getElem? (i := 103) (by decide +kernel)))⟩
theorem fk_X9_7 : FL RX9 7 9 0 := ⟨_, rfl, by decide, (List.mem_append_right _ (List.mem_of_getElem? (i := 119) (by decide +kernel)))⟩
theorem fk_X10_202 : FL RX10 202 9 0 := ⟨_, rfl, by decide, (List.mem_append_right _ (List.mem_of_getElem? (i := 120) (by decide +kernel)))⟩
theorem fk_X9_13 : FL RX9 13 9 1 := ⟨_, rfl, by decide, (List.mem_append_right _ (List.mem_of_getElem? (i := 121) (by decide +kernel)))⟩
theorem fk_X10_195 : FL RX10 195 9 1 := ⟨_, rfl, by decide, (List.mem_append_right _ (List.mem_of_getElem? (i := 122) (by decide +kernel)))⟩
theorem fk_X4_9 : FL RX4 9 4 0 := ⟨_, rfl, by decide, (List.mem_append_right _ (List.mem_of_getElem? (i := 135) (by decide +kernel)))⟩
theorem fk_X5_77 : FL RX5 77 4 0 := ⟨_, rfl, by decide, (List.mem_append_right _ (List.mem_of_getElem? (i := 136) (by decide +kernel)))⟩
theorem fk_X10_236 : FL RX10 236 4 0 := ⟨_, rfl, by decide, (List.mem_append_right _ (List.mem_of_getElem? (i := 137) (by decide +kernel)))⟩
theorem fk_X4_15 : FL RX4 15 4 1 := ⟨_, rfl, by decide, (List.mem_append_right _ (List.mem_of_getElem? (i := 138) (by decide +kernel)))⟩
theorem fk_X5_79 : FL RX5 79 4 1 := ⟨_, rfl, by decide, (List.mem_append_right _ (List.mem_of_getElem? (i := 139) (by decide +kernel)))⟩
theorem fk_X10_239 : FL RX10 239 4 1 := ⟨_, rfl, by decide, (List.mem_append_right _ (List.mem_of_getElem? (i := 140) (by decide +kernel)))⟩
theorem fk_X4_18 : FL RX4 18 4 2 := ⟨_, rfl, by decide, (List.mem_append_right _ (List.mem_of_getElem? (i := 141) (by decide +kernel)))⟩
theorem fk_X5_81 : FL RX5 81 4 2 := ⟨_, rfl, by decide, (List.mem_append_right _ (List.mem_of_getElem? (i := 142) (by decide +kernel)))⟩
theorem fk_X10_242 : FL RX10 242 4 2 := ⟨_, rfl, by decide, (List.mem_append_right _ (List.mem_of_getElem? (i := 143) (by decide +kernel)))⟩
theorem fk_X7_9 : FL RX7 9 7 0 := ⟨_, rfl, by decide, (List.mem_append_right _ (List.mem_of_getElem? (i := 157) (by decide +kernel)))⟩
theorem fk_X7_15 : FL RX7 15 7 1 := ⟨_, rfl, by decide, (List.mem_append_right _ (List.mem_of_getElem? (i := 158) (by decide +kernel)))⟩
theorem fk_X2_24 : FL RX2 24 7 1 := ⟨_, rfl, by decide, (List.mem_append_right _ (List.mem_of_getElem? (i := 159) (by decide +kernel)))⟩
theorem fk_X8_49 : FL RX8 49 7 1 := ⟨_, rfl, by decide, (List.mem_append_right _ (List.mem_of_getElem? (i := 160) (by decide +kernel)))⟩
theorem fk_X5_67 : FL RX5 67 7 1 := ⟨_, rfl, by decide, (List.mem_append_right _ (List.mem_of_getElem? (i := 161) (by decide +kernel)))⟩
theorem fk_X7_18 : FL RX7 18 7 2 := ⟨_, rfl, by decide, (List.mem_append_right _ (List.mem_of_getElem? (i := 162) (by decide +kernel)))⟩
theorem fk_X2_28 : FL RX2 28 7 2 := ⟨_, rfl, by decide, (List.mem_append_right _ (List.mem_of_getElem? (i := 163) (by decide +kernel)))⟩
theorem fk_X8_52 : FL RX8 52 7 2 := ⟨_, rfl, by decide, (List.mem_append_right _ (List.mem_of_getElem? (i := 164) (by decide +kernel)))⟩
theorem fk_X5_70 : FL RX5 70 7 2 := ⟨_, rfl, by decide, (List.mem_append_right _ (List.mem_of_getElem? (i := 165) (by decide +kernel)))⟩
theorem fk_X7_21 : FL RX7 21 7 3 := ⟨_, rfl, by decide, (List.mem_append_right _ (List.mem_of_getElem? (i := 166) (by decide +kernel)))⟩
theorem fk_X7_24 : FL RX7 24 7 4 := ⟨_, rfl, by decide, (List.mem_append_right _ (List.mem_of_getElem? (i := 167) (by decide +kernel)))⟩
theorem fk_X7_27 : FL RX7 27 7 5 := ⟨_, rfl, by decide, (List.mem_append_right _ (List.mem_of_getElem? (i := 168) (by decide +kernel)))⟩
theorem fk_X2_35 : FL RX2 35 7 5 := ⟨_, rfl, by decide, (List.mem_append_right _ (List.mem_of_getElem? (i := 169) (by decide +kernel)))⟩
theorem fk_X7_44 : FL RX7 44 7 6 := ⟨_, rfl, by decide, (List.mem_append_right _ (List.mem_of_getElem? (i := 170) (by decide +kernel)))⟩
theorem fk_X10_314 : FL RX10 314 7 6 := ⟨_, rfl, by decide, (List.mem_append_right _ (List.mem_of_getElem? (i := 171) (by decide +kernel)))⟩
theorem fk_X7_30 : FL RX7 30 7 7 := ⟨_, rfl, by decide, (List.mem_append_right _ (List.mem_of_getElem? (i := 172) (by decide +kernel)))⟩
theorem fk_X3_19 : FL RX3 19 7 7 := ⟨_, rfl, by decide, (List.mem_append_right _ (List.mem_of_getElem? (i := 173) (by decide +kernel)))⟩
theorem fk_X2_18 : FL RX2 18 7 7 := ⟨_, rfl, by decide, (List.mem_append_right _ (List.mem_of_getElem? (i := 174) (by decide +kernel)))⟩
theorem fk_X5_45 : FL RX5 45 7 7 := ⟨_, rfl, by decide, (List.mem_append_right _ (List.mem_of_getElem? (i := 175) (by decide +kernel)))⟩
theorem fk_X8_46 : FL RX8 46 7 7 := ⟨_, rfl, by decide, (List.mem_append_right _ (List.mem_of_getElem? (i := 176) (by decide +kernel)))⟩
theorem fk_X10_169 : FL RX10 169 7 7 := ⟨_, rfl, by decide, (List.mem_append_right _ (List.mem_of_getElem? (i := 177) (by decide +kernel)))⟩
theorem fk_X5_9 : FL RX5 9 5 0 := ⟨_, rfl, by decide, (List.mem_append_right _ (List.mem_of_getElem? (i := 203) (by decide +kernel)))⟩
theorem fk_X8_28 : FL RX8 28 5 0 := ⟨_, rfl, by decide, (List.mem_append_right _ (List.mem_of_getElem? (i := 204) (by decide +kernel)))⟩
theorem fk_X2_78 : FL RX2 78 5 0 := ⟨_, rfl, by decide, (List.mem_append_right _ (List.mem_of_getElem? (i := 205) (by decide +kernel)))⟩
theorem fk_X5_15 : FL RX5 15 5 1 := ⟨_, rfl, by decide, (List.mem_append_right _ (List.mem_of_getElem? (i := 206) (by decide +kernel)))⟩
theorem fk_X8_31 : FL RX8 31 5 1 := ⟨_, rfl, by decide, (List.mem_append_right _ (List.mem_of_getElem? (i := 207) (by decide +kernel)))⟩
theorem fk_X2_81 : FL RX2 81 5 1 := ⟨_, rfl, by decide, (List.mem_append_right _ (List.mem_of_getElem? (i := 208) (by decide +kernel)))⟩
theorem fk_X5_18 : FL RX5 18 5 2 := ⟨_, rfl, by decide, (List.mem_append_right _ (List.mem_of_getElem? (i := 209) (by decide +kernel)))⟩
theorem fk_X2_84 : FL RX2 84 5 2 := ⟨_, rfl, by decide, (List.mem_append_right _ (List.mem_of_getElem? (i := 210) (by decide +kernel)))⟩
theorem fk_X5_21 : FL RX5 21 5 3 := ⟨_, rfl, by decide, (List.mem_append_right _ (List.mem_of_getElem? (i := 211) (by decide +kernel)))⟩
theorem fk_X5_27 : FL RX5 27 5 4 := ⟨_, rfl, by decide, (List.mem_append_right _ (List.mem_of_getElem? (i := 212) (by decide +kernel)))⟩
theorem fk_X5_41 : FL RX5 41 5 5 := ⟨_, rfl, by decide, (List.mem_append_right _ (List.mem_of_getElem? (i := 213) (by decide +kernel)))⟩
theorem fk_X5_100 : FL RX5 100 5 6 := ⟨_, rfl, by decide, (List.mem_append_right _ (List.mem_of_getElem? (i := 214) (by decide +kernel)))⟩
theorem fk_X5_60 : FL RX5 60 5 7 := ⟨_, rfl, by decide, (List.mem_append_right _ (List.mem_of_getElem? (i := 215) (by decide +kernel)))⟩
theorem fk_X10_315 : FL RX10 315 5 7 := ⟨_, rfl, by decide, (List.mem_append_right _ (List.mem_of_getElem? (i := 216) (by decide +kernel)))⟩
theorem fk_X5_31 : FL RX5 31 5 8 := ⟨_, rfl, by decide, (List.mem_append_right _ (List.mem_of_getElem? (i := 217) (by decide +kernel)))⟩
theorem fk_X8_22 : FL RX8 22 5 8 := ⟨_, rfl, by decide, (List.mem_append_right _ (List.mem_of_getElem? (i := 218) (by decide +kernel)))⟩
theorem fk_X2_67 : FL RX2 67 5 8 := ⟨_, rfl, by decide, (List.mem_append_right _ (List.mem_of_getElem? (i := 219) (by decide +kernel)))⟩
theorem fk_X10_293 : FL RX10 293 5 8 := ⟨_, rfl, by decide, (List.mem_append_right _ (List.mem_of_getElem? (i := 220) (by decide +kernel)))⟩
theorem fk_X5_35 : FL RX5 35 5 9 := ⟨_, rfl, by decide, (List.mem_append_right _ (List.mem_of_getElem? (i := 221) (by decide +kernel)))⟩
theorem fk_X10_287 : FL RX10 287 5 9 := ⟨_, rfl, by decide, (List.mem_append_right _ (List.mem_of_getElem? (i := 222) (by decide +kernel)))⟩
theorem fk_X5_38 : FL RX5 38 5 10 := ⟨_, rfl, by decide, (List.mem_append_right _ (List.mem_of_getElem? (i := 223) (by decide +kernel)))⟩
theorem fk_X10_290 : FL RX10 290 5 10 := ⟨_, rfl, by decide, (List.mem_append_right _ (List.mem_of_getElem? (i := 224) (by decide +kernel)))⟩
theorem fk_X3_9 : FL RX3 9 3 0 := ⟨_, rfl, by decide, (List.mem_append_right _ (List.mem_of_getElem? (i := 254) (by decide +kernel)))⟩
theorem fk_X3_26 : FL RX3 26 3 1 := ⟨_, rfl, by decide, (List.mem_append_right _ (List.mem_of_getElem? (i := 255) (by decide +kernel)))⟩
theorem fk_X10_316 : FL RX10 316 3 1 := ⟨_, rfl, by decide, (List.mem_append_right _ (List.mem_of_getElem? (i := 256) (by decide +kernel)))⟩
theorem fk_X3_15 : FL RX3 15 3 2 := ⟨_, rfl, by decide, (List.mem_append_right _ (List.mem_of_getElem? (i := 257) (by decide +kernel)))⟩
theorem fk_X10_309 : FL RX10 309 3 2 := ⟨_, rfl, by decide, (List.mem_append_right _ (List.mem_of_getElem? (i := 258) (by decide +kernel)))⟩
theorem fk_X2_9 : FL RX2 9 2 0 := ⟨_, rfl, by decide, (List.mem_append_right _ (List.mem_of_getElem? (i := 272) (by decide +kernel)))⟩
theorem fk_X2_15 : FL RX2 15 2 1 := ⟨_, rfl, by decide, (List.mem_append_right _ (List.mem_of_getElem? (i := 273) (by decide +kernel)))⟩
theorem fk_X2_74 : FL RX2 74 2 2 := ⟨_, rfl, by decide, (List.mem_append_right _ (List.mem_of_getElem? (i := 274) (by decide +kernel)))⟩
theorem fk_X10_273 : FL RX10 273 2 2 := ⟨_, rfl, by decide, (List.mem_append_right _ (List.mem_of_getElem? (i := 275) (by decide +kernel)))⟩
theorem fk_X2_52 : FL RX2 52 2 3 := ⟨_, rfl, by decide, (List.mem_append_right _ (List.mem_of_getElem? (i := 276) (by decide +kernel)))⟩
theorem fk_X2_55 : FL RX2 55 2 4 := ⟨_, rfl, by decide, (List.mem_append_right _ (List.mem_of_getElem? (i := 277) (by decide +kernel)))⟩
theorem fk_X2_58 : FL RX2 58 2 5 := ⟨_, rfl, by decide, (List.mem_append_right _ (List.mem_of_getElem? (i := 278) (by decide +kernel)))⟩
theorem fk_X2_60 : FL RX2 60 2 6 := ⟨_, rfl, by decide, (List.mem_append_right _ (List.mem_of_getElem? (i := 279) (by decide +kernel)))⟩
theorem fk_X8_9 : FL RX8 9 8 0 := ⟨_, rfl, by decide, (List.mem_append_right _ (List.mem_of_getElem? (i := 301) (by decide +kernel)))⟩
theorem fk_X8_42 : FL RX8 42 8 1 := ⟨_, rfl, by decide, (List.mem_append_right _ (List.mem_of_getElem? (i := 302) (by decide +kernel)))⟩
theorem fk_X10_294 : FL RX10 294 8 1 := ⟨_, rfl, by decide, (List.mem_append_right _ (List.mem_of_getElem? (i := 303) (by decide +kernel)))⟩
theorem fk_X8_15 : FL RX8 15 8 2 := ⟨_, rfl, by decide, (List.mem_append_right _ (List.mem_of_getElem? (i := 304) (by decide +kernel)))⟩
theorem fk_X10_298 : FL RX10 298 8 2 := ⟨_, rfl, by decide, (List.mem_append_right _ (List.mem_of_getElem? (i := 305) (by decide +kernel)))⟩
theorem fk_X8_19 : FL RX8 19 8 3 := ⟨_, rfl, by decide, (List.mem_append_right _ (List.mem_of_getElem? (i := 306) (by decide +kernel)))⟩
theorem fk_X10_302 : FL RX10 302 8 3 := ⟨_, rfl, by decide, (List.mem_append_right _ (List.mem_of_getElem? (i := 307) (by decide +kernel)))⟩
theorem fk_X10_11 : FL RX10 11 10 0 := ⟨_, rfl, by decide, (List.mem_append_right _ (List.mem_of_getElem? (i := 317) (by decide +kernel)))⟩
theorem fk_X10_18 : FL RX10 18 10 1 := ⟨_, rfl, by decide, (List.mem_append_right _ (List.mem_of_getElem? (i := 318) (by decide +kernel)))⟩
theorem fk_X10_26 : FL RX10 26 10 2 := ⟨_, rfl, by decide, (List.mem_append_right _ (List.mem_of_getElem? (i := 319) (by decide +kernel)))⟩
theorem fk_X10_35 : FL RX10 35 10 3 := ⟨_, rfl, by decide, (List.mem_append_right _ (List.mem_of_getElem? (i := 320) (by decide +kernel)))⟩
theorem fk_X10_39 : FL RX10 39 10 4 := ⟨_, rfl, by decide, (List.mem_append_right _ (List.mem_of_getElem? (i := 321) (by decide +kernel)))⟩
theorem fk_X10_45 : FL RX10 45 10 5 := ⟨_, rfl, by decide, (List.mem_append_right _ (List.mem_of_getElem? (i := 322) (by decide +kernel)))⟩
theorem fk_X10_52 : FL RX10 52 10 6 := ⟨_, rfl, by decide, (List.mem_append_right _ (List.mem_of_getElem? (i := 323) (by decide +kernel)))⟩
theorem fk_X10_59 : FL RX10 59 10 7 := ⟨_, rfl, by decide, (List.mem_append_right _ (List.mem_of_getElem? (i := 324) (by decide +kernel)))⟩
theorem fk_X10_66 : FL RX10 66 10 8 := ⟨_, rfl, by decide, (List.mem_append_right _ (List.mem_of_getElem? (i := 325) (by decide +kernel)))⟩
theorem fk_X10_73 : FL RX10 73 10 9 := ⟨_, rfl, by decide, (List.mem_append_right _ (List.mem_of_getElem? (i := 326) (by decide +kernel)))⟩
theorem fk_X10_80 : FL RX10 80 10 10 := ⟨_, rfl, by decide, (List.mem_append_right _ (List.mem_of_getElem? (i := 327) (by decide +kernel)))⟩
theorem fk_X10_137 : FL RX10 137 10 11 := ⟨_, rfl, by decide, (List.mem_append_right _ (List.mem_of_getElem? (i := 328) (by decide +kernel)))⟩
theorem fk_X10_121 : FL RX10 121 10 12 := ⟨_, rfl, by decide, (List.mem_append_right _ (List.mem_of_getElem? (i := 329) (by decide +kernel)))⟩
theorem fk_X11_101 : FL RX11 101 11 0 := ⟨_, rfl, by decide, (List.mem_append_right _ (List.mem_of_getElem? (i := 760) (by decide +kernel)))⟩
theorem fk_X11_7 : FL RX11 7 11 1 := ⟨_, rfl, by decide, (List.mem_append_right _ (List.mem_of_getElem? (i := 761) (by decide +kernel)))⟩
theorem fk_X11_13 : FL RX11 13 11 2 := ⟨_, rfl, by decide, (List.mem_append_right _ (List.mem_of_getElem? (i := 762) (by decide +kernel)))⟩
theorem fk_X11_16 : FL RX11 16 11 3 := ⟨_, rfl, by decide, (List.mem_append_right _ (List.mem_of_getElem? (i := 763) (by decide +kernel)))⟩
theorem fk_X11_19 : FL RX11 19 11 4 := ⟨_, rfl, by decide, (List.mem_append_right _ (List.mem_of_getElem? (i := 764) (by decide +kernel)))⟩
theorem fk_X11_22 : FL RX11 22 11 5 := ⟨_, rfl, by decide, (List.mem_append_right _ (List.mem_of_getElem? (i := 765) (by decide +kernel)))⟩
theorem fk_X11_27 : FL RX11 27 11 6 := ⟨_, rfl, by decide, (List.mem_append_right _ (List.mem_of_getElem? (i := 766) (by decide +kernel)))⟩
theorem fk_X11_104 : FL RX11 104 11 7 := ⟨_, rfl, by decide, (List.mem_append_right _ (List.mem_of_getElem? (i := 767) (by decide +kernel)))⟩
theorem fk_X11_108 : FL RX11 108 11 8 := ⟨_, rfl, by decide, (List.mem_append_right _ (List.mem_of_getElem? (i := 768) (by decide +kernel)))⟩
theorem fk_X11_111 : FL RX11 111 11 9 := ⟨_, rfl, by decide, (List.mem_append_right _ (List.mem_of_getElem? (i := 769) (by decide +kernel)))⟩
theorem fk_X11_114 : FL RX11 114 11 10 := ⟨_, rfl, by decide, (List.mem_append_right _ (List.mem_of_getElem? (i := 770) (by decide +kernel)))⟩
theorem fk_X11_117 : FL RX11 117 11 11 := ⟨_, rfl, by decide, (List.mem_append_right _ (List.mem_of_getElem? (i := 771) (by decide +kernel)))⟩
theorem fk_X11_31 : FL RX11 31 11 12 := ⟨_, rfl, by decide, (List.mem_append_right _ (List.mem_of_getElem? (i := 772) (by decide +kernel)))⟩
theorem fk_X11_34 : FL RX11 34 11 13 := ⟨_, rfl, by decide, (List.mem_append_right _ (List.mem_of_getElem? (i := 773) (by decide +kernel)))⟩
theorem fk_X11_37 : FL RX11 37 11 14 := ⟨_, rfl, by decide, (List.mem_append_right _ (List.mem_of_getElem? (i := 774) (by decide +kernel)))⟩
theorem fk_X11_41 : FL RX11 41 11 15 := ⟨_, rfl, by decide, (List.mem_append_right _ (List.mem_of_getElem? (i := 775) (by decide +kernel)))⟩
theorem fk_X11_75 : FL RX11 75 11 16 := ⟨_, rfl, by decide, (List.mem_append_right _ (List.mem_of_getElem? (i := 776) (by decide +kernel)))⟩
theorem fk_X11_44 : FL RX11 44 11 17 := ⟨_, rfl, by decide, (List.mem_append_right _ (List.mem_of_getElem? (i := 777) (by decide +kernel)))⟩
theorem fk_X11_150 : FL RX11 150 11 18 := ⟨_, rfl, by decide, (List.mem_append_right _ (List.mem_of_getElem? (i := 778) (by decide +kernel)))⟩
theorem fk_X11_147 : FL RX11 147 11 19 := ⟨_, rfl, by decide, (List.mem_append_right _ (List.mem_of_getElem? (i := 779) (by decide +kernel)))⟩
theorem fk_X11_185 : FL RX11 185 11 20 := ⟨_, rfl, by decide, (List.mem_append_right _ (List.mem_of_getElem? (i := 780) (by decide +kernel)))⟩
theorem fk_X11_47 : FL RX11 47 11 21 := ⟨_, rfl, by decide, (List.mem_append_right _ (List.mem_of_getElem? (i := 781) (by decide +kernel)))⟩
theorem fk_X11_188 : FL RX11 188 11 22 := ⟨_, rfl, by decide, (List.mem_append_right _ (List.mem_of_getElem? (i := 782) (by decide +kernel)))⟩
theorem fk_X11_191 : FL RX11 191 11 23 := ⟨_, rfl, by decide, (List.mem_append_right _ (List.mem_of_getElem? (i := 783) (by decide +kernel)))⟩
theorem fk_X11_194 : FL RX11 194 11 24 := ⟨_, rfl, by decide, (List.mem_append_right _ (List.mem_of_getElem? (i := 784) (by decide +kernel)))⟩
theorem fk_X11_197 : FL RX11 197 11 25 := ⟨_, rfl, by decide, (List.mem_append_right _ (List.mem_of_getElem? (i := 785) (by decide +kernel)))⟩
theorem fk_X11_51 : FL RX11 51 11 26 := ⟨_, rfl, by decide, (List.mem_append_right _ (List.mem_of_getElem? (i := 786) (by decide +kernel)))⟩
theorem fk_X11_54 : FL RX11 54 11 27 := ⟨_, rfl, by decide, (List.mem_append_right _ (List.mem_of_getElem? (i := 787) (by decide +kernel)))⟩
theorem fk_X11_57 : FL RX11 57 11 28 := ⟨_, rfl, by decide, (List.mem_append_right _ (List.mem_of_getElem? (i := 788) (by decide +kernel)))⟩
theorem fk_X11_253 : FL RX11 253 11 29 := ⟨_, rfl, by decide, (List.mem_append_right _ (List.mem_of_getElem? (i := 789) (by decide +kernel)))⟩
theorem fk_X11_247 : FL RX11 247 11 30 := ⟨_, rfl, by decide, (List.mem_append_right _ (List.mem_of_getElem? (i := 790) (by decide +kernel)))⟩
theorem fk_X11_250 : FL RX11 250 11 31 := ⟨_, rfl, by decide, (List.mem_append_right _ (List.mem_of_getElem? (i := 791) (by decide +kernel)))⟩
theorem fk_X11_244 : FL RX11 244 11 32 := ⟨_, rfl, by decide, (List.mem_append_right _ (List.mem_of_getElem? (i := 792) (by decide +kernel)))⟩
theorem fk_X11_60 : FL RX11 60 11 33 := ⟨_, rfl, by decide, (List.mem_append_right _ (List.mem_of_getElem? (i := 793) (by decide +kernel)))⟩
theorem fk_X11_63 : FL RX11 63 11 34 := ⟨_, rfl, by decide, (List.mem_append_right _ (List.mem_of_getElem? (i := 794) (by decide +kernel)))⟩
theorem fk_X11_66 : FL RX11 66 11 35 := ⟨_, rfl, by decide, (List.mem_append_right _ (List.mem_of_getElem? (i := 795) (by decide +kernel)))⟩
theorem fk_X11_69 : FL RX11 69 11 36 := ⟨_, rfl, by decide, (List.mem_append_right _ (List.mem_of_getElem? (i := 796) (by decide +kernel)))⟩
theorem fk_X11_72 : FL RX11 72 11 37 := ⟨_, rfl, by decide, (List.mem_append_right _ (List.mem_of_getElem? (i := 797) (by decide +kernel)))⟩
theorem fk_X11_270 : FL RX11 270 11 38 := ⟨_, rfl, by decide, (List.mem_append_right _ (List.mem_of_getElem? (i := 798) (by decide +kernel)))⟩
theorem fk_X11_267 : FL RX11 267 11 39 := ⟨_, rfl, by decide, (List.mem_append_right _ (List.mem_of_getElem? (i := 799) (by decide +kernel)))⟩
theorem kk_X0_lay : Cond.code M_X0_lay.1 M_X0_lay.2.1 M_X0_lay.2.2.1 M_X0_lay.2.2.2 ∈ lw_tbl := (List.mem_append_right _ (List.mem_of_getElem? (i := 376) (by decide +kernel)))
theorem ki_X0_lay : Cond.instanceMethod M_X0_lay.1 ∈ lw_tbl := (List.mem_append_right _ (List.mem_of_getElem? (i := 374) (by decide +kernel)))
theorem kl_X0_lay : Cond.selects M_X0_lay.1.cls M_X0_lay.1 M_X0_lay.1 ∈ lw_tbl := (List.mem_append_right _ (List.mem_of_getElem? (i := 375) (by decide +kernel)))
theorem kk_X0_has : Cond.code M_X0_has.1 M_X0_has.2.1 M_X0_has.2.2.1 M_X0_has.2.2.2 ∈ lw_tbl := (List.mem_append_right _ (List.mem_of_getElem? (i := 389) (by decide +kernel)))
theorem ki_X0_has : Cond.instanceMethod M_X0_has.1 ∈ lw_tbl := (List.mem_append_right _ (List.mem_of_getElem? (i := 387) (by decide +kernel)))
theorem kl_X0_has : Cond.selects M_X0_has.1.cls M_X0_has.1 M_X0_has.1 ∈ lw_tbl := (List.mem_append_right _ (List.mem_of_getElem? (i := 388) (by decide +kernel)))
theorem kk_X0_narrowed : Cond.code M_X0_narrowed.1 M_X0_narrowed.2.1 M_X0_narrowed.2.2.1 M_X0_narrowed.2.2.2 ∈ lw_tbl := (List.mem_append_right _ (List.mem_of_getElem? (i := 393) (by decide +kernel)))
theorem ki_X0_narrowed : Cond.instanceMethod M_X0_narrowed.1 ∈ lw_tbl := (List.mem_append_right _ (List.mem_of_getElem? (i := 391) (by decide +kernel)))
theorem kl_X0_narrowed : Cond.selects M_X0_narrowed.1.cls M_X0_narrowed.1 M_X0_narrowed.1 ∈ lw_tbl := (List.mem_append_right _ (List.mem_of_getElem? (i := 392) (by decide +kernel)))
theorem kk_X2_depthAt : Cond.code M_X2_depthAt.1 M_X2_depthAt.2.1 M_X2_depthAt.2.2.1 M_X2_depthAt.2.2.2 ∈ lw_tbl := (List.mem_append_right _ (List.mem_of_getElem? (i := 663) (by decide +kernel)))
theorem ki_X2_depthAt : Cond.instanceMethod M_X2_depthAt.1 ∈ lw_tbl := (List.mem_append_right _ (List.mem_of_getElem? (i := 661) (by decide +kernel)))
theorem kl_X2_depthAt : Cond.selects M_X2_depthAt.1.cls M_X2_depthAt.1 M_X2_depthAt.1 ∈ lw_tbl := (List.mem_append_right _ (List.mem_of_getElem? (i := 662) (by decide +kernel)))
theorem kk_X2_isHere : Cond.code M_X2_isHere.1 M_X2_isHere.2.1 M_X2_isHere.2.2.1 M_X2_isHere.2.2.2 ∈ lw_tbl := (List.mem_append_right _ (List.mem_of_getElem? (i := 667) (by decide +kernel)))
theorem ki_X2_isHere : Cond.instanceMethod M_X2_isHere.1 ∈ lw_tbl := (List.mem_append_right _ (List.mem_of_getElem? (i := 666) (by decide +kernel)))
theorem kl_X2_isHere : Cond.selects M_X2_isHere.1.cls M_X2_isHere.1 M_X2_isHere.1 ∈ lw_tbl := (List.mem_append_left _ (by decide +kernel))
theorem kk_X2_leastBeside : Cond.code M_X2_leastBeside.1 M_X2_leastBeside.2.1 M_X2_leastBeside.2.2.1 M_X2_leastBeside.2.2.2 ∈ lw_tbl := (List.mem_append_right _ (List.mem_of_getElem? (i := 675) (by decide +kernel)))
theorem ki_X2_leastBeside : Cond.instanceMethod M_X2_leastBeside.1 ∈ lw_tbl := (List.mem_append_right _ (List.mem_of_getElem? (i := 674) (by decide +kernel)))
theorem kl_X2_leastBeside : Cond.selects M_X2_leastBeside.1.cls M_X2_leastBeside.1 M_X2_leastBeside.1 ∈ lw_tbl := (List.mem_append_left _ (by decide +kernel))
theorem kk_X2_findDeepest : Cond.code M_X2_findDeepest.1 M_X2_findDeepest.2.1 M_X2_findDeepest.2.2.1 M_X2_findDeepest.2.2.2 ∈ lw_tbl := (List.mem_append_right _ (List.mem_of_getElem? (i := 686) (by decide +kernel)))
theorem ki_X2_findDeepest : Cond.instanceMethod M_X2_findDeepest.1 ∈ lw_tbl := (List.mem_append_right _ (List.mem_of_getElem? (i := 684) (by decide +kernel)))
theorem kl_X2_findDeepest : Cond.selects M_X2_findDeepest.1.cls M_X2_findDeepest.1 M_X2_findDeepest.1 ∈ lw_tbl := (List.mem_append_right _ (List.mem_of_getElem? (i := 685) (by decide +kernel)))
theorem kk_X2_considerCrossing : Cond.code M_X2_considerCrossing.1 M_X2_considerCrossing.2.1 M_X2_considerCrossing.2.2.1 M_X2_considerCrossing.2.2.2 ∈ lw_tbl := (List.mem_append_right _ (List.mem_of_getElem? (i := 699) (by decide +kernel)))
theorem ki_X2_considerCrossing : Cond.instanceMethod M_X2_considerCrossing.1 ∈ lw_tbl := (List.mem_append_right _ (List.mem_of_getElem? (i := 698) (by decide +kernel)))
theorem kl_X2_considerCrossing : Cond.selects M_X2_considerCrossing.1.cls M_X2_considerCrossing.1 M_X2_considerCrossing.1 ∈ lw_tbl := (List.mem_append_left _ (by decide +kernel))
theorem kk_X2_consider : Cond.code M_X2_consider.1 M_X2_consider.2.1 M_X2_consider.2.2.1 M_X2_consider.2.2.2 ∈ lw_tbl := (List.mem_append_right _ (List.mem_of_getElem? (i := 690) (by decide +kernel)))
theorem ki_X2_consider : Cond.instanceMethod M_X2_consider.1 ∈ lw_tbl := (List.mem_append_right _ (List.mem_of_getElem? (i := 689) (by decide +kernel)))
theorem kl_X2_consider : Cond.selects M_X2_consider.1.cls M_X2_consider.1 M_X2_consider.1 ∈ lw_tbl := (List.mem_append_left _ (by decide +kernel))
theorem kk_X2_isAhead : Cond.code M_X2_isAhead.1 M_X2_isAhead.2.1 M_X2_isAhead.2.2.1 M_X2_isAhead.2.2.2 ∈ lw_tbl := (List.mem_append_right _ (List.mem_of_getElem? (i := 694) (by decide +kernel)))
theorem ki_X2_isAhead : Cond.instanceMethod M_X2_isAhead.1 ∈ lw_tbl := (List.mem_append_right _ (List.mem_of_getElem? (i := 693) (by decide +kernel)))
theorem kl_X2_isAhead : Cond.selects M_X2_isAhead.1.cls M_X2_isAhead.1 M_X2_isAhead.1 ∈ lw_tbl := (List.mem_append_left _ (by decide +kernel))
theorem kk_X2_tell : Cond.code M_X2_tell.1 M_X2_tell.2.1 M_X2_tell.2.2.1 M_X2_tell.2.2.2 ∈ lw_tbl := (List.mem_append_right _ (List.mem_of_getElem? (i := 703) (by decide +kernel)))
theorem ki_X2_tell : Cond.instanceMethod M_X2_tell.1 ∈ lw_tbl := (List.mem_append_right _ (List.mem_of_getElem? (i := 701) (by decide +kernel)))
theorem kl_X2_tell : Cond.selects M_X2_tell.1.cls M_X2_tell.1 M_X2_tell.1 ∈ lw_tbl := (List.mem_append_right _ (List.mem_of_getElem? (i := 702) (by decide +kernel)))
theorem kk_X3_peel : Cond.code M_X3_peel.1 M_X3_peel.2.1 M_X3_peel.2.2.1 M_X3_peel.2.2.2 ∈ lw_tbl := (List.mem_append_right _ (List.mem_of_getElem? (i := 495) (by decide +kernel)))
theorem ki_X3_peel : Cond.instanceMethod M_X3_peel.1 ∈ lw_tbl := (List.mem_append_right _ (List.mem_of_getElem? (i := 493) (by decide +kernel)))
theorem kl_X3_peel : Cond.selects M_X3_peel.1.cls M_X3_peel.1 M_X3_peel.1 ∈ lw_tbl := (List.mem_append_right _ (List.mem_of_getElem? (i := 494) (by decide +kernel)))
theorem kk_X3_peelOne : Cond.code M_X3_peelOne.1 M_X3_peelOne.2.1 M_X3_peelOne.2.2.1 M_X3_peelOne.2.2.2 ∈ lw_tbl := (List.mem_append_right _ (List.mem_of_getElem? (i := 499) (by decide +kernel)))
theorem ki_X3_peelOne : Cond.instanceMethod M_X3_peelOne.1 ∈ lw_tbl := (List.mem_append_right _ (List.mem_of_getElem? (i := 498) (by decide +kernel)))
theorem kl_X3_peelOne : Cond.selects M_X3_peelOne.1.cls M_X3_peelOne.1 M_X3_peelOne.1 ∈ lw_tbl := (List.mem_append_left _ (by decide +kernel))
theorem kk_X3_isIn : Cond.code M_X3_isIn.1 M_X3_isIn.2.1 M_X3_isIn.2.2.1 M_X3_isIn.2.2.2 ∈ lw_tbl := (List.mem_append_right _ (List.mem_of_getElem? (i := 507) (by decide +kernel)))
theorem ki_X3_isIn : Cond.instanceMethod M_X3_isIn.1 ∈ lw_tbl := (List.mem_append_right _ (List.mem_of_getElem? (i := 506) (by decide +kernel)))
theorem kl_X3_isIn : Cond.selects M_X3_isIn.1.cls M_X3_isIn.1 M_X3_isIn.1 ∈ lw_tbl := (List.mem_append_left _ (by decide +kernel))
theorem kk_X3_isOnEdge : Cond.code M_X3_isOnEdge.1 M_X3_isOnEdge.2.1 M_X3_isOnEdge.2.2.1 M_X3_isOnEdge.2.2.2 ∈ lw_tbl := (List.mem_append_right _ (List.mem_of_getElem? (i := 503) (by decide +kernel)))
theorem ki_X3_isOnEdge : Cond.instanceMethod M_X3_isOnEdge.1 ∈ lw_tbl := (List.mem_append_right _ (List.mem_of_getElem? (i := 502) (by decide +kernel)))
theorem kl_X3_isOnEdge : Cond.selects M_X3_isOnEdge.1.cls M_X3_isOnEdge.1 M_X3_isOnEdge.1 ∈ lw_tbl := (List.mem_append_left _ (by decide +kernel))
theorem kk_X3_isOneSided : Cond.code M_X3_isOneSided.1 M_X3_isOneSided.2.1 M_X3_isOneSided.2.2.1 M_X3_isOneSided.2.2.2 ∈ lw_tbl := (List.mem_append_right _ (List.mem_of_getElem? (i := 515) (by decide +kernel)))
theorem ki_X3_isOneSided : Cond.instanceMethod M_X3_isOneSided.1 ∈ lw_tbl := (List.mem_append_right _ (List.mem_of_getElem? (i := 514) (by decide +kernel)))
theorem kl_X3_isOneSided : Cond.selects M_X3_isOneSided.1.cls M_X3_isOneSided.1 M_X3_isOneSided.1 ∈ lw_tbl := (List.mem_append_left _ (by decide +kernel))
theorem kk_X3_layerOf : Cond.code M_X3_layerOf.1 M_X3_layerOf.2.1 M_X3_layerOf.2.2.1 M_X3_layerOf.2.2.2 ∈ lw_tbl := (List.mem_append_right _ (List.mem_of_getElem? (i := 527) (by decide +kernel)))
theorem ki_X3_layerOf : Cond.instanceMethod M_X3_layerOf.1 ∈ lw_tbl := (List.mem_append_right _ (List.mem_of_getElem? (i := 525) (by decide +kernel)))
theorem kl_X3_layerOf : Cond.selects M_X3_layerOf.1.cls M_X3_layerOf.1 M_X3_layerOf.1 ∈ lw_tbl := (List.mem_append_right _ (List.mem_of_getElem? (i := 526) (by decide +kernel)))
theorem kk_X3_sizeOf : Cond.code M_X3_sizeOf.1 M_X3_sizeOf.2.1 M_X3_sizeOf.2.2.1 M_X3_sizeOf.2.2.2 ∈ lw_tbl := (List.mem_append_right _ (List.mem_of_getElem? (i := 715) (by decide +kernel)))
theorem ki_X3_sizeOf : Cond.instanceMethod M_X3_sizeOf.1 ∈ lw_tbl := (List.mem_append_right _ (List.mem_of_getElem? (i := 713) (by decide +kernel)))
theorem kl_X3_sizeOf : Cond.selects M_X3_sizeOf.1.cls M_X3_sizeOf.1 M_X3_sizeOf.1 ∈ lw_tbl := (List.mem_append_right _ (List.mem_of_getElem? (i := 714) (by decide +kernel)))
theorem kk_X4_become : Cond.code M_X4_become.1 M_X4_become.2.1 M_X4_become.2.2.1 M_X4_become.2.2.2 ∈ lw_tbl := (List.mem_append_right _ (List.mem_of_getElem? (i := 565) (by decide +kernel)))
theorem ki_X4_become : Cond.instanceMethod M_X4_become.1 ∈ lw_tbl := (List.mem_append_right _ (List.mem_of_getElem? (i := 563) (by decide +kernel)))
theorem kl_X4_become : Cond.selects M_X4_become.1.cls M_X4_become.1 M_X4_become.1 ∈ lw_tbl := (List.mem_append_right _ (List.mem_of_getElem? (i := 564) (by decide +kernel)))
theorem kk_X4_join : Cond.code M_X4_join.1 M_X4_join.2.1 M_X4_join.2.2.1 M_X4_join.2.2.2 ∈ lw_tbl := (List.mem_append_right _ (List.mem_of_getElem? (i := 576) (by decide +kernel)))
theorem ki_X4_join : Cond.instanceMethod M_X4_join.1 ∈ lw_tbl := (List.mem_append_right _ (List.mem_of_getElem? (i := 574) (by decide +kernel)))
theorem kl_X4_join : Cond.selects M_X4_join.1.cls M_X4_join.1 M_X4_join.1 ∈ lw_tbl := (List.mem_append_right _ (List.mem_of_getElem? (i := 575) (by decide +kernel)))
theorem kk_X4_sideOf : Cond.code M_X4_sideOf.1 M_X4_sideOf.2.1 M_X4_sideOf.2.2.1 M_X4_sideOf.2.2.2 ∈ lw_tbl := (List.mem_append_right _ (List.mem_of_getElem? (i := 597) (by decide +kernel)))
theorem ki_X4_sideOf : Cond.instanceMethod M_X4_sideOf.1 ∈ lw_tbl := (List.mem_append_right _ (List.mem_of_getElem? (i := 595) (by decide +kernel)))
theorem kl_X4_sideOf : Cond.selects M_X4_sideOf.1.cls M_X4_sideOf.1 M_X4_sideOf.1 ∈ lw_tbl := (List.mem_append_right _ (List.mem_of_getElem? (i := 596) (by decide +kernel)))
theorem kk_X5_gather : Cond.code M_X5_gather.1 M_X5_gather.2.1 M_X5_gather.2.2.1 M_X5_gather.2.2.2 ∈ lw_tbl := (List.mem_append_right _ (List.mem_of_getElem? (i := 617) (by decide +kernel)))
theorem ki_X5_gather : Cond.instanceMethod M_X5_gather.1 ∈ lw_tbl := (List.mem_append_right _ (List.mem_of_getElem? (i := 615) (by decide +kernel)))
theorem kl_X5_gather : Cond.selects M_X5_gather.1.cls M_X5_gather.1 M_X5_gather.1 ∈ lw_tbl := (List.mem_append_right _ (List.mem_of_getElem? (i := 616) (by decide +kernel)))
theorem kk_X5_isFirstPair : Cond.code M_X5_isFirstPair.1 M_X5_isFirstPair.2.1 M_X5_isFirstPair.2.2.1 M_X5_isFirstPair.2.2.2 ∈ lw_tbl := (List.mem_append_right _ (List.mem_of_getElem? (i := 622) (by decide +kernel)))
theorem ki_X5_isFirstPair : Cond.instanceMethod M_X5_isFirstPair.1 ∈ lw_tbl := (List.mem_append_right _ (List.mem_of_getElem? (i := 621) (by decide +kernel)))
theorem kl_X5_isFirstPair : Cond.selects M_X5_isFirstPair.1.cls M_X5_isFirstPair.1 M_X5_isFirstPair.1 ∈ lw_tbl := (List.mem_append_left _ (by decide +kernel))
theorem kk_X5_add : Cond.code M_X5_add.1 M_X5_add.2.1 M_X5_add.2.2.1 M_X5_add.2.2.2 ∈ lw_tbl := (List.mem_append_right _ (List.mem_of_getElem? (i := 627) (by decide +kernel)))
theorem ki_X5_add : Cond.instanceMethod M_X5_add.1 ∈ lw_tbl := (List.mem_append_right _ (List.mem_of_getElem? (i := 626) (by decide +kernel)))
theorem kl_X5_add : Cond.selects M_X5_add.1.cls M_X5_add.1 M_X5_add.1 ∈ lw_tbl := (List.mem_append_left _ (by decide +kernel))
theorem kk_X5_plantsOn : Cond.code M_X5_plantsOn.1 M_X5_plantsOn.2.1 M_X5_plantsOn.2.2.1 M_X5_plantsOn.2.2.2 ∈ lw_tbl := (List.mem_append_right _ (List.mem_of_getElem? (i := 632) (by decide +kernel)))
theorem ki_X5_plantsOn : Cond.instanceMethod M_X5_plantsOn.1 ∈ lw_tbl := (List.mem_append_right _ (List.mem_of_getElem? (i := 631) (by decide +kernel)))
theorem kl_X5_plantsOn : Cond.selects M_X5_plantsOn.1.cls M_X5_plantsOn.1 M_X5_plantsOn.1 ∈ lw_tbl := (List.mem_append_left _ (by decide +kernel))
theorem kk_X5_furrowCount : Cond.code M_X5_furrowCount.1 M_X5_furrowCount.2.1 M_X5_furrowCount.2.2.1 M_X5_furrowCount.2.2.2 ∈ lw_tbl := (List.mem_append_right _ (List.mem_of_getElem? (i := 640) (by decide +kernel)))
theorem ki_X5_furrowCount : Cond.instanceMethod M_X5_furrowCount.1 ∈ lw_tbl := (List.mem_append_right _ (List.mem_of_getElem? (i := 638) (by decide +kernel)))
theorem kl_X5_furrowCount : Cond.selects M_X5_furrowCount.1.cls M_X5_furrowCount.1 M_X5_furrowCount.1 ∈ lw_tbl := (List.mem_append_right _ (List.mem_of_getElem? (i := 639) (by decide +kernel)))
theorem kk_X5_findFurrows : Cond.code M_X5_findFurrows.1 M_X5_findFurrows.2.1 M_X5_findFurrows.2.2.1 M_X5_findFurrows.2.2.2 ∈ lw_tbl := (List.mem_append_right _ (List.mem_of_getElem? (i := 644) (by decide +kernel)))
theorem ki_X5_findFurrows : Cond.instanceMethod M_X5_findFurrows.1 ∈ lw_tbl := (List.mem_append_right _ (List.mem_of_getElem? (i := 643) (by decide +kernel)))
theorem kl_X5_findFurrows : Cond.selects M_X5_findFurrows.1.cls M_X5_findFurrows.1 M_X5_findFurrows.1 ∈ lw_tbl := (List.mem_append_left _ (by decide +kernel))
theorem kk_X5_giveFurrow : Cond.code M_X5_giveFurrow.1 M_X5_giveFurrow.2.1 M_X5_giveFurrow.2.2.1 M_X5_giveFurrow.2.2.2 ∈ lw_tbl := (List.mem_append_right _ (List.mem_of_getElem? (i := 650) (by decide +kernel)))
theorem ki_X5_giveFurrow : Cond.instanceMethod M_X5_giveFurrow.1 ∈ lw_tbl := (List.mem_append_right _ (List.mem_of_getElem? (i := 648) (by decide +kernel)))
theorem kl_X5_giveFurrow : Cond.selects M_X5_giveFurrow.1.cls M_X5_giveFurrow.1 M_X5_giveFurrow.1 ∈ lw_tbl := (List.mem_append_right _ (List.mem_of_getElem? (i := 649) (by decide +kernel)))
theorem kk_X6_begin : Cond.code M_X6_begin.1 M_X6_begin.2.1 M_X6_begin.2.2.1 M_X6_begin.2.2.2 ∈ lw_tbl := (List.mem_append_right _ (List.mem_of_getElem? (i := 428) (by decide +kernel)))
theorem ki_X6_begin : Cond.instanceMethod M_X6_begin.1 ∈ lw_tbl := (List.mem_append_right _ (List.mem_of_getElem? (i := 426) (by decide +kernel)))
theorem kl_X6_begin : Cond.selects M_X6_begin.1.cls M_X6_begin.1 M_X6_begin.1 ∈ lw_tbl := (List.mem_append_right _ (List.mem_of_getElem? (i := 427) (by decide +kernel)))
theorem kk_X6_paint : Cond.code M_X6_paint.1 M_X6_paint.2.1 M_X6_paint.2.2.1 M_X6_paint.2.2.2 ∈ lw_tbl := (List.mem_append_right _ (List.mem_of_getElem? (i := 432) (by decide +kernel)))
theorem ki_X6_paint : Cond.instanceMethod M_X6_paint.1 ∈ lw_tbl := (List.mem_append_right _ (List.mem_of_getElem? (i := 430) (by decide +kernel)))
theorem kl_X6_paint : Cond.selects M_X6_paint.1.cls M_X6_paint.1 M_X6_paint.1 ∈ lw_tbl := (List.mem_append_right _ (List.mem_of_getElem? (i := 431) (by decide +kernel)))
theorem kk_X6_become : Cond.code M_X6_become.1 M_X6_become.2.1 M_X6_become.2.2.1 M_X6_become.2.2.2 ∈ lw_tbl := (List.mem_append_right _ (List.mem_of_getElem? (i := 424) (by decide +kernel)))
theorem ki_X6_become : Cond.instanceMethod M_X6_become.1 ∈ lw_tbl := (List.mem_append_right _ (List.mem_of_getElem? (i := 422) (by decide +kernel)))
theorem kl_X6_become : Cond.selects M_X6_become.1.cls M_X6_become.1 M_X6_become.1 ∈ lw_tbl := (List.mem_append_right _ (List.mem_of_getElem? (i := 423) (by decide +kernel)))
theorem kk_X6_isOf : Cond.code M_X6_isOf.1 M_X6_isOf.2.1 M_X6_isOf.2.2.1 M_X6_isOf.2.2.2 ∈ lw_tbl := (List.mem_append_right _ (List.mem_of_getElem? (i := 536) (by decide +kernel)))
theorem ki_X6_isOf : Cond.instanceMethod M_X6_isOf.1 ∈ lw_tbl := (List.mem_append_right _ (List.mem_of_getElem? (i := 534) (by decide +kernel)))
theorem kl_X6_isOf : Cond.selects M_X6_isOf.1.cls M_X6_isOf.1 M_X6_isOf.1 ∈ lw_tbl := (List.mem_append_right _ (List.mem_of_getElem? (i := 535) (by decide +kernel)))
theorem kk_X6_answer : Cond.code M_X6_answer.1 M_X6_answer.2.1 M_X6_answer.2.2.1 M_X6_answer.2.2.2 ∈ lw_tbl := (List.mem_append_right _ (List.mem_of_getElem? (i := 546) (by decide +kernel)))
theorem ki_X6_answer : Cond.instanceMethod M_X6_answer.1 ∈ lw_tbl := (List.mem_append_right _ (List.mem_of_getElem? (i := 544) (by decide +kernel)))
theorem kl_X6_answer : Cond.selects M_X6_answer.1.cls M_X6_answer.1 M_X6_answer.1 ∈ lw_tbl := (List.mem_append_right _ (List.mem_of_getElem? (i := 545) (by decide +kernel)))
theorem kk_X6_begun : Cond.code M_X6_begun.1 M_X6_begun.2.1 M_X6_begun.2.2.1 M_X6_begun.2.2.2 ∈ lw_tbl := (List.mem_append_right _ (List.mem_of_getElem? (i := 436) (by decide +kernel)))
theorem ki_X6_begun : Cond.instanceMethod M_X6_begun.1 ∈ lw_tbl := (List.mem_append_right _ (List.mem_of_getElem? (i := 435) (by decide +kernel)))
theorem kl_X6_begun : Cond.selects M_X6_begun.1.cls M_X6_begun.1 M_X6_begun.1 ∈ lw_tbl := (List.mem_append_left _ (by decide +kernel))
theorem kk_X6_gives : Cond.code M_X6_gives.1 M_X6_gives.2.1 M_X6_gives.2.2.1 M_X6_gives.2.2.2 ∈ lw_tbl := (List.mem_append_right _ (List.mem_of_getElem? (i := 443) (by decide +kernel)))
theorem ki_X6_gives : Cond.instanceMethod M_X6_gives.1 ∈ lw_tbl := (List.mem_append_right _ (List.mem_of_getElem? (i := 442) (by decide +kernel)))
theorem kl_X6_gives : Cond.selects M_X6_gives.1.cls M_X6_gives.1 M_X6_gives.1 ∈ lw_tbl := (List.mem_append_left _ (by decide +kernel))
theorem kk_X7_gather : Cond.code M_X7_gather.1 M_X7_gather.2.1 M_X7_gather.2.2.1 M_X7_gather.2.2.2 ∈ lw_tbl := (List.mem_append_right _ (List.mem_of_getElem? (i := 474) (by decide +kernel)))
theorem ki_X7_gather : Cond.instanceMethod M_X7_gather.1 ∈ lw_tbl := (List.mem_append_right _ (List.mem_of_getElem? (i := 472) (by decide +kernel)))
theorem kl_X7_gather : Cond.selects M_X7_gather.1.cls M_X7_gather.1 M_X7_gather.1 ∈ lw_tbl := (List.mem_append_right _ (List.mem_of_getElem? (i := 473) (by decide +kernel)))
theorem kk_X7_add : Cond.code M_X7_add.1 M_X7_add.2.1 M_X7_add.2.2.1 M_X7_add.2.2.2 ∈ lw_tbl := (List.mem_append_right _ (List.mem_of_getElem? (i := 478) (by decide +kernel)))
theorem ki_X7_add : Cond.instanceMethod M_X7_add.1 ∈ lw_tbl := (List.mem_append_right _ (List.mem_of_getElem? (i := 477) (by decide +kernel)))
theorem kl_X7_add : Cond.selects M_X7_add.1.cls M_X7_add.1 M_X7_add.1 ∈ lw_tbl := (List.mem_append_left _ (by decide +kernel))
theorem kk_X7_placeOf : Cond.code M_X7_placeOf.1 M_X7_placeOf.2.1 M_X7_placeOf.2.2.1 M_X7_placeOf.2.2.2 ∈ lw_tbl := (List.mem_append_right _ (List.mem_of_getElem? (i := 523) (by decide +kernel)))
theorem ki_X7_placeOf : Cond.instanceMethod M_X7_placeOf.1 ∈ lw_tbl := (List.mem_append_right _ (List.mem_of_getElem? (i := 521) (by decide +kernel)))
theorem kl_X7_placeOf : Cond.selects M_X7_placeOf.1.cls M_X7_placeOf.1 M_X7_placeOf.1 ∈ lw_tbl := (List.mem_append_right _ (List.mem_of_getElem? (i := 522) (by decide +kernel)))
theorem kk_X7_isTogether : Cond.code M_X7_isTogether.1 M_X7_isTogether.2.1 M_X7_isTogether.2.2.1 M_X7_isTogether.2.2.2 ∈ lw_tbl := (List.mem_append_right _ (List.mem_of_getElem? (i := 511) (by decide +kernel)))
theorem ki_X7_isTogether : Cond.instanceMethod M_X7_isTogether.1 ∈ lw_tbl := (List.mem_append_right _ (List.mem_of_getElem? (i := 509) (by decide +kernel)))
theorem kl_X7_isTogether : Cond.selects M_X7_isTogether.1.cls M_X7_isTogether.1 M_X7_isTogether.1 ∈ lw_tbl := (List.mem_append_right _ (List.mem_of_getElem? (i := 510) (by decide +kernel)))
theorem kk_X7_row : Cond.code M_X7_row.1 M_X7_row.2.1 M_X7_row.2.2.1 M_X7_row.2.2.2 ∈ lw_tbl := (List.mem_append_right _ (List.mem_of_getElem? (i := 593) (by decide +kernel)))
theorem ki_X7_row : Cond.instanceMethod M_X7_row.1 ∈ lw_tbl := (List.mem_append_right _ (List.mem_of_getElem? (i := 592) (by decide +kernel)))
theorem kl_X7_row : Cond.selects M_X7_row.1.cls M_X7_row.1 M_X7_row.1 ∈ lw_tbl := (List.mem_append_left _ (by decide +kernel))
theorem kk_X7_total : Cond.code M_X7_total.1 M_X7_total.2.1 M_X7_total.2.2.1 M_X7_total.2.2.2 ∈ lw_tbl := (List.mem_append_right _ (List.mem_of_getElem? (i := 671) (by decide +kernel)))
theorem ki_X7_total : Cond.instanceMethod M_X7_total.1 ∈ lw_tbl := (List.mem_append_right _ (List.mem_of_getElem? (i := 669) (by decide +kernel)))
theorem kl_X7_total : Cond.selects M_X7_total.1.cls M_X7_total.1 M_X7_total.1 ∈ lw_tbl := (List.mem_append_right _ (List.mem_of_getElem? (i := 670) (by decide +kernel)))
theorem kk_X7_sumAt : Cond.code M_X7_sumAt.1 M_X7_sumAt.2.1 M_X7_sumAt.2.2.1 M_X7_sumAt.2.2.2 ∈ lw_tbl := (List.mem_append_right _ (List.mem_of_getElem? (i := 589) (by decide +kernel)))
theorem ki_X7_sumAt : Cond.instanceMethod M_X7_sumAt.1 ∈ lw_tbl := (List.mem_append_right _ (List.mem_of_getElem? (i := 587) (by decide +kernel)))
theorem kl_X7_sumAt : Cond.selects M_X7_sumAt.1.cls M_X7_sumAt.1 M_X7_sumAt.1 ∈ lw_tbl := (List.mem_append_right _ (List.mem_of_getElem? (i := 588) (by decide +kernel)))
theorem kk_X7_isHalvedBy : Cond.code M_X7_isHalvedBy.1 M_X7_isHalvedBy.2.1 M_X7_isHalvedBy.2.2.1 M_X7_isHalvedBy.2.2.2 ∈ lw_tbl := (List.mem_append_right _ (List.mem_of_getElem? (i := 605) (by decide +kernel)))
theorem ki_X7_isHalvedBy : Cond.instanceMethod M_X7_isHalvedBy.1 ∈ lw_tbl := (List.mem_append_right _ (List.mem_of_getElem? (i := 603) (by decide +kernel)))
theorem kl_X7_isHalvedBy : Cond.selects M_X7_isHalvedBy.1.cls M_X7_isHalvedBy.1 M_X7_isHalvedBy.1 ∈ lw_tbl := (List.mem_append_right _ (List.mem_of_getElem? (i := 604) (by decide +kernel)))
theorem kk_X7_turn : Cond.code M_X7_turn.1 M_X7_turn.2.1 M_X7_turn.2.2.1 M_X7_turn.2.2.2 ∈ lw_tbl := (List.mem_append_right _ (List.mem_of_getElem? (i := 519) (by decide +kernel)))
theorem ki_X7_turn : Cond.instanceMethod M_X7_turn.1 ∈ lw_tbl := (List.mem_append_right _ (List.mem_of_getElem? (i := 517) (by decide +kernel)))
theorem kl_X7_turn : Cond.selects M_X7_turn.1.cls M_X7_turn.1 M_X7_turn.1 ∈ lw_tbl := (List.mem_append_right _ (List.mem_of_getElem? (i := 518) (by decide +kernel)))
theorem kk_X8_findWidest : Cond.code M_X8_findWidest.1 M_X8_findWidest.2.1 M_X8_findWidest.2.2.1 M_X8_findWidest.2.2.2 ∈ lw_tbl := (List.mem_append_right _ (List.mem_of_getElem? (i := 727) (by decide +kernel)))
theorem ki_X8_findWidest : Cond.instanceMethod M_X8_findWidest.1 ∈ lw_tbl := (List.mem_append_right _ (List.mem_of_getElem? (i := 725) (by decide +kernel)))
theorem kl_X8_findWidest : Cond.selects M_X8_findWidest.1.cls M_X8_findWidest.1 M_X8_findWidest.1 ∈ lw_tbl := (List.mem_append_right _ (List.mem_of_getElem? (i := 726) (by decide +kernel)))
theorem kk_X8_consider : Cond.code M_X8_consider.1 M_X8_consider.2.1 M_X8_consider.2.2.1 M_X8_consider.2.2.2 ∈ lw_tbl := (List.mem_append_right _ (List.mem_of_getElem? (i := 731) (by decide +kernel)))
theorem ki_X8_consider : Cond.instanceMethod M_X8_consider.1 ∈ lw_tbl := (List.mem_append_right _ (List.mem_of_getElem? (i := 730) (by decide +kernel)))
theorem kl_X8_consider : Cond.selects M_X8_consider.1.cls M_X8_consider.1 M_X8_consider.1 ∈ lw_tbl := (List.mem_append_left _ (by decide +kernel))
theorem kk_X8_putInOrder : Cond.code M_X8_putInOrder.1 M_X8_putInOrder.2.1 M_X8_putInOrder.2.2.1 M_X8_putInOrder.2.2.2 ∈ lw_tbl := (List.mem_append_right _ (List.mem_of_getElem? (i := 735) (by decide +kernel)))
theorem ki_X8_putInOrder : Cond.instanceMethod M_X8_putInOrder.1 ∈ lw_tbl := (List.mem_append_right _ (List.mem_of_getElem? (i := 734) (by decide +kernel)))
theorem kl_X8_putInOrder : Cond.selects M_X8_putInOrder.1.cls M_X8_putInOrder.1 M_X8_putInOrder.1 ∈ lw_tbl := (List.mem_append_left _ (by decide +kernel))
theorem kk_X9_leave : Cond.code M_X9_leave.1 M_X9_leave.2.1 M_X9_leave.2.2.1 M_X9_leave.2.2.2 ∈ lw_tbl := (List.mem_append_right _ (List.mem_of_getElem? (i := 447) (by decide +kernel)))
theorem ki_X9_leave : Cond.instanceMethod M_X9_leave.1 ∈ lw_tbl := (List.mem_append_right _ (List.mem_of_getElem? (i := 445) (by decide +kernel)))
theorem kl_X9_leave : Cond.selects M_X9_leave.1.cls M_X9_leave.1 M_X9_leave.1 ∈ lw_tbl := (List.mem_append_right _ (List.mem_of_getElem? (i := 446) (by decide +kernel)))
theorem kk_X10_bed : Cond.code M_X10_bed.1 M_X10_bed.2.1 M_X10_bed.2.2.1 M_X10_bed.2.2.2 ∈ lw_tbl := (List.mem_append_right _ (List.mem_of_getElem? (i := 360) (by decide +kernel)))
theorem ki_X10_bed : Cond.instanceMethod M_X10_bed.1 ∈ lw_tbl := (List.mem_append_right _ (List.mem_of_getElem? (i := 358) (by decide +kernel)))
theorem kl_X10_bed : Cond.selects M_X10_bed.1.cls M_X10_bed.1 M_X10_bed.1 ∈ lw_tbl := (List.mem_append_right _ (List.mem_of_getElem? (i := 359) (by decide +kernel)))
theorem kk_X10_set : Cond.code M_X10_set.1 M_X10_set.2.1 M_X10_set.2.2.1 M_X10_set.2.2.2 ∈ lw_tbl := (List.mem_append_right _ (List.mem_of_getElem? (i := 384) (by decide +kernel)))
theorem ki_X10_set : Cond.instanceMethod M_X10_set.1 ∈ lw_tbl := (List.mem_append_right _ (List.mem_of_getElem? (i := 382) (by decide +kernel)))
theorem kl_X10_set : Cond.selects M_X10_set.1.cls M_X10_set.1 M_X10_set.1 ∈ lw_tbl := (List.mem_append_right _ (List.mem_of_getElem? (i := 383) (by decide +kernel)))
theorem kk_X10_drop : Cond.code M_X10_drop.1 M_X10_drop.2.1 M_X10_drop.2.2.1 M_X10_drop.2.2.2 ∈ lw_tbl := (List.mem_append_right _ (List.mem_of_getElem? (i := 397) (by decide +kernel)))
theorem ki_X10_drop : Cond.instanceMethod M_X10_drop.1 ∈ lw_tbl := (List.mem_append_right _ (List.mem_of_getElem? (i := 395) (by decide +kernel)))
theorem kl_X10_drop : Cond.selects M_X10_drop.1.cls M_X10_drop.1 M_X10_drop.1 ∈ lw_tbl := (List.mem_append_right _ (List.mem_of_getElem? (i := 396) (by decide +kernel)))
theorem kk_X10_copy : Cond.code M_X10_copy.1 M_X10_copy.2.1 M_X10_copy.2.2.1 M_X10_copy.2.2.2 ∈ lw_tbl := (List.mem_append_right _ (List.mem_of_getElem? (i := 401) (by decide +kernel)))
theorem ki_X10_copy : Cond.instanceMethod M_X10_copy.1 ∈ lw_tbl := (List.mem_append_right _ (List.mem_of_getElem? (i := 399) (by decide +kernel)))
theorem kl_X10_copy : Cond.selects M_X10_copy.1.cls M_X10_copy.1 M_X10_copy.1 ∈ lw_tbl := (List.mem_append_right _ (List.mem_of_getElem? (i := 400) (by decide +kernel)))
theorem kk_X10_plant : Cond.code M_X10_plant.1 M_X10_plant.2.1 M_X10_plant.2.2.1 M_X10_plant.2.2.2 ∈ lw_tbl := (List.mem_append_right _ (List.mem_of_getElem? (i := 408) (by decide +kernel)))
theorem ki_X10_plant : Cond.instanceMethod M_X10_plant.1 ∈ lw_tbl := (List.mem_append_right _ (List.mem_of_getElem? (i := 406) (by decide +kernel)))
theorem kl_X10_plant : Cond.selects M_X10_plant.1.cls M_X10_plant.1 M_X10_plant.1 ∈ lw_tbl := (List.mem_append_right _ (List.mem_of_getElem? (i := 407) (by decide +kernel)))
theorem kk_X10_move : Cond.code M_X10_move.1 M_X10_move.2.1 M_X10_move.2.2.1 M_X10_move.2.2.2 ∈ lw_tbl := (List.mem_append_right _ (List.mem_of_getElem? (i := 458) (by decide +kernel)))
theorem ki_X10_move : Cond.instanceMethod M_X10_move.1 ∈ lw_tbl := (List.mem_append_right _ (List.mem_of_getElem? (i := 456) (by decide +kernel)))
theorem kl_X10_move : Cond.selects M_X10_move.1.cls M_X10_move.1 M_X10_move.1 ∈ lw_tbl := (List.mem_append_right _ (List.mem_of_getElem? (i := 457) (by decide +kernel)))
theorem kk_X10_away : Cond.code M_X10_away.1 M_X10_away.2.1 M_X10_away.2.2.1 M_X10_away.2.2.2 ∈ lw_tbl := (List.mem_append_right _ (List.mem_of_getElem? (i := 466) (by decide +kernel)))
theorem ki_X10_away : Cond.instanceMethod M_X10_away.1 ∈ lw_tbl := (List.mem_append_right _ (List.mem_of_getElem? (i := 464) (by decide +kernel)))
theorem kl_X10_away : Cond.selects M_X10_away.1.cls M_X10_away.1 M_X10_away.1 ∈ lw_tbl := (List.mem_append_right _ (List.mem_of_getElem? (i := 465) (by decide +kernel)))
theorem kk_X10_colour : Cond.code M_X10_colour.1 M_X10_colour.2.1 M_X10_colour.2.2.1 M_X10_colour.2.2.2 ∈ lw_tbl := (List.mem_append_right _ (List.mem_of_getElem? (i := 482) (by decide +kernel)))
theorem ki_X10_colour : Cond.instanceMethod M_X10_colour.1 ∈ lw_tbl := (List.mem_append_right _ (List.mem_of_getElem? (i := 480) (by decide +kernel)))
theorem kl_X10_colour : Cond.selects M_X10_colour.1.cls M_X10_colour.1 M_X10_colour.1 ∈ lw_tbl := (List.mem_append_right _ (List.mem_of_getElem? (i := 481) (by decide +kernel)))
theorem kk_X10_told : Cond.code M_X10_told.1 M_X10_told.2.1 M_X10_told.2.2.1 M_X10_told.2.2.2 ∈ lw_tbl := (List.mem_append_right _ (List.mem_of_getElem? (i := 487) (by decide +kernel)))
theorem ki_X10_told : Cond.instanceMethod M_X10_told.1 ∈ lw_tbl := (List.mem_append_right _ (List.mem_of_getElem? (i := 485) (by decide +kernel)))
theorem kl_X10_told : Cond.selects M_X10_told.1.cls M_X10_told.1 M_X10_told.1 ∈ lw_tbl := (List.mem_append_right _ (List.mem_of_getElem? (i := 486) (by decide +kernel)))
theorem kk_X10_is : Cond.code M_X10_is.1 M_X10_is.2.1 M_X10_is.2.2.1 M_X10_is.2.2.2 ∈ lw_tbl := (List.mem_append_right _ (List.mem_of_getElem? (i := 532) (by decide +kernel)))
theorem ki_X10_is : Cond.instanceMethod M_X10_is.1 ∈ lw_tbl := (List.mem_append_right _ (List.mem_of_getElem? (i := 530) (by decide +kernel)))
theorem kl_X10_is : Cond.selects M_X10_is.1.cls M_X10_is.1 M_X10_is.1 ∈ lw_tbl := (List.mem_append_right _ (List.mem_of_getElem? (i := 531) (by decide +kernel)))
theorem kk_X10_ask : Cond.code M_X10_ask.1 M_X10_ask.2.1 M_X10_ask.2.2.1 M_X10_ask.2.2.2 ∈ lw_tbl := (List.mem_append_right _ (List.mem_of_getElem? (i := 542) (by decide +kernel)))
theorem ki_X10_ask : Cond.instanceMethod M_X10_ask.1 ∈ lw_tbl := (List.mem_append_right _ (List.mem_of_getElem? (i := 540) (by decide +kernel)))
theorem kl_X10_ask : Cond.selects M_X10_ask.1.cls M_X10_ask.1 M_X10_ask.1 ∈ lw_tbl := (List.mem_append_right _ (List.mem_of_getElem? (i := 541) (by decide +kernel)))
theorem kk_X10_trace : Cond.code M_X10_trace.1 M_X10_trace.2.1 M_X10_trace.2.2.1 M_X10_trace.2.2.2 ∈ lw_tbl := (List.mem_append_right _ (List.mem_of_getElem? (i := 550) (by decide +kernel)))
theorem ki_X10_trace : Cond.instanceMethod M_X10_trace.1 ∈ lw_tbl := (List.mem_append_right _ (List.mem_of_getElem? (i := 548) (by decide +kernel)))
theorem kl_X10_trace : Cond.selects M_X10_trace.1.cls M_X10_trace.1 M_X10_trace.1 ∈ lw_tbl := (List.mem_append_right _ (List.mem_of_getElem? (i := 549) (by decide +kernel)))
theorem kk_X10_undo : Cond.code M_X10_undo.1 M_X10_undo.2.1 M_X10_undo.2.2.1 M_X10_undo.2.2.2 ∈ lw_tbl := (List.mem_append_right _ (List.mem_of_getElem? (i := 555) (by decide +kernel)))
theorem ki_X10_undo : Cond.instanceMethod M_X10_undo.1 ∈ lw_tbl := (List.mem_append_right _ (List.mem_of_getElem? (i := 553) (by decide +kernel)))
theorem kl_X10_undo : Cond.selects M_X10_undo.1.cls M_X10_undo.1 M_X10_undo.1 ∈ lw_tbl := (List.mem_append_right _ (List.mem_of_getElem? (i := 554) (by decide +kernel)))
theorem kk_X10_line : Cond.code M_X10_line.1 M_X10_line.2.1 M_X10_line.2.2.1 M_X10_line.2.2.2 ∈ lw_tbl := (List.mem_append_right _ (List.mem_of_getElem? (i := 560) (by decide +kernel)))
theorem ki_X10_line : Cond.instanceMethod M_X10_line.1 ∈ lw_tbl := (List.mem_append_right _ (List.mem_of_getElem? (i := 558) (by decide +kernel)))
theorem kl_X10_line : Cond.selects M_X10_line.1.cls M_X10_line.1 M_X10_line.1 ∈ lw_tbl := (List.mem_append_right _ (List.mem_of_getElem? (i := 559) (by decide +kernel)))
theorem kk_X10_through : Cond.code M_X10_through.1 M_X10_through.2.1 M_X10_through.2.2.1 M_X10_through.2.2.2 ∈ lw_tbl := (List.mem_append_right _ (List.mem_of_getElem? (i := 572) (by decide +kernel)))
theorem ki_X10_through : Cond.instanceMethod M_X10_through.1 ∈ lw_tbl := (List.mem_append_right _ (List.mem_of_getElem? (i := 570) (by decide +kernel)))
theorem kl_X10_through : Cond.selects M_X10_through.1.cls M_X10_through.1 M_X10_through.1 ∈ lw_tbl := (List.mem_append_right _ (List.mem_of_getElem? (i := 571) (by decide +kernel)))
theorem kk_X10_lineAt : Cond.code M_X10_lineAt.1 M_X10_lineAt.2.1 M_X10_lineAt.2.2.1 M_X10_lineAt.2.2.2 ∈ lw_tbl := (List.mem_append_right _ (List.mem_of_getElem? (i := 581) (by decide +kernel)))
theorem ki_X10_lineAt : Cond.instanceMethod M_X10_lineAt.1 ∈ lw_tbl := (List.mem_append_right _ (List.mem_of_getElem? (i := 579) (by decide +kernel)))
theorem kl_X10_lineAt : Cond.selects M_X10_lineAt.1.cls M_X10_lineAt.1 M_X10_lineAt.1 ∈ lw_tbl := (List.mem_append_right _ (List.mem_of_getElem? (i := 580) (by decide +kernel)))
theorem kk_X10_side : Cond.code M_X10_side.1 M_X10_side.2.1 M_X10_side.2.2.1 M_X10_side.2.2.2 ∈ lw_tbl := (List.mem_append_right _ (List.mem_of_getElem? (i := 585) (by decide +kernel)))
theorem ki_X10_side : Cond.instanceMethod M_X10_side.1 ∈ lw_tbl := (List.mem_append_right _ (List.mem_of_getElem? (i := 583) (by decide +kernel)))
theorem kl_X10_side : Cond.selects M_X10_side.1.cls M_X10_side.1 M_X10_side.1 ∈ lw_tbl := (List.mem_append_right _ (List.mem_of_getElem? (i := 584) (by decide +kernel)))
theorem kk_X10_halves : Cond.code M_X10_halves.1 M_X10_halves.2.1 M_X10_halves.2.2.1 M_X10_halves.2.2.2 ∈ lw_tbl := (List.mem_append_right _ (List.mem_of_getElem? (i := 601) (by decide +kernel)))
theorem ki_X10_halves : Cond.instanceMethod M_X10_halves.1 ∈ lw_tbl := (List.mem_append_right _ (List.mem_of_getElem? (i := 599) (by decide +kernel)))
theorem kl_X10_halves : Cond.selects M_X10_halves.1.cls M_X10_halves.1 M_X10_halves.1 ∈ lw_tbl := (List.mem_append_right _ (List.mem_of_getElem? (i := 600) (by decide +kernel)))
theorem kk_X10_furrow : Cond.code M_X10_furrow.1 M_X10_furrow.2.1 M_X10_furrow.2.2.1 M_X10_furrow.2.2.2 ∈ lw_tbl := (List.mem_append_right _ (List.mem_of_getElem? (i := 609) (by decide +kernel)))
theorem ki_X10_furrow : Cond.instanceMethod M_X10_furrow.1 ∈ lw_tbl := (List.mem_append_right _ (List.mem_of_getElem? (i := 607) (by decide +kernel)))
theorem kl_X10_furrow : Cond.selects M_X10_furrow.1.cls M_X10_furrow.1 M_X10_furrow.1 ∈ lw_tbl := (List.mem_append_right _ (List.mem_of_getElem? (i := 608) (by decide +kernel)))
theorem kk_X10_furrows : Cond.code M_X10_furrows.1 M_X10_furrows.2.1 M_X10_furrows.2.2.1 M_X10_furrows.2.2.2 ∈ lw_tbl := (List.mem_append_right _ (List.mem_of_getElem? (i := 655) (by decide +kernel)))
theorem ki_X10_furrows : Cond.instanceMethod M_X10_furrows.1 ∈ lw_tbl := (List.mem_append_right _ (List.mem_of_getElem? (i := 653) (by decide +kernel)))
theorem kl_X10_furrows : Cond.selects M_X10_furrows.1.cls M_X10_furrows.1 M_X10_furrows.1 ∈ lw_tbl := (List.mem_append_right _ (List.mem_of_getElem? (i := 654) (by decide +kernel)))
theorem kk_X10_depth : Cond.code M_X10_depth.1 M_X10_depth.2.1 M_X10_depth.2.2.1 M_X10_depth.2.2.2 ∈ lw_tbl := (List.mem_append_right _ (List.mem_of_getElem? (i := 659) (by decide +kernel)))
theorem ki_X10_depth : Cond.instanceMethod M_X10_depth.1 ∈ lw_tbl := (List.mem_append_right _ (List.mem_of_getElem? (i := 657) (by decide +kernel)))
theorem kl_X10_depth : Cond.selects M_X10_depth.1.cls M_X10_depth.1 M_X10_depth.1 ∈ lw_tbl := (List.mem_append_right _ (List.mem_of_getElem? (i := 658) (by decide +kernel)))
theorem kk_X10_deepest : Cond.code M_X10_deepest.1 M_X10_deepest.2.1 M_X10_deepest.2.2.1 M_X10_deepest.2.2.2 ∈ lw_tbl := (List.mem_append_right _ (List.mem_of_getElem? (i := 680) (by decide +kernel)))
theorem ki_X10_deepest : Cond.instanceMethod M_X10_deepest.1 ∈ lw_tbl := (List.mem_append_right _ (List.mem_of_getElem? (i := 678) (by decide +kernel)))
theorem kl_X10_deepest : Cond.selects M_X10_deepest.1.cls M_X10_deepest.1 M_X10_deepest.1 ∈ lw_tbl := (List.mem_append_right _ (List.mem_of_getElem? (i := 679) (by decide +kernel)))
theorem kk_X10_layer : Cond.code M_X10_layer.1 M_X10_layer.2.1 M_X10_layer.2.2.1 M_X10_layer.2.2.2 ∈ lw_tbl := (List.mem_append_right _ (List.mem_of_getElem? (i := 711) (by decide +kernel)))
theorem ki_X10_layer : Cond.instanceMethod M_X10_layer.1 ∈ lw_tbl := (List.mem_append_right _ (List.mem_of_getElem? (i := 709) (by decide +kernel)))
theorem kl_X10_layer : Cond.selects M_X10_layer.1.cls M_X10_layer.1 M_X10_layer.1 ∈ lw_tbl := (List.mem_append_right _ (List.mem_of_getElem? (i := 710) (by decide +kernel)))
theorem kk_X10_widest : Cond.code M_X10_widest.1 M_X10_widest.2.1 M_X10_widest.2.2.1 M_X10_widest.2.2.2 ∈ lw_tbl := (List.mem_append_right _ (List.mem_of_getElem? (i := 723) (by decide +kernel)))
theorem ki_X10_widest : Cond.instanceMethod M_X10_widest.1 ∈ lw_tbl := (List.mem_append_right _ (List.mem_of_getElem? (i := 721) (by decide +kernel)))
theorem kl_X10_widest : Cond.selects M_X10_widest.1.cls M_X10_widest.1 M_X10_widest.1 ∈ lw_tbl := (List.mem_append_right _ (List.mem_of_getElem? (i := 722) (by decide +kernel)))
theorem kk_X10_count : Cond.code M_X10_count.1 M_X10_count.2.1 M_X10_count.2.2.1 M_X10_count.2.2.2 ∈ lw_tbl := (List.mem_append_right _ (List.mem_of_getElem? (i := 743) (by decide +kernel)))
theorem ki_X10_count : Cond.instanceMethod M_X10_count.1 ∈ lw_tbl := (List.mem_append_right _ (List.mem_of_getElem? (i := 741) (by decide +kernel)))
theorem kl_X10_count : Cond.selects M_X10_count.1.cls M_X10_count.1 M_X10_count.1 ∈ lw_tbl := (List.mem_append_right _ (List.mem_of_getElem? (i := 742) (by decide +kernel)))
theorem kk_X10_status : Cond.code M_X10_status.1 M_X10_status.2.1 M_X10_status.2.2.1 M_X10_status.2.2.2 ∈ lw_tbl := (List.mem_append_right _ (List.mem_of_getElem? (i := 752) (by decide +kernel)))
theorem ki_X10_status : Cond.instanceMethod M_X10_status.1 ∈ lw_tbl := (List.mem_append_right _ (List.mem_of_getElem? (i := 750) (by decide +kernel)))
theorem kl_X10_status : Cond.selects M_X10_status.1.cls M_X10_status.1 M_X10_status.1 ∈ lw_tbl := (List.mem_append_right _ (List.mem_of_getElem? (i := 751) (by decide +kernel)))
theorem kk_X10_found : Cond.code M_X10_found.1 M_X10_found.2.1 M_X10_found.2.2.1 M_X10_found.2.2.2 ∈ lw_tbl := (List.mem_append_right _ (List.mem_of_getElem? (i := 371) (by decide +kernel)))
theorem ki_X10_found : Cond.instanceMethod M_X10_found.1 ∈ lw_tbl := (List.mem_append_right _ (List.mem_of_getElem? (i := 370) (by decide +kernel)))
theorem kl_X10_found : Cond.selects M_X10_found.1.cls M_X10_found.1 M_X10_found.1 ∈ lw_tbl := (List.mem_append_left _ (by decide +kernel))
theorem kk_X10_done : Cond.code M_X10_done.1 M_X10_done.2.1 M_X10_done.2.2.1 M_X10_done.2.2.2 ∈ lw_tbl := (List.mem_append_right _ (List.mem_of_getElem? (i := 380) (by decide +kernel)))
theorem ki_X10_done : Cond.instanceMethod M_X10_done.1 ∈ lw_tbl := (List.mem_append_right _ (List.mem_of_getElem? (i := 379) (by decide +kernel)))
theorem kl_X10_done : Cond.selects M_X10_done.1.cls M_X10_done.1 M_X10_done.1 ∈ lw_tbl := (List.mem_append_left _ (by decide +kernel))
theorem kk_X10_isGiven : Cond.code M_X10_isGiven.1 M_X10_isGiven.2.1 M_X10_isGiven.2.2.1 M_X10_isGiven.2.2.2 ∈ lw_tbl := (List.mem_append_right _ (List.mem_of_getElem? (i := 462) (by decide +kernel)))
theorem ki_X10_isGiven : Cond.instanceMethod M_X10_isGiven.1 ∈ lw_tbl := (List.mem_append_right _ (List.mem_of_getElem? (i := 461) (by decide +kernel)))
theorem kl_X10_isGiven : Cond.selects M_X10_isGiven.1.cls M_X10_isGiven.1 M_X10_isGiven.1 ∈ lw_tbl := (List.mem_append_left _ (by decide +kernel))
theorem kk_X10_bedsThere : Cond.code M_X10_bedsThere.1 M_X10_bedsThere.2.1 M_X10_bedsThere.2.2.1 M_X10_bedsThere.2.2.2 ∈ lw_tbl := (List.mem_append_right _ (List.mem_of_getElem? (i := 747) (by decide +kernel)))
theorem ki_X10_bedsThere : Cond.instanceMethod M_X10_bedsThere.1 ∈ lw_tbl := (List.mem_append_right _ (List.mem_of_getElem? (i := 746) (by decide +kernel)))
theorem kl_X10_bedsThere : Cond.selects M_X10_bedsThere.1.cls M_X10_bedsThere.1 M_X10_bedsThere.1 ∈ lw_tbl := (List.mem_append_left _ (by decide +kernel))
theorem kk_X10_keepForUndo : Cond.code M_X10_keepForUndo.1 M_X10_keepForUndo.2.1 M_X10_keepForUndo.2.2.1 M_X10_keepForUndo.2.2.2 ∈ lw_tbl := (List.mem_append_right _ (List.mem_of_getElem? (i := 420) (by decide +kernel)))
theorem ki_X10_keepForUndo : Cond.instanceMethod M_X10_keepForUndo.1 ∈ lw_tbl := (List.mem_append_right _ (List.mem_of_getElem? (i := 419) (by decide +kernel)))
theorem kl_X10_keepForUndo : Cond.selects M_X10_keepForUndo.1.cls M_X10_keepForUndo.1 M_X10_keepForUndo.1 ∈ lw_tbl := (List.mem_append_left _ (by decide +kernel))
theorem kk_X10_forget : Cond.code M_X10_forget.1 M_X10_forget.2.1 M_X10_forget.2.2.1 M_X10_forget.2.2.2 ∈ lw_tbl := (List.mem_append_right _ (List.mem_of_getElem? (i := 454) (by decide +kernel)))
theorem ki_X10_forget : Cond.instanceMethod M_X10_forget.1 ∈ lw_tbl := (List.mem_append_right _ (List.mem_of_getElem? (i := 453) (by decide +kernel)))
theorem kl_X10_forget : Cond.selects M_X10_forget.1.cls M_X10_forget.1 M_X10_forget.1 ∈ lw_tbl := (List.mem_append_left _ (by decide +kernel))
theorem kk_X10_gathered : Cond.code M_X10_gathered.1 M_X10_gathered.2.1 M_X10_gathered.2.2.1 M_X10_gathered.2.2.2 ∈ lw_tbl := (List.mem_append_right _ (List.mem_of_getElem? (i := 470) (by decide +kernel)))
theorem ki_X10_gathered : Cond.instanceMethod M_X10_gathered.1 ∈ lw_tbl := (List.mem_append_right _ (List.mem_of_getElem? (i := 469) (by decide +kernel)))
theorem kl_X10_gathered : Cond.selects M_X10_gathered.1.cls M_X10_gathered.1 M_X10_gathered.1 ∈ lw_tbl := (List.mem_append_left _ (by decide +kernel))
theorem kk_X10_joined : Cond.code M_X10_joined.1 M_X10_joined.2.1 M_X10_joined.2.2.1 M_X10_joined.2.2.2 ∈ lw_tbl := (List.mem_append_right _ (List.mem_of_getElem? (i := 613) (by decide +kernel)))
theorem ki_X10_joined : Cond.instanceMethod M_X10_joined.1 ∈ lw_tbl := (List.mem_append_right _ (List.mem_of_getElem? (i := 612) (by decide +kernel)))
theorem kl_X10_joined : Cond.selects M_X10_joined.1.cls M_X10_joined.1 M_X10_joined.1 ∈ lw_tbl := (List.mem_append_left _ (by decide +kernel))
theorem kk_X10_peeled : Cond.code M_X10_peeled.1 M_X10_peeled.2.1 M_X10_peeled.2.2.1 M_X10_peeled.2.2.2 ∈ lw_tbl := (List.mem_append_right _ (List.mem_of_getElem? (i := 491) (by decide +kernel)))
theorem ki_X10_peeled : Cond.instanceMethod M_X10_peeled.1 ∈ lw_tbl := (List.mem_append_right _ (List.mem_of_getElem? (i := 490) (by decide +kernel)))
theorem kl_X10_peeled : Cond.selects M_X10_peeled.1.cls M_X10_peeled.1 M_X10_peeled.1 ∈ lw_tbl := (List.mem_append_left _ (by decide +kernel))
theorem kk_X10_isBelow : Cond.code M_X10_isBelow.1 M_X10_isBelow.2.1 M_X10_isBelow.2.2.1 M_X10_isBelow.2.2.2 ∈ lw_tbl := (List.mem_append_right _ (List.mem_of_getElem? (i := 366) (by decide +kernel)))
theorem kt_X10_isBelow : Cond.static M_X10_isBelow.1 ∈ lw_tbl := (List.mem_append_right _ (List.mem_of_getElem? (i := 365) (by decide +kernel)))
theorem kk_X10_isWithin : Cond.code M_X10_isWithin.1 M_X10_isWithin.2.1 M_X10_isWithin.2.2.1 M_X10_isWithin.2.2.2 ∈ lw_tbl := (List.mem_append_right _ (List.mem_of_getElem? (i := 416) (by decide +kernel)))
theorem kt_X10_isWithin : Cond.static M_X10_isWithin.1 ∈ lw_tbl := (List.mem_append_right _ (List.mem_of_getElem? (i := 415) (by decide +kernel)))
theorem kk_X10_isInField : Cond.code M_X10_isInField.1 M_X10_isInField.2.1 M_X10_isInField.2.2.1 M_X10_isInField.2.2.2 ∈ lw_tbl := (List.mem_append_right _ (List.mem_of_getElem? (i := 412) (by decide +kernel)))
theorem kt_X10_isInField : Cond.static M_X10_isInField.1 ∈ lw_tbl := (List.mem_append_right _ (List.mem_of_getElem? (i := 411) (by decide +kernel)))
theorem kk_X10_isBed : Cond.code M_X10_isBed.1 M_X10_isBed.2.1 M_X10_isBed.2.2.1 M_X10_isBed.2.2.2 ∈ lw_tbl := (List.mem_append_right _ (List.mem_of_getElem? (i := 363) (by decide +kernel)))
theorem kt_X10_isBed : Cond.static M_X10_isBed.1 ∈ lw_tbl := (List.mem_append_right _ (List.mem_of_getElem? (i := 362) (by decide +kernel)))
theorem kk_X10_commonDivisor : Cond.code M_X10_commonDivisor.1 M_X10_commonDivisor.2.1 M_X10_commonDivisor.2.2.1 M_X10_commonDivisor.2.2.2 ∈ lw_tbl := (List.mem_append_right _ (List.mem_of_getElem? (i := 568) (by decide +kernel)))
theorem kt_X10_commonDivisor : Cond.static M_X10_commonDivisor.1 ∈ lw_tbl := (List.mem_append_right _ (List.mem_of_getElem? (i := 567) (by decide +kernel)))
theorem kk_X10_without : Cond.code M_X10_without.1 M_X10_without.2.1 M_X10_without.2.2.1 M_X10_without.2.2.2 ∈ lw_tbl := (List.mem_append_right _ (List.mem_of_getElem? (i := 706) (by decide +kernel)))
theorem kt_X10_without : Cond.static M_X10_without.1 ∈ lw_tbl := (List.mem_append_right _ (List.mem_of_getElem? (i := 705) (by decide +kernel)))
theorem kk_X11_in : Cond.code M_X11_in.1 M_X11_in.2.1 M_X11_in.2.2.1 M_X11_in.2.2.2 ∈ lw_tbl := (List.mem_append_right _ (List.mem_of_getElem? (i := 892) (by decide +kernel)))
theorem kt_X11_in : Cond.static M_X11_in.1 ∈ lw_tbl := (List.mem_append_right _ (List.mem_of_getElem? (i := 891) (by decide +kernel)))
theorem kk_X11_finds : Cond.code M_X11_finds.1 M_X11_finds.2.1 M_X11_finds.2.2.1 M_X11_finds.2.2.2 ∈ lw_tbl := (List.mem_append_right _ (List.mem_of_getElem? (i := 898) (by decide +kernel)))
theorem ki_X11_finds : Cond.instanceMethod M_X11_finds.1 ∈ lw_tbl := (List.mem_append_right _ (List.mem_of_getElem? (i := 897) (by decide +kernel)))
theorem kl_X11_finds : Cond.selects M_X11_finds.1.cls M_X11_finds.1 M_X11_finds.1 ∈ lw_tbl := (List.mem_append_left _ (by decide +kernel))
theorem kk_X11_well : Cond.code M_X11_well.1 M_X11_well.2.1 M_X11_well.2.2.1 M_X11_well.2.2.2 ∈ lw_tbl := (List.mem_append_right _ (List.mem_of_getElem? (i := 903) (by decide +kernel)))
theorem ki_X11_well : Cond.instanceMethod M_X11_well.1 ∈ lw_tbl := (List.mem_append_right _ (List.mem_of_getElem? (i := 902) (by decide +kernel)))
theorem kl_X11_well : Cond.selects M_X11_well.1.cls M_X11_well.1 M_X11_well.1 ∈ lw_tbl := (List.mem_append_left _ (by decide +kernel))
theorem kk_X11_isBed : Cond.code M_X11_isBed.1 M_X11_isBed.2.1 M_X11_isBed.2.2.1 M_X11_isBed.2.2.2 ∈ lw_tbl := (List.mem_append_right _ (List.mem_of_getElem? (i := 888) (by decide +kernel)))
theorem kt_X11_isBed : Cond.static M_X11_isBed.1 ∈ lw_tbl := (List.mem_append_right _ (List.mem_of_getElem? (i := 887) (by decide +kernel)))
theorem kk_X11_bed : Cond.code M_X11_bed.1 M_X11_bed.2.1 M_X11_bed.2.2.1 M_X11_bed.2.2.2 ∈ lw_tbl := (List.mem_append_right _ (List.mem_of_getElem? (i := 885) (by decide +kernel)))
theorem ki_X11_bed : Cond.instanceMethod M_X11_bed.1 ∈ lw_tbl := (List.mem_append_right _ (List.mem_of_getElem? (i := 883) (by decide +kernel)))
theorem kl_X11_bed : Cond.selects M_X11_bed.1.cls M_X11_bed.1 M_X11_bed.1 ∈ lw_tbl := (List.mem_append_right _ (List.mem_of_getElem? (i := 884) (by decide +kernel)))
theorem kk_X11_set : Cond.code M_X11_set.1 M_X11_set.2.1 M_X11_set.2.2.1 M_X11_set.2.2.2 ∈ lw_tbl := (List.mem_append_right _ (List.mem_of_getElem? (i := 907) (by decide +kernel)))
theorem ki_X11_set : Cond.instanceMethod M_X11_set.1 ∈ lw_tbl := (List.mem_append_right _ (List.mem_of_getElem? (i := 905) (by decide +kernel)))
theorem kl_X11_set : Cond.selects M_X11_set.1.cls M_X11_set.1 M_X11_set.1 ∈ lw_tbl := (List.mem_append_right _ (List.mem_of_getElem? (i := 906) (by decide +kernel)))
theorem kk_X11_drop : Cond.code M_X11_drop.1 M_X11_drop.2.1 M_X11_drop.2.2.1 M_X11_drop.2.2.2 ∈ lw_tbl := (List.mem_append_right _ (List.mem_of_getElem? (i := 912) (by decide +kernel)))
theorem ki_X11_drop : Cond.instanceMethod M_X11_drop.1 ∈ lw_tbl := (List.mem_append_right _ (List.mem_of_getElem? (i := 910) (by decide +kernel)))
theorem kl_X11_drop : Cond.selects M_X11_drop.1.cls M_X11_drop.1 M_X11_drop.1 ∈ lw_tbl := (List.mem_append_right _ (List.mem_of_getElem? (i := 911) (by decide +kernel)))
theorem kk_X11_copy : Cond.code M_X11_copy.1 M_X11_copy.2.1 M_X11_copy.2.2.1 M_X11_copy.2.2.2 ∈ lw_tbl := (List.mem_append_right _ (List.mem_of_getElem? (i := 916) (by decide +kernel)))
theorem ki_X11_copy : Cond.instanceMethod M_X11_copy.1 ∈ lw_tbl := (List.mem_append_right _ (List.mem_of_getElem? (i := 914) (by decide +kernel)))
theorem kl_X11_copy : Cond.selects M_X11_copy.1.cls M_X11_copy.1 M_X11_copy.1 ∈ lw_tbl := (List.mem_append_right _ (List.mem_of_getElem? (i := 915) (by decide +kernel)))
theorem kk_X11_isPlant : Cond.code M_X11_isPlant.1 M_X11_isPlant.2.1 M_X11_isPlant.2.2.1 M_X11_isPlant.2.2.2 ∈ lw_tbl := (List.mem_append_right _ (List.mem_of_getElem? (i := 936) (by decide +kernel)))
theorem ki_X11_isPlant : Cond.instanceMethod M_X11_isPlant.1 ∈ lw_tbl := (List.mem_append_right _ (List.mem_of_getElem? (i := 935) (by decide +kernel)))
theorem kl_X11_isPlant : Cond.selects M_X11_isPlant.1.cls M_X11_isPlant.1 M_X11_isPlant.1 ∈ lw_tbl := (List.mem_append_left _ (by decide +kernel))
theorem kk_X11_keep : Cond.code M_X11_keep.1 M_X11_keep.2.1 M_X11_keep.2.2.1 M_X11_keep.2.2.2 ∈ lw_tbl := (List.mem_append_right _ (List.mem_of_getElem? (i := 928) (by decide +kernel)))
theorem ki_X11_keep : Cond.instanceMethod M_X11_keep.1 ∈ lw_tbl := (List.mem_append_right _ (List.mem_of_getElem? (i := 927) (by decide +kernel)))
theorem kl_X11_keep : Cond.selects M_X11_keep.1.cls M_X11_keep.1 M_X11_keep.1 ∈ lw_tbl := (List.mem_append_left _ (by decide +kernel))
theorem kk_X11_plant : Cond.code M_X11_plant.1 M_X11_plant.2.1 M_X11_plant.2.2.1 M_X11_plant.2.2.2 ∈ lw_tbl := (List.mem_append_right _ (List.mem_of_getElem? (i := 920) (by decide +kernel)))
theorem ki_X11_plant : Cond.instanceMethod M_X11_plant.1 ∈ lw_tbl := (List.mem_append_right _ (List.mem_of_getElem? (i := 918) (by decide +kernel)))
theorem kl_X11_plant : Cond.selects M_X11_plant.1.cls M_X11_plant.1 M_X11_plant.1 ∈ lw_tbl := (List.mem_append_right _ (List.mem_of_getElem? (i := 919) (by decide +kernel)))
theorem kk_X11_move : Cond.code M_X11_move.1 M_X11_move.2.1 M_X11_move.2.2.1 M_X11_move.2.2.2 ∈ lw_tbl := (List.mem_append_right _ (List.mem_of_getElem? (i := 932) (by decide +kernel)))
theorem ki_X11_move : Cond.instanceMethod M_X11_move.1 ∈ lw_tbl := (List.mem_append_right _ (List.mem_of_getElem? (i := 930) (by decide +kernel)))
theorem kl_X11_move : Cond.selects M_X11_move.1.cls M_X11_move.1 M_X11_move.1 ∈ lw_tbl := (List.mem_append_right _ (List.mem_of_getElem? (i := 931) (by decide +kernel)))
theorem kk_X11_there : Cond.code M_X11_there.1 M_X11_there.2.1 M_X11_there.2.2.1 M_X11_there.2.2.2 ∈ lw_tbl := (List.mem_append_right _ (List.mem_of_getElem? (i := 944) (by decide +kernel)))
theorem ki_X11_there : Cond.instanceMethod M_X11_there.1 ∈ lw_tbl := (List.mem_append_right _ (List.mem_of_getElem? (i := 943) (by decide +kernel)))
theorem kl_X11_there : Cond.selects M_X11_there.1.cls M_X11_there.1 M_X11_there.1 ∈ lw_tbl := (List.mem_append_left _ (by decide +kernel))
theorem kk_X11_away : Cond.code M_X11_away.1 M_X11_away.2.1 M_X11_away.2.2.1 M_X11_away.2.2.2 ∈ lw_tbl := (List.mem_append_right _ (List.mem_of_getElem? (i := 940) (by decide +kernel)))
theorem ki_X11_away : Cond.instanceMethod M_X11_away.1 ∈ lw_tbl := (List.mem_append_right _ (List.mem_of_getElem? (i := 938) (by decide +kernel)))
theorem kl_X11_away : Cond.selects M_X11_away.1.cls M_X11_away.1 M_X11_away.1 ∈ lw_tbl := (List.mem_append_right _ (List.mem_of_getElem? (i := 939) (by decide +kernel)))
theorem kk_X11_colour : Cond.code M_X11_colour.1 M_X11_colour.2.1 M_X11_colour.2.2.1 M_X11_colour.2.2.2 ∈ lw_tbl := (List.mem_append_right _ (List.mem_of_getElem? (i := 948) (by decide +kernel)))
theorem ki_X11_colour : Cond.instanceMethod M_X11_colour.1 ∈ lw_tbl := (List.mem_append_right _ (List.mem_of_getElem? (i := 946) (by decide +kernel)))
theorem kl_X11_colour : Cond.selects M_X11_colour.1.cls M_X11_colour.1 M_X11_colour.1 ∈ lw_tbl := (List.mem_append_right _ (List.mem_of_getElem? (i := 947) (by decide +kernel)))
theorem kk_X11_told : Cond.code M_X11_told.1 M_X11_told.2.1 M_X11_told.2.2.1 M_X11_told.2.2.2 ∈ lw_tbl := (List.mem_append_right _ (List.mem_of_getElem? (i := 952) (by decide +kernel)))
theorem ki_X11_told : Cond.instanceMethod M_X11_told.1 ∈ lw_tbl := (List.mem_append_right _ (List.mem_of_getElem? (i := 950) (by decide +kernel)))
theorem kl_X11_told : Cond.selects M_X11_told.1.cls M_X11_told.1 M_X11_told.1 ∈ lw_tbl := (List.mem_append_right _ (List.mem_of_getElem? (i := 951) (by decide +kernel)))
theorem kk_X11_isOf : Cond.code M_X11_isOf.1 M_X11_isOf.2.1 M_X11_isOf.2.2.1 M_X11_isOf.2.2.2 ∈ lw_tbl := (List.mem_append_right _ (List.mem_of_getElem? (i := 984) (by decide +kernel)))
theorem ki_X11_isOf : Cond.instanceMethod M_X11_isOf.1 ∈ lw_tbl := (List.mem_append_right _ (List.mem_of_getElem? (i := 983) (by decide +kernel)))
theorem kl_X11_isOf : Cond.selects M_X11_isOf.1.cls M_X11_isOf.1 M_X11_isOf.1 ∈ lw_tbl := (List.mem_append_left _ (by decide +kernel))
theorem kk_X11_is : Cond.code M_X11_is.1 M_X11_is.2.1 M_X11_is.2.2.1 M_X11_is.2.2.2 ∈ lw_tbl := (List.mem_append_right _ (List.mem_of_getElem? (i := 980) (by decide +kernel)))
theorem ki_X11_is : Cond.instanceMethod M_X11_is.1 ∈ lw_tbl := (List.mem_append_right _ (List.mem_of_getElem? (i := 978) (by decide +kernel)))
theorem kl_X11_is : Cond.selects M_X11_is.1.cls M_X11_is.1 M_X11_is.1 ∈ lw_tbl := (List.mem_append_right _ (List.mem_of_getElem? (i := 979) (by decide +kernel)))
theorem kk_X11_begins : Cond.code M_X11_begins.1 M_X11_begins.2.1 M_X11_begins.2.2.1 M_X11_begins.2.2.2 ∈ lw_tbl := (List.mem_append_right _ (List.mem_of_getElem? (i := 1000) (by decide +kernel)))
theorem ki_X11_begins : Cond.instanceMethod M_X11_begins.1 ∈ lw_tbl := (List.mem_append_right _ (List.mem_of_getElem? (i := 999) (by decide +kernel)))
theorem kl_X11_begins : Cond.selects M_X11_begins.1.cls M_X11_begins.1 M_X11_begins.1 ∈ lw_tbl := (List.mem_append_left _ (by decide +kernel))
theorem kk_X11_red : Cond.code M_X11_red.1 M_X11_red.2.1 M_X11_red.2.2.1 M_X11_red.2.2.2 ∈ lw_tbl := (List.mem_append_right _ (List.mem_of_getElem? (i := 996) (by decide +kernel)))
theorem ki_X11_red : Cond.instanceMethod M_X11_red.1 ∈ lw_tbl := (List.mem_append_right _ (List.mem_of_getElem? (i := 995) (by decide +kernel)))
theorem kl_X11_red : Cond.selects M_X11_red.1.cls M_X11_red.1 M_X11_red.1 ∈ lw_tbl := (List.mem_append_left _ (by decide +kernel))
theorem kk_X11_blue : Cond.code M_X11_blue.1 M_X11_blue.2.1 M_X11_blue.2.2.1 M_X11_blue.2.2.2 ∈ lw_tbl := (List.mem_append_right _ (List.mem_of_getElem? (i := 1004) (by decide +kernel)))
theorem ki_X11_blue : Cond.instanceMethod M_X11_blue.1 ∈ lw_tbl := (List.mem_append_right _ (List.mem_of_getElem? (i := 1003) (by decide +kernel)))
theorem kl_X11_blue : Cond.selects M_X11_blue.1.cls M_X11_blue.1 M_X11_blue.1 ∈ lw_tbl := (List.mem_append_left _ (by decide +kernel))
theorem kk_X11_lentAll : Cond.code M_X11_lentAll.1 M_X11_lentAll.2.1 M_X11_lentAll.2.2.1 M_X11_lentAll.2.2.2 ∈ lw_tbl := (List.mem_append_right _ (List.mem_of_getElem? (i := 1012) (by decide +kernel)))
theorem ki_X11_lentAll : Cond.instanceMethod M_X11_lentAll.1 ∈ lw_tbl := (List.mem_append_right _ (List.mem_of_getElem? (i := 1011) (by decide +kernel)))
theorem kl_X11_lentAll : Cond.selects M_X11_lentAll.1.cls M_X11_lentAll.1 M_X11_lentAll.1 ∈ lw_tbl := (List.mem_append_left _ (by decide +kernel))
theorem kk_X11_all : Cond.code M_X11_all.1 M_X11_all.2.1 M_X11_all.2.2.1 M_X11_all.2.2.2 ∈ lw_tbl := (List.mem_append_right _ (List.mem_of_getElem? (i := 1008) (by decide +kernel)))
theorem ki_X11_all : Cond.instanceMethod M_X11_all.1 ∈ lw_tbl := (List.mem_append_right _ (List.mem_of_getElem? (i := 1007) (by decide +kernel)))
theorem kl_X11_all : Cond.selects M_X11_all.1.cls M_X11_all.1 M_X11_all.1 ∈ lw_tbl := (List.mem_append_left _ (by decide +kernel))
theorem kk_X11_worth : Cond.code M_X11_worth.1 M_X11_worth.2.1 M_X11_worth.2.2.1 M_X11_worth.2.2.2 ∈ lw_tbl := (List.mem_append_right _ (List.mem_of_getElem? (i := 1016) (by decide +kernel)))
theorem ki_X11_worth : Cond.instanceMethod M_X11_worth.1 ∈ lw_tbl := (List.mem_append_right _ (List.mem_of_getElem? (i := 1015) (by decide +kernel)))
theorem kl_X11_worth : Cond.selects M_X11_worth.1.cls M_X11_worth.1 M_X11_worth.1 ∈ lw_tbl := (List.mem_append_left _ (by decide +kernel))
theorem kk_X11_asked : Cond.code M_X11_asked.1 M_X11_asked.2.1 M_X11_asked.2.2.1 M_X11_asked.2.2.2 ∈ lw_tbl := (List.mem_append_right _ (List.mem_of_getElem? (i := 992) (by decide +kernel)))
theorem ki_X11_asked : Cond.instanceMethod M_X11_asked.1 ∈ lw_tbl := (List.mem_append_right _ (List.mem_of_getElem? (i := 991) (by decide +kernel)))
theorem kl_X11_asked : Cond.selects M_X11_asked.1.cls M_X11_asked.1 M_X11_asked.1 ∈ lw_tbl := (List.mem_append_left _ (by decide +kernel))
theorem kk_X11_ask : Cond.code M_X11_ask.1 M_X11_ask.2.1 M_X11_ask.2.2.1 M_X11_ask.2.2.2 ∈ lw_tbl := (List.mem_append_right _ (List.mem_of_getElem? (i := 988) (by decide +kernel)))
theorem ki_X11_ask : Cond.instanceMethod M_X11_ask.1 ∈ lw_tbl := (List.mem_append_right _ (List.mem_of_getElem? (i := 986) (by decide +kernel)))
theorem kl_X11_ask : Cond.selects M_X11_ask.1.cls M_X11_ask.1 M_X11_ask.1 ∈ lw_tbl := (List.mem_append_right _ (List.mem_of_getElem? (i := 987) (by decide +kernel)))
theorem kk_X11_trace : Cond.code M_X11_trace.1 M_X11_trace.2.1 M_X11_trace.2.2.1 M_X11_trace.2.2.2 ∈ lw_tbl := (List.mem_append_right _ (List.mem_of_getElem? (i := 1020) (by decide +kernel)))
theorem ki_X11_trace : Cond.instanceMethod M_X11_trace.1 ∈ lw_tbl := (List.mem_append_right _ (List.mem_of_getElem? (i := 1018) (by decide +kernel)))
theorem kl_X11_trace : Cond.selects M_X11_trace.1.cls M_X11_trace.1 M_X11_trace.1 ∈ lw_tbl := (List.mem_append_right _ (List.mem_of_getElem? (i := 1019) (by decide +kernel)))
theorem kk_X11_undo : Cond.code M_X11_undo.1 M_X11_undo.2.1 M_X11_undo.2.2.1 M_X11_undo.2.2.2 ∈ lw_tbl := (List.mem_append_right _ (List.mem_of_getElem? (i := 1024) (by decide +kernel)))
theorem ki_X11_undo : Cond.instanceMethod M_X11_undo.1 ∈ lw_tbl := (List.mem_append_right _ (List.mem_of_getElem? (i := 1022) (by decide +kernel)))
theorem kl_X11_undo : Cond.selects M_X11_undo.1.cls M_X11_undo.1 M_X11_undo.1 ∈ lw_tbl := (List.mem_append_right _ (List.mem_of_getElem? (i := 1023) (by decide +kernel)))
theorem kk_X11_divisor : Cond.code M_X11_divisor.1 M_X11_divisor.2.1 M_X11_divisor.2.2.1 M_X11_divisor.2.2.2 ∈ lw_tbl := (List.mem_append_right _ (List.mem_of_getElem? (i := 972) (by decide +kernel)))
theorem kt_X11_divisor : Cond.static M_X11_divisor.1 ∈ lw_tbl := (List.mem_append_right _ (List.mem_of_getElem? (i := 971) (by decide +kernel)))
theorem kk_X11_line : Cond.code M_X11_line.1 M_X11_line.2.1 M_X11_line.2.2.1 M_X11_line.2.2.2 ∈ lw_tbl := (List.mem_append_right _ (List.mem_of_getElem? (i := 1029) (by decide +kernel)))
theorem ki_X11_line : Cond.instanceMethod M_X11_line.1 ∈ lw_tbl := (List.mem_append_right _ (List.mem_of_getElem? (i := 1027) (by decide +kernel)))
theorem kl_X11_line : Cond.selects M_X11_line.1.cls M_X11_line.1 M_X11_line.1 ∈ lw_tbl := (List.mem_append_right _ (List.mem_of_getElem? (i := 1028) (by decide +kernel)))
theorem kk_X11_isApart : Cond.code M_X11_isApart.1 M_X11_isApart.2.1 M_X11_isApart.2.2.1 M_X11_isApart.2.2.2 ∈ lw_tbl := (List.mem_append_right _ (List.mem_of_getElem? (i := 965) (by decide +kernel)))
theorem ki_X11_isApart : Cond.instanceMethod M_X11_isApart.1 ∈ lw_tbl := (List.mem_append_right _ (List.mem_of_getElem? (i := 964) (by decide +kernel)))
theorem kl_X11_isApart : Cond.selects M_X11_isApart.1.cls M_X11_isApart.1 M_X11_isApart.1 ∈ lw_tbl := (List.mem_append_left _ (by decide +kernel))
theorem kk_X11_look : Cond.code M_X11_look.1 M_X11_look.2.1 M_X11_look.2.2.1 M_X11_look.2.2.2 ∈ lw_tbl := (List.mem_append_right _ (List.mem_of_getElem? (i := 969) (by decide +kernel)))
theorem ki_X11_look : Cond.instanceMethod M_X11_look.1 ∈ lw_tbl := (List.mem_append_right _ (List.mem_of_getElem? (i := 968) (by decide +kernel)))
theorem kl_X11_look : Cond.selects M_X11_look.1.cls M_X11_look.1 M_X11_look.1 ∈ lw_tbl := (List.mem_append_left _ (by decide +kernel))
theorem kk_X11_at : Cond.code M_X11_at.1 M_X11_at.2.1 M_X11_at.2.2.1 M_X11_at.2.2.2 ∈ lw_tbl := (List.mem_append_right _ (List.mem_of_getElem? (i := 976) (by decide +kernel)))
theorem ki_X11_at : Cond.instanceMethod M_X11_at.1 ∈ lw_tbl := (List.mem_append_right _ (List.mem_of_getElem? (i := 975) (by decide +kernel)))
theorem kl_X11_at : Cond.selects M_X11_at.1.cls M_X11_at.1 M_X11_at.1 ∈ lw_tbl := (List.mem_append_left _ (by decide +kernel))
theorem kk_X11_lookAtLine : Cond.code M_X11_lookAtLine.1 M_X11_lookAtLine.2.1 M_X11_lookAtLine.2.2.1 M_X11_lookAtLine.2.2.2 ∈ lw_tbl := (List.mem_append_right _ (List.mem_of_getElem? (i := 1051) (by decide +kernel)))
theorem ki_X11_lookAtLine : Cond.instanceMethod M_X11_lookAtLine.1 ∈ lw_tbl := (List.mem_append_right _ (List.mem_of_getElem? (i := 1050) (by decide +kernel)))
theorem kl_X11_lookAtLine : Cond.selects M_X11_lookAtLine.1.cls M_X11_lookAtLine.1 M_X11_lookAtLine.1 ∈ lw_tbl := (List.mem_append_left _ (by decide +kernel))
theorem kk_X11_putLine : Cond.code M_X11_putLine.1 M_X11_putLine.2.1 M_X11_putLine.2.2.1 M_X11_putLine.2.2.2 ∈ lw_tbl := (List.mem_append_right _ (List.mem_of_getElem? (i := 1039) (by decide +kernel)))
theorem ki_X11_putLine : Cond.instanceMethod M_X11_putLine.1 ∈ lw_tbl := (List.mem_append_right _ (List.mem_of_getElem? (i := 1038) (by decide +kernel)))
theorem kl_X11_putLine : Cond.selects M_X11_putLine.1.cls M_X11_putLine.1 M_X11_putLine.1 ∈ lw_tbl := (List.mem_append_left _ (by decide +kernel))
theorem kk_X11_through : Cond.code M_X11_through.1 M_X11_through.2.1 M_X11_through.2.2.1 M_X11_through.2.2.2 ∈ lw_tbl := (List.mem_append_right _ (List.mem_of_getElem? (i := 1035) (by decide +kernel)))
theorem ki_X11_through : Cond.instanceMethod M_X11_through.1 ∈ lw_tbl := (List.mem_append_right _ (List.mem_of_getElem? (i := 1033) (by decide +kernel)))
theorem kl_X11_through : Cond.selects M_X11_through.1.cls M_X11_through.1 M_X11_through.1 ∈ lw_tbl := (List.mem_append_right _ (List.mem_of_getElem? (i := 1034) (by decide +kernel)))
theorem kk_X11_lineAt : Cond.code M_X11_lineAt.1 M_X11_lineAt.2.1 M_X11_lineAt.2.2.1 M_X11_lineAt.2.2.2 ∈ lw_tbl := (List.mem_append_right _ (List.mem_of_getElem? (i := 1043) (by decide +kernel)))
theorem ki_X11_lineAt : Cond.instanceMethod M_X11_lineAt.1 ∈ lw_tbl := (List.mem_append_right _ (List.mem_of_getElem? (i := 1041) (by decide +kernel)))
theorem kl_X11_lineAt : Cond.selects M_X11_lineAt.1.cls M_X11_lineAt.1 M_X11_lineAt.1 ∈ lw_tbl := (List.mem_append_right _ (List.mem_of_getElem? (i := 1042) (by decide +kernel)))
theorem kk_X11_sumOf : Cond.code M_X11_sumOf.1 M_X11_sumOf.2.1 M_X11_sumOf.2.2.1 M_X11_sumOf.2.2.2 ∈ lw_tbl := (List.mem_append_right _ (List.mem_of_getElem? (i := 1055) (by decide +kernel)))
theorem ki_X11_sumOf : Cond.instanceMethod M_X11_sumOf.1 ∈ lw_tbl := (List.mem_append_right _ (List.mem_of_getElem? (i := 1054) (by decide +kernel)))
theorem kl_X11_sumOf : Cond.selects M_X11_sumOf.1.cls M_X11_sumOf.1 M_X11_sumOf.1 ∈ lw_tbl := (List.mem_append_left _ (by decide +kernel))
theorem kk_X11_isHalved : Cond.code M_X11_isHalved.1 M_X11_isHalved.2.1 M_X11_isHalved.2.2.1 M_X11_isHalved.2.2.2 ∈ lw_tbl := (List.mem_append_right _ (List.mem_of_getElem? (i := 1063) (by decide +kernel)))
theorem ki_X11_isHalved : Cond.instanceMethod M_X11_isHalved.1 ∈ lw_tbl := (List.mem_append_right _ (List.mem_of_getElem? (i := 1062) (by decide +kernel)))
theorem kl_X11_isHalved : Cond.selects M_X11_isHalved.1.cls M_X11_isHalved.1 M_X11_isHalved.1 ∈ lw_tbl := (List.mem_append_left _ (by decide +kernel))
theorem kk_X11_side : Cond.code M_X11_side.1 M_X11_side.2.1 M_X11_side.2.2.1 M_X11_side.2.2.2 ∈ lw_tbl := (List.mem_append_right _ (List.mem_of_getElem? (i := 1047) (by decide +kernel)))
theorem ki_X11_side : Cond.instanceMethod M_X11_side.1 ∈ lw_tbl := (List.mem_append_right _ (List.mem_of_getElem? (i := 1045) (by decide +kernel)))
theorem kl_X11_side : Cond.selects M_X11_side.1.cls M_X11_side.1 M_X11_side.1 ∈ lw_tbl := (List.mem_append_right _ (List.mem_of_getElem? (i := 1046) (by decide +kernel)))
theorem kk_X11_halves : Cond.code M_X11_halves.1 M_X11_halves.2.1 M_X11_halves.2.2.1 M_X11_halves.2.2.2 ∈ lw_tbl := (List.mem_append_right _ (List.mem_of_getElem? (i := 1059) (by decide +kernel)))
theorem ki_X11_halves : Cond.instanceMethod M_X11_halves.1 ∈ lw_tbl := (List.mem_append_right _ (List.mem_of_getElem? (i := 1057) (by decide +kernel)))
theorem kl_X11_halves : Cond.selects M_X11_halves.1.cls M_X11_halves.1 M_X11_halves.1 ∈ lw_tbl := (List.mem_append_right _ (List.mem_of_getElem? (i := 1058) (by decide +kernel)))
theorem kk_X11_isFirst : Cond.code M_X11_isFirst.1 M_X11_isFirst.2.1 M_X11_isFirst.2.2.1 M_X11_isFirst.2.2.2 ∈ lw_tbl := (List.mem_append_right _ (List.mem_of_getElem? (i := 1075) (by decide +kernel)))
theorem ki_X11_isFirst : Cond.instanceMethod M_X11_isFirst.1 ∈ lw_tbl := (List.mem_append_right _ (List.mem_of_getElem? (i := 1074) (by decide +kernel)))
theorem kl_X11_isFirst : Cond.selects M_X11_isFirst.1.cls M_X11_isFirst.1 M_X11_isFirst.1 ∈ lw_tbl := (List.mem_append_left _ (by decide +kernel))
theorem kk_X11_firstThere : Cond.code M_X11_firstThere.1 M_X11_firstThere.2.1 M_X11_firstThere.2.2.1 M_X11_firstThere.2.2.2 ∈ lw_tbl := (List.mem_append_right _ (List.mem_of_getElem? (i := 1079) (by decide +kernel)))
theorem ki_X11_firstThere : Cond.instanceMethod M_X11_firstThere.1 ∈ lw_tbl := (List.mem_append_right _ (List.mem_of_getElem? (i := 1078) (by decide +kernel)))
theorem kl_X11_firstThere : Cond.selects M_X11_firstThere.1.cls M_X11_firstThere.1 M_X11_firstThere.1 ∈ lw_tbl := (List.mem_append_left _ (by decide +kernel))
theorem kk_X11_findFurrow : Cond.code M_X11_findFurrow.1 M_X11_findFurrow.2.1 M_X11_findFurrow.2.2.1 M_X11_findFurrow.2.2.2 ∈ lw_tbl := (List.mem_append_right _ (List.mem_of_getElem? (i := 1071) (by decide +kernel)))
theorem ki_X11_findFurrow : Cond.instanceMethod M_X11_findFurrow.1 ∈ lw_tbl := (List.mem_append_right _ (List.mem_of_getElem? (i := 1070) (by decide +kernel)))
theorem kl_X11_findFurrow : Cond.selects M_X11_findFurrow.1.cls M_X11_findFurrow.1 M_X11_findFurrow.1 ∈ lw_tbl := (List.mem_append_left _ (by decide +kernel))
theorem kk_X11_furrow : Cond.code M_X11_furrow.1 M_X11_furrow.2.1 M_X11_furrow.2.2.1 M_X11_furrow.2.2.2 ∈ lw_tbl := (List.mem_append_right _ (List.mem_of_getElem? (i := 1067) (by decide +kernel)))
theorem ki_X11_furrow : Cond.instanceMethod M_X11_furrow.1 ∈ lw_tbl := (List.mem_append_right _ (List.mem_of_getElem? (i := 1065) (by decide +kernel)))
theorem kl_X11_furrow : Cond.selects M_X11_furrow.1.cls M_X11_furrow.1 M_X11_furrow.1 ∈ lw_tbl := (List.mem_append_right _ (List.mem_of_getElem? (i := 1066) (by decide +kernel)))
theorem kk_X11_furrows : Cond.code M_X11_furrows.1 M_X11_furrows.2.1 M_X11_furrows.2.2.1 M_X11_furrows.2.2.2 ∈ lw_tbl := (List.mem_append_right _ (List.mem_of_getElem? (i := 1083) (by decide +kernel)))
theorem ki_X11_furrows : Cond.instanceMethod M_X11_furrows.1 ∈ lw_tbl := (List.mem_append_right _ (List.mem_of_getElem? (i := 1081) (by decide +kernel)))
theorem kl_X11_furrows : Cond.selects M_X11_furrows.1.cls M_X11_furrows.1 M_X11_furrows.1 ∈ lw_tbl := (List.mem_append_right _ (List.mem_of_getElem? (i := 1082) (by decide +kernel)))
theorem kk_X11_sumBeyond : Cond.code M_X11_sumBeyond.1 M_X11_sumBeyond.2.1 M_X11_sumBeyond.2.2.1 M_X11_sumBeyond.2.2.2 ∈ lw_tbl := (List.mem_append_right _ (List.mem_of_getElem? (i := 1097) (by decide +kernel)))
theorem ki_X11_sumBeyond : Cond.instanceMethod M_X11_sumBeyond.1 ∈ lw_tbl := (List.mem_append_right _ (List.mem_of_getElem? (i := 1096) (by decide +kernel)))
theorem kl_X11_sumBeyond : Cond.selects M_X11_sumBeyond.1.cls M_X11_sumBeyond.1 M_X11_sumBeyond.1 ∈ lw_tbl := (List.mem_append_left _ (by decide +kernel))
theorem kk_X11_depthOf : Cond.code M_X11_depthOf.1 M_X11_depthOf.2.1 M_X11_depthOf.2.2.1 M_X11_depthOf.2.2.2 ∈ lw_tbl := (List.mem_append_right _ (List.mem_of_getElem? (i := 1092) (by decide +kernel)))
theorem ki_X11_depthOf : Cond.instanceMethod M_X11_depthOf.1 ∈ lw_tbl := (List.mem_append_right _ (List.mem_of_getElem? (i := 1091) (by decide +kernel)))
theorem kl_X11_depthOf : Cond.selects M_X11_depthOf.1.cls M_X11_depthOf.1 M_X11_depthOf.1 ∈ lw_tbl := (List.mem_append_left _ (by decide +kernel))
theorem kk_X11_depth : Cond.code M_X11_depth.1 M_X11_depth.2.1 M_X11_depth.2.2.1 M_X11_depth.2.2.2 ∈ lw_tbl := (List.mem_append_right _ (List.mem_of_getElem? (i := 1087) (by decide +kernel)))
theorem ki_X11_depth : Cond.instanceMethod M_X11_depth.1 ∈ lw_tbl := (List.mem_append_right _ (List.mem_of_getElem? (i := 1085) (by decide +kernel)))
theorem kl_X11_depth : Cond.selects M_X11_depth.1.cls M_X11_depth.1 M_X11_depth.1 ∈ lw_tbl := (List.mem_append_right _ (List.mem_of_getElem? (i := 1086) (by decide +kernel)))
theorem kk_X11_offer : Cond.code M_X11_offer.1 M_X11_offer.2.1 M_X11_offer.2.2.1 M_X11_offer.2.2.2 ∈ lw_tbl := (List.mem_append_right _ (List.mem_of_getElem? (i := 1107) (by decide +kernel)))
theorem ki_X11_offer : Cond.instanceMethod M_X11_offer.1 ∈ lw_tbl := (List.mem_append_right _ (List.mem_of_getElem? (i := 1106) (by decide +kernel)))
theorem kl_X11_offer : Cond.selects M_X11_offer.1.cls M_X11_offer.1 M_X11_offer.1 ∈ lw_tbl := (List.mem_append_left _ (by decide +kernel))
theorem kk_X11_deepest : Cond.code M_X11_deepest.1 M_X11_deepest.2.1 M_X11_deepest.2.2.1 M_X11_deepest.2.2.2 ∈ lw_tbl := (List.mem_append_right _ (List.mem_of_getElem? (i := 1101) (by decide +kernel)))
theorem ki_X11_deepest : Cond.instanceMethod M_X11_deepest.1 ∈ lw_tbl := (List.mem_append_right _ (List.mem_of_getElem? (i := 1099) (by decide +kernel)))
theorem kl_X11_deepest : Cond.selects M_X11_deepest.1.cls M_X11_deepest.1 M_X11_deepest.1 ∈ lw_tbl := (List.mem_append_right _ (List.mem_of_getElem? (i := 1100) (by decide +kernel)))
theorem kk_X11_isOnEdge : Cond.code M_X11_isOnEdge.1 M_X11_isOnEdge.2.1 M_X11_isOnEdge.2.2.1 M_X11_isOnEdge.2.2.2 ∈ lw_tbl := (List.mem_append_right _ (List.mem_of_getElem? (i := 961) (by decide +kernel)))
theorem ki_X11_isOnEdge : Cond.instanceMethod M_X11_isOnEdge.1 ∈ lw_tbl := (List.mem_append_right _ (List.mem_of_getElem? (i := 960) (by decide +kernel)))
theorem kl_X11_isOnEdge : Cond.selects M_X11_isOnEdge.1.cls M_X11_isOnEdge.1 M_X11_isOnEdge.1 ∈ lw_tbl := (List.mem_append_left _ (by decide +kernel))
theorem kk_X11_findLayers : Cond.code M_X11_findLayers.1 M_X11_findLayers.2.1 M_X11_findLayers.2.2.1 M_X11_findLayers.2.2.2 ∈ lw_tbl := (List.mem_append_right _ (List.mem_of_getElem? (i := 957) (by decide +kernel)))
theorem ki_X11_findLayers : Cond.instanceMethod M_X11_findLayers.1 ∈ lw_tbl := (List.mem_append_right _ (List.mem_of_getElem? (i := 956) (by decide +kernel)))
theorem kl_X11_findLayers : Cond.selects M_X11_findLayers.1.cls M_X11_findLayers.1 M_X11_findLayers.1 ∈ lw_tbl := (List.mem_append_left _ (by decide +kernel))
theorem kk_X11_layer : Cond.code M_X11_layer.1 M_X11_layer.2.1 M_X11_layer.2.2.1 M_X11_layer.2.2.2 ∈ lw_tbl := (List.mem_append_right _ (List.mem_of_getElem? (i := 1111) (by decide +kernel)))
theorem ki_X11_layer : Cond.instanceMethod M_X11_layer.1 ∈ lw_tbl := (List.mem_append_right _ (List.mem_of_getElem? (i := 1109) (by decide +kernel)))
theorem kl_X11_layer : Cond.selects M_X11_layer.1.cls M_X11_layer.1 M_X11_layer.1 ∈ lw_tbl := (List.mem_append_right _ (List.mem_of_getElem? (i := 1110) (by decide +kernel)))
theorem kk_X11_most : Cond.code M_X11_most.1 M_X11_most.2.1 M_X11_most.2.2.1 M_X11_most.2.2.2 ∈ lw_tbl := (List.mem_append_right _ (List.mem_of_getElem? (i := 1115) (by decide +kernel)))
theorem ki_X11_most : Cond.instanceMethod M_X11_most.1 ∈ lw_tbl := (List.mem_append_right _ (List.mem_of_getElem? (i := 1113) (by decide +kernel)))
theorem kl_X11_most : Cond.selects M_X11_most.1.cls M_X11_most.1 M_X11_most.1 ∈ lw_tbl := (List.mem_append_right _ (List.mem_of_getElem? (i := 1114) (by decide +kernel)))
theorem kk_X11_offerGap : Cond.code M_X11_offerGap.1 M_X11_offerGap.2.1 M_X11_offerGap.2.2.1 M_X11_offerGap.2.2.2 ∈ lw_tbl := (List.mem_append_right _ (List.mem_of_getElem? (i := 1123) (by decide +kernel)))
theorem ki_X11_offerGap : Cond.instanceMethod M_X11_offerGap.1 ∈ lw_tbl := (List.mem_append_right _ (List.mem_of_getElem? (i := 1122) (by decide +kernel)))
theorem kl_X11_offerGap : Cond.selects M_X11_offerGap.1.cls M_X11_offerGap.1 M_X11_offerGap.1 ∈ lw_tbl := (List.mem_append_left _ (by decide +kernel))
theorem kk_X11_widest : Cond.code M_X11_widest.1 M_X11_widest.2.1 M_X11_widest.2.2.1 M_X11_widest.2.2.2 ∈ lw_tbl := (List.mem_append_right _ (List.mem_of_getElem? (i := 1119) (by decide +kernel)))
theorem ki_X11_widest : Cond.instanceMethod M_X11_widest.1 ∈ lw_tbl := (List.mem_append_right _ (List.mem_of_getElem? (i := 1117) (by decide +kernel)))
theorem kl_X11_widest : Cond.selects M_X11_widest.1.cls M_X11_widest.1 M_X11_widest.1 ∈ lw_tbl := (List.mem_append_right _ (List.mem_of_getElem? (i := 1118) (by decide +kernel)))
theorem kk_X11_count : Cond.code M_X11_count.1 M_X11_count.2.1 M_X11_count.2.2.1 M_X11_count.2.2.2 ∈ lw_tbl := (List.mem_append_right _ (List.mem_of_getElem? (i := 1127) (by decide +kernel)))
theorem ki_X11_count : Cond.instanceMethod M_X11_count.1 ∈ lw_tbl := (List.mem_append_right _ (List.mem_of_getElem? (i := 1125) (by decide +kernel)))
theorem kl_X11_count : Cond.selects M_X11_count.1.cls M_X11_count.1 M_X11_count.1 ∈ lw_tbl := (List.mem_append_right _ (List.mem_of_getElem? (i := 1126) (by decide +kernel)))
theorem kk_X11_status : Cond.code M_X11_status.1 M_X11_status.2.1 M_X11_status.2.2.1 M_X11_status.2.2.2 ∈ lw_tbl := (List.mem_append_right _ (List.mem_of_getElem? (i := 1131) (by decide +kernel)))
theorem ki_X11_status : Cond.instanceMethod M_X11_status.1 ∈ lw_tbl := (List.mem_append_right _ (List.mem_of_getElem? (i := 1129) (by decide +kernel)))
theorem kl_X11_status : Cond.selects M_X11_status.1.cls M_X11_status.1 M_X11_status.1 ∈ lw_tbl := (List.mem_append_right _ (List.mem_of_getElem? (i := 1130) (by decide +kernel)))
theorem kn_X0 : Cond.initialized RX0 ∈ lw_tbl := (List.mem_append_right _ (List.mem_of_getElem? (i := 2) (by decide +kernel)))
theorem kn_X1 : Cond.initialized RX1 ∈ lw_tbl := (List.mem_append_right _ (List.mem_of_getElem? (i := 4) (by decide +kernel)))
theorem kn_X2 : Cond.initialized RX2 ∈ lw_tbl := (List.mem_append_right _ (List.mem_of_getElem? (i := 10) (by decide +kernel)))
theorem kn_X3 : Cond.initialized RX3 ∈ lw_tbl := (List.mem_append_right _ (List.mem_of_getElem? (i := 9) (by decide +kernel)))
theorem kn_X4 : Cond.initialized RX4 ∈ lw_tbl := (List.mem_append_right _ (List.mem_of_getElem? (i := 6) (by decide +kernel)))
theorem kn_X5 : Cond.initialized RX5 ∈ lw_tbl := (List.mem_append_right _ (List.mem_of_getElem? (i := 8) (by decide +kernel)))
theorem kn_X6 : Cond.initialized RX6 ∈ lw_tbl := (List.mem_append_right _ (List.mem_of_getElem? (i := 3) (by decide +kernel)))
theorem kn_X7 : Cond.initialized RX7 ∈ lw_tbl := (List.mem_append_right _ (List.mem_of_getElem? (i := 7) (by decide +kernel)))
theorem kn_X8 : Cond.initialized RX8 ∈ lw_tbl := (List.mem_append_right _ (List.mem_of_getElem? (i := 11) (by decide +kernel)))
theorem kn_X9 : Cond.initialized RX9 ∈ lw_tbl := (List.mem_append_right _ (List.mem_of_getElem? (i := 5) (by decide +kernel)))
theorem kn_X10 : Cond.initialized RX10 ∈ lw_tbl := (List.mem_append_right _ (List.mem_of_getElem? (i := 1) (by decide +kernel)))
theorem kn_X11 : Cond.initialized RX11 ∈ lw_tbl := (List.mem_append_right _ (List.mem_of_getElem? (i := 12) (by decide +kernel)))
theorem kv_L_13 : CV "FurrowFieldLaw" 13 M_X10_bed 10 3 := ⟨kk_X10_bed, (List.mem_append_right _ (List.mem_of_getElem? (i := 357) (by decide +kernel))), ki_X10_bed, kl_X10_bed, kn_X10, ⟨_, rfl, rfl⟩, by decide +kernel, by decide +kernel, by decide +kernel, by decide +kernel, by decide⟩
theorem ks_X10_84 : CS RX10 84 M_X10_isBed 1 := ⟨kk_X10_isBed, kt_X10_isBed, kn_X10, by decide +kernel, by decide +kernel, by decide +kernel, by decide +kernel, by decide, (Or.inl (List.mem_append_right _ (List.mem_of_getElem? (i := 361) (by decide +kernel))))⟩
theorem ks_X10_88 : CS RX10 88 M_X10_isBelow 2 := ⟨kk_X10_isBelow, kt_X10_isBelow, kn_X10, by decide +kernel, by decide +kernel, by decide +kernel, by decide +kernel, by decide, (Or.inl (List.mem_append_right _ (List.mem_of_getElem? (i := 364) (by decide +kernel))))⟩
theorem kv_X10_93 : CV RX10 93 M_X10_found 10 1 := ⟨kk_X10_found, (List.mem_append_right _ (List.mem_of_getElem? (i := 368) (by decide +kernel))), ki_X10_found, kl_X10_found, kn_X10, ⟨_, rfl, rfl⟩, by decide +kernel, by decide +kernel, by decide +kernel, by decide +kernel, by decide⟩
theorem kv_X10_97 : CV RX10 97 M_X0_lay 0 2 := ⟨kk_X0_lay, (List.mem_append_right _ (List.mem_of_getElem? (i := 373) (by decide +kernel))), ki_X0_lay, kl_X0_lay, kn_X0, ⟨_, rfl, rfl⟩, by decide +kernel, by decide +kernel, by decide +kernel, by decide +kernel, by decide⟩
theorem kv_X10_101 : CV RX10 101 M_X10_done 10 1 := ⟨kk_X10_done, (List.mem_append_right _ (List.mem_of_getElem? (i := 377) (by decide +kernel))), ki_X10_done, kl_X10_done, kn_X10, ⟨_, rfl, rfl⟩, by decide +kernel, by decide +kernel, by decide +kernel, by decide +kernel, by decide⟩
theorem kv_L_20 : CV "FurrowFieldLaw" 20 M_X10_set 10 3 := ⟨kk_X10_set, (List.mem_append_right _ (List.mem_of_getElem? (i := 381) (by decide +kernel))), ki_X10_set, kl_X10_set, kn_X10, ⟨_, rfl, rfl⟩, by decide +kernel, by decide +kernel, by decide +kernel, by decide +kernel, by decide⟩
theorem kv_X10_110 : CV RX10 110 M_X0_has 0 2 := ⟨kk_X0_has, (List.mem_append_right _ (List.mem_of_getElem? (i := 386) (by decide +kernel))), ki_X0_has, kl_X0_has, kn_X0, ⟨_, rfl, rfl⟩, by decide +kernel, by decide +kernel, by decide +kernel, by decide +kernel, by decide⟩
theorem kv_X10_117 : CV RX10 117 M_X0_narrowed 0 1 := ⟨kk_X0_narrowed, (List.mem_append_right _ (List.mem_of_getElem? (i := 390) (by decide +kernel))), ki_X0_narrowed, kl_X0_narrowed, kn_X0, ⟨_, rfl, rfl⟩, by decide +kernel, by decide +kernel, by decide +kernel, by decide +kernel, by decide⟩
theorem kv_L_25 : CV "FurrowFieldLaw" 25 M_X10_drop 10 1 := ⟨kk_X10_drop, (List.mem_append_right _ (List.mem_of_getElem? (i := 394) (by decide +kernel))), ki_X10_drop, kl_X10_drop, kn_X10, ⟨_, rfl, rfl⟩, by decide +kernel, by decide +kernel, by decide +kernel, by decide +kernel, by decide⟩
theorem kv_L_30 : CV "FurrowFieldLaw" 30 M_X10_copy 10 5 := ⟨kk_X10_copy, (List.mem_append_right _ (List.mem_of_getElem? (i := 398) (by decide +kernel))), ki_X10_copy, kl_X10_copy, kn_X10, ⟨_, rfl, rfl⟩, by decide +kernel, by decide +kernel, by decide +kernel, by decide +kernel, by decide⟩
theorem kv_L_35 : CV "FurrowFieldLaw" 35 M_X10_plant 10 3 := ⟨kk_X10_plant, (List.mem_append_right _ (List.mem_of_getElem? (i := 405) (by decide +kernel))), ki_X10_plant, kl_X10_plant, kn_X10, ⟨_, rfl, rfl⟩, by decide +kernel, by decide +kernel, by decide +kernel, by decide +kernel, by decide⟩
theorem ks_X10_141 : CS RX10 141 M_X10_isInField 1 := ⟨kk_X10_isInField, kt_X10_isInField, kn_X10, by decide +kernel, by decide +kernel, by decide +kernel, by decide +kernel, by decide, (Or.inl (List.mem_append_right _ (List.mem_of_getElem? (i := 410) (by decide +kernel))))⟩
theorem ks_X10_225 : CS RX10 225 M_X10_isWithin 2 := ⟨kk_X10_isWithin, kt_X10_isWithin, kn_X10, by decide +kernel, by decide +kernel, by decide +kernel, by decide +kernel, by decide, (Or.inl (List.mem_append_right _ (List.mem_of_getElem? (i := 414) (by decide +kernel))))⟩
theorem kv_X10_145 : CV RX10 145 M_X10_keepForUndo 10 1 := ⟨kk_X10_keepForUndo, (List.mem_append_right _ (List.mem_of_getElem? (i := 417) (by decide +kernel))), ki_X10_keepForUndo, kl_X10_keepForUndo, kn_X10, ⟨_, rfl, rfl⟩, by decide +kernel, by decide +kernel, by decide +kernel, by decide +kernel, by decide⟩
theorem kv_X10_218 : CV RX10 218 M_X6_become 6 1 := ⟨kk_X6_become, (List.mem_append_right _ (List.mem_of_getElem? (i := 421) (by decide +kernel))), ki_X6_become, kl_X6_become, kn_X6, ⟨_, rfl, rfl⟩, by decide +kernel, by decide +kernel, by decide +kernel, by decide +kernel, by decide⟩
theorem kv_X10_148 : CV RX10 148 M_X6_begin 6 4 := ⟨kk_X6_begin, (List.mem_append_right _ (List.mem_of_getElem? (i := 425) (by decide +kernel))), ki_X6_begin, kl_X6_begin, kn_X6, ⟨_, rfl, rfl⟩, by decide +kernel, by decide +kernel, by decide +kernel, by decide +kernel, by decide⟩
theorem kv_X6_25 : CV RX6 25 M_X6_paint 6 2 := ⟨kk_X6_paint, (List.mem_append_right _ (List.mem_of_getElem? (i := 429) (by decide +kernel))), ki_X6_paint, kl_X6_paint, kn_X6, ⟨_, rfl, rfl⟩, by decide +kernel, by decide +kernel, by decide +kernel, by decide +kernel, by decide⟩
theorem kv_X6_32 : CV RX6 32 M_X6_begun 6 3 := ⟨kk_X6_begun, (List.mem_append_right _ (List.mem_of_getElem? (i := 433) (by decide +kernel))), ki_X6_begun, kl_X6_begun, kn_X6, ⟨_, rfl, rfl⟩, by decide +kernel, by decide +kernel, by decide +kernel, by decide +kernel, by decide⟩
theorem ks_X6_45 : CS RX6 45 M_X10_isBelow 2 := ⟨kk_X10_isBelow, kt_X10_isBelow, kn_X10, by decide +kernel, by decide +kernel, by decide +kernel, by decide +kernel, by decide, (Or.inr ⟨"FurrowField", (List.mem_append_right _ (List.mem_of_getElem? (i := 439) (by decide +kernel)))⟩)⟩
theorem kv_X6_56 : CV RX6 56 M_X6_gives 6 3 := ⟨kk_X6_gives, (List.mem_append_right _ (List.mem_of_getElem? (i := 440) (by decide +kernel))), ki_X6_gives, kl_X6_gives, kn_X6, ⟨_, rfl, rfl⟩, by decide +kernel, by decide +kernel, by decide +kernel, by decide +kernel, by decide⟩
theorem kv_X6_59 : CV RX6 59 M_X9_leave 9 1 := ⟨kk_X9_leave, (List.mem_append_right _ (List.mem_of_getElem? (i := 444) (by decide +kernel))), ki_X9_leave, kl_X9_leave, kn_X9, ⟨_, rfl, rfl⟩, by decide +kernel, by decide +kernel, by decide +kernel, by decide +kernel, by decide⟩
theorem kv_X10_152 : CV RX10 152 M_X10_forget 10 0 := ⟨kk_X10_forget, (List.mem_append_right _ (List.mem_of_getElem? (i := 451) (by decide +kernel))), ki_X10_forget, kl_X10_forget, kn_X10, ⟨_, rfl, rfl⟩, by decide +kernel, by decide +kernel, by decide +kernel, by decide +kernel, by decide⟩
theorem kv_L_39 : CV "FurrowFieldLaw" 39 M_X10_move 10 3 := ⟨kk_X10_move, (List.mem_append_right _ (List.mem_of_getElem? (i := 455) (by decide +kernel))), ki_X10_move, kl_X10_move, kn_X10, ⟨_, rfl, rfl⟩, by decide +kernel, by decide +kernel, by decide +kernel, by decide +kernel, by decide⟩
theorem kv_X10_155 : CV RX10 155 M_X10_isGiven 10 1 := ⟨kk_X10_isGiven, (List.mem_append_right _ (List.mem_of_getElem? (i := 459) (by decide +kernel))), ki_X10_isGiven, kl_X10_isGiven, kn_X10, ⟨_, rfl, rfl⟩, by decide +kernel, by decide +kernel, by decide +kernel, by decide +kernel, by decide⟩
theorem kv_L_43 : CV "FurrowFieldLaw" 43 M_X10_away 10 1 := ⟨kk_X10_away, (List.mem_append_right _ (List.mem_of_getElem? (i := 463) (by decide +kernel))), ki_X10_away, kl_X10_away, kn_X10, ⟨_, rfl, rfl⟩, by decide +kernel, by decide +kernel, by decide +kernel, by decide +kernel, by decide⟩
theorem kv_X10_165 : CV RX10 165 M_X10_gathered 10 0 := ⟨kk_X10_gathered, (List.mem_append_right _ (List.mem_of_getElem? (i := 467) (by decide +kernel))), ki_X10_gathered, kl_X10_gathered, kn_X10, ⟨_, rfl, rfl⟩, by decide +kernel, by decide +kernel, by decide +kernel, by decide +kernel, by decide⟩
theorem kv_X10_317 : CV RX10 317 M_X7_gather 7 2 := ⟨kk_X7_gather, (List.mem_append_right _ (List.mem_of_getElem? (i := 471) (by decide +kernel))), ki_X7_gather, kl_X7_gather, kn_X7, ⟨_, rfl, rfl⟩, by decide +kernel, by decide +kernel, by decide +kernel, by decide +kernel, by decide⟩
theorem kv_X7_40 : CV RX7 40 M_X7_add 7 2 := ⟨kk_X7_add, (List.mem_append_right _ (List.mem_of_getElem? (i := 475) (by decide +kernel))), ki_X7_add, kl_X7_add, kn_X7, ⟨_, rfl, rfl⟩, by decide +kernel, by decide +kernel, by decide +kernel, by decide +kernel, by decide⟩
theorem kv_X10_178 : CV RX10 178 M_X6_paint 6 2 := ⟨kk_X6_paint, (List.mem_append_right _ (List.mem_of_getElem? (i := 483) (by decide +kernel))), ki_X6_paint, kl_X6_paint, kn_X6, ⟨_, rfl, rfl⟩, by decide +kernel, by decide +kernel, by decide +kernel, by decide +kernel, by decide⟩
theorem kv_L_52 : CV "FurrowFieldLaw" 52 M_X10_told 10 2 := ⟨kk_X10_told, (List.mem_append_right _ (List.mem_of_getElem? (i := 484) (by decide +kernel))), ki_X10_told, kl_X10_told, kn_X10, ⟨_, rfl, rfl⟩, by decide +kernel, by decide +kernel, by decide +kernel, by decide +kernel, by decide⟩
theorem kv_X10_182 : CV RX10 182 M_X10_peeled 10 0 := ⟨kk_X10_peeled, (List.mem_append_right _ (List.mem_of_getElem? (i := 488) (by decide +kernel))), ki_X10_peeled, kl_X10_peeled, kn_X10, ⟨_, rfl, rfl⟩, by decide +kernel, by decide +kernel, by decide +kernel, by decide +kernel, by decide⟩
theorem kv_X10_324 : CV RX10 324 M_X3_peel 3 1 := ⟨kk_X3_peel, (List.mem_append_right _ (List.mem_of_getElem? (i := 492) (by decide +kernel))), ki_X3_peel, kl_X3_peel, kn_X3, ⟨_, rfl, rfl⟩, by decide +kernel, by decide +kernel, by decide +kernel, by decide +kernel, by decide⟩
theorem kv_X3_22 : CV RX3 22 M_X3_peelOne 3 2 := ⟨kk_X3_peelOne, (List.mem_append_right _ (List.mem_of_getElem? (i := 496) (by decide +kernel))), ki_X3_peelOne, kl_X3_peelOne, kn_X3, ⟨_, rfl, rfl⟩, by decide +kernel, by decide +kernel, by decide +kernel, by decide +kernel, by decide⟩
theorem kv_X3_30 : CV RX3 30 M_X3_isOnEdge 3 3 := ⟨kk_X3_isOnEdge, (List.mem_append_right _ (List.mem_of_getElem? (i := 500) (by decide +kernel))), ki_X3_isOnEdge, kl_X3_isOnEdge, kn_X3, ⟨_, rfl, rfl⟩, by decide +kernel, by decide +kernel, by decide +kernel, by decide +kernel, by decide⟩
theorem kv_X3_34 : CV RX3 34 M_X3_isIn 3 2 := ⟨kk_X3_isIn, (List.mem_append_right _ (List.mem_of_getElem? (i := 504) (by decide +kernel))), ki_X3_isIn, kl_X3_isIn, kn_X3, ⟨_, rfl, rfl⟩, by decide +kernel, by decide +kernel, by decide +kernel, by decide +kernel, by decide⟩
theorem kv_X3_38 : CV RX3 38 M_X7_isTogether 7 2 := ⟨kk_X7_isTogether, (List.mem_append_right _ (List.mem_of_getElem? (i := 508) (by decide +kernel))), ki_X7_isTogether, kl_X7_isTogether, kn_X7, ⟨_, rfl, rfl⟩, by decide +kernel, by decide +kernel, by decide +kernel, by decide +kernel, by decide⟩
theorem kv_X3_41 : CV RX3 41 M_X3_isOneSided 3 4 := ⟨kk_X3_isOneSided, (List.mem_append_right _ (List.mem_of_getElem? (i := 512) (by decide +kernel))), ki_X3_isOneSided, kl_X3_isOneSided, kn_X3, ⟨_, rfl, rfl⟩, by decide +kernel, by decide +kernel, by decide +kernel, by decide +kernel, by decide⟩
theorem kv_X3_45 : CV RX3 45 M_X7_turn 7 3 := ⟨kk_X7_turn, (List.mem_append_right _ (List.mem_of_getElem? (i := 516) (by decide +kernel))), ki_X7_turn, kl_X7_turn, kn_X7, ⟨_, rfl, rfl⟩, by decide +kernel, by decide +kernel, by decide +kernel, by decide +kernel, by decide⟩
theorem kv_X10_186 : CV RX10 186 M_X7_placeOf 7 1 := ⟨kk_X7_placeOf, (List.mem_append_right _ (List.mem_of_getElem? (i := 520) (by decide +kernel))), ki_X7_placeOf, kl_X7_placeOf, kn_X7, ⟨_, rfl, rfl⟩, by decide +kernel, by decide +kernel, by decide +kernel, by decide +kernel, by decide⟩
theorem kv_X10_189 : CV RX10 189 M_X3_layerOf 3 1 := ⟨kk_X3_layerOf, (List.mem_append_right _ (List.mem_of_getElem? (i := 524) (by decide +kernel))), ki_X3_layerOf, kl_X3_layerOf, kn_X3, ⟨_, rfl, rfl⟩, by decide +kernel, by decide +kernel, by decide +kernel, by decide +kernel, by decide⟩
theorem ks_X3_49 : CS RX3 49 M_X10_isBelow 2 := ⟨kk_X10_isBelow, kt_X10_isBelow, kn_X10, by decide +kernel, by decide +kernel, by decide +kernel, by decide +kernel, by decide, (Or.inr ⟨"FurrowField", (List.mem_append_right _ (List.mem_of_getElem? (i := 528) (by decide +kernel)))⟩)⟩
theorem kv_L_56 : CV "FurrowFieldLaw" 56 M_X10_is 10 2 := ⟨kk_X10_is, (List.mem_append_right _ (List.mem_of_getElem? (i := 529) (by decide +kernel))), ki_X10_is, kl_X10_is, kn_X10, ⟨_, rfl, rfl⟩, by decide +kernel, by decide +kernel, by decide +kernel, by decide +kernel, by decide⟩
theorem kv_X10_192 : CV RX10 192 M_X6_isOf 6 1 := ⟨kk_X6_isOf, (List.mem_append_right _ (List.mem_of_getElem? (i := 533) (by decide +kernel))), ki_X6_isOf, kl_X6_isOf, kn_X6, ⟨_, rfl, rfl⟩, by decide +kernel, by decide +kernel, by decide +kernel, by decide +kernel, by decide⟩
theorem kv_L_60 : CV "FurrowFieldLaw" 60 M_X10_ask 10 2 := ⟨kk_X10_ask, (List.mem_append_right _ (List.mem_of_getElem? (i := 539) (by decide +kernel))), ki_X10_ask, kl_X10_ask, kn_X10, ⟨_, rfl, rfl⟩, by decide +kernel, by decide +kernel, by decide +kernel, by decide +kernel, by decide⟩
theorem kv_X10_198 : CV RX10 198 M_X6_answer 6 2 := ⟨kk_X6_answer, (List.mem_append_right _ (List.mem_of_getElem? (i := 543) (by decide +kernel))), ki_X6_answer, kl_X6_answer, kn_X6, ⟨_, rfl, rfl⟩, by decide +kernel, by decide +kernel, by decide +kernel, by decide +kernel, by decide⟩
theorem kv_L_64 : CV "FurrowFieldLaw" 64 M_X10_trace 10 1 := ⟨kk_X10_trace, (List.mem_append_right _ (List.mem_of_getElem? (i := 547) (by decide +kernel))), ki_X10_trace, kl_X10_trace, kn_X10, ⟨_, rfl, rfl⟩, by decide +kernel, by decide +kernel, by decide +kernel, by decide +kernel, by decide⟩
theorem kv_L_68 : CV "FurrowFieldLaw" 68 M_X10_undo 10 0 := ⟨kk_X10_undo, (List.mem_append_right _ (List.mem_of_getElem? (i := 552) (by decide +kernel))), ki_X10_undo, kl_X10_undo, kn_X10, ⟨_, rfl, rfl⟩, by decide +kernel, by decide +kernel, by decide +kernel, by decide +kernel, by decide⟩
theorem kv_L_73 : CV "FurrowFieldLaw" 73 M_X10_line 10 3 := ⟨kk_X10_line, (List.mem_append_right _ (List.mem_of_getElem? (i := 557) (by decide +kernel))), ki_X10_line, kl_X10_line, kn_X10, ⟨_, rfl, rfl⟩, by decide +kernel, by decide +kernel, by decide +kernel, by decide +kernel, by decide⟩
theorem kv_X10_229 : CV RX10 229 M_X4_become 4 3 := ⟨kk_X4_become, (List.mem_append_right _ (List.mem_of_getElem? (i := 562) (by decide +kernel))), ki_X4_become, kl_X4_become, kn_X4, ⟨_, rfl, rfl⟩, by decide +kernel, by decide +kernel, by decide +kernel, by decide +kernel, by decide⟩
theorem ks_X4_21 : CS RX4 21 M_X10_commonDivisor 2 := ⟨kk_X10_commonDivisor, kt_X10_commonDivisor, kn_X10, by decide +kernel, by decide +kernel, by decide +kernel, by decide +kernel, by decide, (Or.inr ⟨"FurrowField", (List.mem_append_right _ (List.mem_of_getElem? (i := 566) (by decide +kernel)))⟩)⟩
theorem kv_L_77 : CV "FurrowFieldLaw" 77 M_X10_through 10 2 := ⟨kk_X10_through, (List.mem_append_right _ (List.mem_of_getElem? (i := 569) (by decide +kernel))), ki_X10_through, kl_X10_through, kn_X10, ⟨_, rfl, rfl⟩, by decide +kernel, by decide +kernel, by decide +kernel, by decide +kernel, by decide⟩
theorem kv_X10_232 : CV RX10 232 M_X4_join 4 4 := ⟨kk_X4_join, (List.mem_append_right _ (List.mem_of_getElem? (i := 573) (by decide +kernel))), ki_X4_join, kl_X4_join, kn_X4, ⟨_, rfl, rfl⟩, by decide +kernel, by decide +kernel, by decide +kernel, by decide +kernel, by decide⟩
theorem kv_X4_25 : CV RX4 25 M_X4_become 4 3 := ⟨kk_X4_become, (List.mem_append_right _ (List.mem_of_getElem? (i := 577) (by decide +kernel))), ki_X4_become, kl_X4_become, kn_X4, ⟨_, rfl, rfl⟩, by decide +kernel, by decide +kernel, by decide +kernel, by decide +kernel, by decide⟩
theorem kv_L_81 : CV "FurrowFieldLaw" 81 M_X10_lineAt 10 1 := ⟨kk_X10_lineAt, (List.mem_append_right _ (List.mem_of_getElem? (i := 578) (by decide +kernel))), ki_X10_lineAt, kl_X10_lineAt, kn_X10, ⟨_, rfl, rfl⟩, by decide +kernel, by decide +kernel, by decide +kernel, by decide +kernel, by decide⟩
theorem kv_L_85 : CV "FurrowFieldLaw" 85 M_X10_side 10 2 := ⟨kk_X10_side, (List.mem_append_right _ (List.mem_of_getElem? (i := 582) (by decide +kernel))), ki_X10_side, kl_X10_side, kn_X10, ⟨_, rfl, rfl⟩, by decide +kernel, by decide +kernel, by decide +kernel, by decide +kernel, by decide⟩
theorem kv_X10_245 : CV RX10 245 M_X7_sumAt 7 3 := ⟨kk_X7_sumAt, (List.mem_append_right _ (List.mem_of_getElem? (i := 586) (by decide +kernel))), ki_X7_sumAt, kl_X7_sumAt, kn_X7, ⟨_, rfl, rfl⟩, by decide +kernel, by decide +kernel, by decide +kernel, by decide +kernel, by decide⟩
theorem kv_X7_57 : CV RX7 57 M_X7_row 7 1 := ⟨kk_X7_row, (List.mem_append_right _ (List.mem_of_getElem? (i := 590) (by decide +kernel))), ki_X7_row, kl_X7_row, kn_X7, ⟨_, rfl, rfl⟩, by decide +kernel, by decide +kernel, by decide +kernel, by decide +kernel, by decide⟩
theorem kv_X7_61 : CV RX7 61 M_X4_sideOf 4 2 := ⟨kk_X4_sideOf, (List.mem_append_right _ (List.mem_of_getElem? (i := 594) (by decide +kernel))), ki_X4_sideOf, kl_X4_sideOf, kn_X4, ⟨_, rfl, rfl⟩, by decide +kernel, by decide +kernel, by decide +kernel, by decide +kernel, by decide⟩
theorem kv_L_89 : CV "FurrowFieldLaw" 89 M_X10_halves 10 1 := ⟨kk_X10_halves, (List.mem_append_right _ (List.mem_of_getElem? (i := 598) (by decide +kernel))), ki_X10_halves, kl_X10_halves, kn_X10, ⟨_, rfl, rfl⟩, by decide +kernel, by decide +kernel, by decide +kernel, by decide +kernel, by decide⟩
theorem kv_X10_249 : CV RX10 249 M_X7_isHalvedBy 7 2 := ⟨kk_X7_isHalvedBy, (List.mem_append_right _ (List.mem_of_getElem? (i := 602) (by decide +kernel))), ki_X7_isHalvedBy, kl_X7_isHalvedBy, kn_X7, ⟨_, rfl, rfl⟩, by decide +kernel, by decide +kernel, by decide +kernel, by decide +kernel, by decide⟩
theorem kv_L_93 : CV "FurrowFieldLaw" 93 M_X10_furrow 10 1 := ⟨kk_X10_furrow, (List.mem_append_right _ (List.mem_of_getElem? (i := 606) (by decide +kernel))), ki_X10_furrow, kl_X10_furrow, kn_X10, ⟨_, rfl, rfl⟩, by decide +kernel, by decide +kernel, by decide +kernel, by decide +kernel, by decide⟩
theorem kv_X10_253 : CV RX10 253 M_X10_joined 10 0 := ⟨kk_X10_joined, (List.mem_append_right _ (List.mem_of_getElem? (i := 610) (by decide +kernel))), ki_X10_joined, kl_X10_joined, kn_X10, ⟨_, rfl, rfl⟩, by decide +kernel, by decide +kernel, by decide +kernel, by decide +kernel, by decide⟩
theorem kv_X10_321 : CV RX10 321 M_X5_gather 5 1 := ⟨kk_X5_gather, (List.mem_append_right _ (List.mem_of_getElem? (i := 614) (by decide +kernel))), ki_X5_gather, kl_X5_gather, kn_X5, ⟨_, rfl, rfl⟩, by decide +kernel, by decide +kernel, by decide +kernel, by decide +kernel, by decide⟩
theorem kv_X5_48 : CV RX5 48 M_X7_isTogether 7 2 := ⟨kk_X7_isTogether, (List.mem_append_right _ (List.mem_of_getElem? (i := 618) (by decide +kernel))), ki_X7_isTogether, kl_X7_isTogether, kn_X7, ⟨_, rfl, rfl⟩, by decide +kernel, by decide +kernel, by decide +kernel, by decide +kernel, by decide⟩
theorem kv_X5_52 : CV RX5 52 M_X5_isFirstPair 5 3 := ⟨kk_X5_isFirstPair, (List.mem_append_right _ (List.mem_of_getElem? (i := 619) (by decide +kernel))), ki_X5_isFirstPair, kl_X5_isFirstPair, kn_X5, ⟨_, rfl, rfl⟩, by decide +kernel, by decide +kernel, by decide +kernel, by decide +kernel, by decide⟩
theorem kv_X5_63 : CV RX5 63 M_X7_turn 7 3 := ⟨kk_X7_turn, (List.mem_append_right _ (List.mem_of_getElem? (i := 623) (by decide +kernel))), ki_X7_turn, kl_X7_turn, kn_X7, ⟨_, rfl, rfl⟩, by decide +kernel, by decide +kernel, by decide +kernel, by decide +kernel, by decide⟩
theorem kv_X5_56 : CV RX5 56 M_X5_add 5 3 := ⟨kk_X5_add, (List.mem_append_right _ (List.mem_of_getElem? (i := 624) (by decide +kernel))), ki_X5_add, kl_X5_add, kn_X5, ⟨_, rfl, rfl⟩, by decide +kernel, by decide +kernel, by decide +kernel, by decide +kernel, by decide⟩
theorem kv_X5_73 : CV RX5 73 M_X4_join 4 4 := ⟨kk_X4_join, (List.mem_append_right _ (List.mem_of_getElem? (i := 628) (by decide +kernel))), ki_X4_join, kl_X4_join, kn_X4, ⟨_, rfl, rfl⟩, by decide +kernel, by decide +kernel, by decide +kernel, by decide +kernel, by decide⟩
theorem kv_X5_83 : CV RX5 83 M_X5_plantsOn 5 3 := ⟨kk_X5_plantsOn, (List.mem_append_right _ (List.mem_of_getElem? (i := 629) (by decide +kernel))), ki_X5_plantsOn, kl_X5_plantsOn, kn_X5, ⟨_, rfl, rfl⟩, by decide +kernel, by decide +kernel, by decide +kernel, by decide +kernel, by decide⟩
theorem kv_X10_257 : CV RX10 257 M_X5_furrowCount 5 1 := ⟨kk_X5_furrowCount, (List.mem_append_right _ (List.mem_of_getElem? (i := 637) (by decide +kernel))), ki_X5_furrowCount, kl_X5_furrowCount, kn_X5, ⟨_, rfl, rfl⟩, by decide +kernel, by decide +kernel, by decide +kernel, by decide +kernel, by decide⟩
theorem kv_X5_96 : CV RX5 96 M_X5_findFurrows 5 1 := ⟨kk_X5_findFurrows, (List.mem_append_right _ (List.mem_of_getElem? (i := 641) (by decide +kernel))), ki_X5_findFurrows, kl_X5_findFurrows, kn_X5, ⟨_, rfl, rfl⟩, by decide +kernel, by decide +kernel, by decide +kernel, by decide +kernel, by decide⟩
theorem kv_X5_103 : CV RX5 103 M_X4_become 4 3 := ⟨kk_X4_become, (List.mem_append_right _ (List.mem_of_getElem? (i := 645) (by decide +kernel))), ki_X4_become, kl_X4_become, kn_X4, ⟨_, rfl, rfl⟩, by decide +kernel, by decide +kernel, by decide +kernel, by decide +kernel, by decide⟩
theorem kv_X5_107 : CV RX5 107 M_X7_isHalvedBy 7 2 := ⟨kk_X7_isHalvedBy, (List.mem_append_right _ (List.mem_of_getElem? (i := 646) (by decide +kernel))), ki_X7_isHalvedBy, kl_X7_isHalvedBy, kn_X7, ⟨_, rfl, rfl⟩, by decide +kernel, by decide +kernel, by decide +kernel, by decide +kernel, by decide⟩
theorem kv_X10_261 : CV RX10 261 M_X5_giveFurrow 5 3 := ⟨kk_X5_giveFurrow, (List.mem_append_right _ (List.mem_of_getElem? (i := 647) (by decide +kernel))), ki_X5_giveFurrow, kl_X5_giveFurrow, kn_X5, ⟨_, rfl, rfl⟩, by decide +kernel, by decide +kernel, by decide +kernel, by decide +kernel, by decide⟩
theorem ks_X5_111 : CS RX5 111 M_X10_isBelow 2 := ⟨kk_X10_isBelow, kt_X10_isBelow, kn_X10, by decide +kernel, by decide +kernel, by decide +kernel, by decide +kernel, by decide, (Or.inr ⟨"FurrowField", (List.mem_append_right _ (List.mem_of_getElem? (i := 651) (by decide +kernel)))⟩)⟩
theorem kv_L_97 : CV "FurrowFieldLaw" 97 M_X10_furrows 10 0 := ⟨kk_X10_furrows, (List.mem_append_right _ (List.mem_of_getElem? (i := 652) (by decide +kernel))), ki_X10_furrows, kl_X10_furrows, kn_X10, ⟨_, rfl, rfl⟩, by decide +kernel, by decide +kernel, by decide +kernel, by decide +kernel, by decide⟩
theorem kv_L_101 : CV "FurrowFieldLaw" 101 M_X10_depth 10 3 := ⟨kk_X10_depth, (List.mem_append_right _ (List.mem_of_getElem? (i := 656) (by decide +kernel))), ki_X10_depth, kl_X10_depth, kn_X10, ⟨_, rfl, rfl⟩, by decide +kernel, by decide +kernel, by decide +kernel, by decide +kernel, by decide⟩
theorem kv_X10_265 : CV RX10 265 M_X2_depthAt 2 5 := ⟨kk_X2_depthAt, (List.mem_append_right _ (List.mem_of_getElem? (i := 660) (by decide +kernel))), ki_X2_depthAt, kl_X2_depthAt, kn_X2, ⟨_, rfl, rfl⟩, by decide +kernel, by decide +kernel, by decide +kernel, by decide +kernel, by decide⟩
theorem kv_X2_31 : CV RX2 31 M_X2_isHere 2 1 := ⟨kk_X2_isHere, (List.mem_append_right _ (List.mem_of_getElem? (i := 664) (by decide +kernel))), ki_X2_isHere, kl_X2_isHere, kn_X2, ⟨_, rfl, rfl⟩, by decide +kernel, by decide +kernel, by decide +kernel, by decide +kernel, by decide⟩
theorem kv_X2_38 : CV RX2 38 M_X7_total 7 1 := ⟨kk_X7_total, (List.mem_append_right _ (List.mem_of_getElem? (i := 668) (by decide +kernel))), ki_X7_total, kl_X7_total, kn_X7, ⟨_, rfl, rfl⟩, by decide +kernel, by decide +kernel, by decide +kernel, by decide +kernel, by decide⟩
theorem kv_X2_42 : CV RX2 42 M_X2_leastBeside 2 2 := ⟨kk_X2_leastBeside, (List.mem_append_right _ (List.mem_of_getElem? (i := 672) (by decide +kernel))), ki_X2_leastBeside, kl_X2_leastBeside, kn_X2, ⟨_, rfl, rfl⟩, by decide +kernel, by decide +kernel, by decide +kernel, by decide +kernel, by decide⟩
theorem kv_L_105 : CV "FurrowFieldLaw" 105 M_X10_deepest 10 1 := ⟨kk_X10_deepest, (List.mem_append_right _ (List.mem_of_getElem? (i := 677) (by decide +kernel))), ki_X10_deepest, kl_X10_deepest, kn_X10, ⟨_, rfl, rfl⟩, by decide +kernel, by decide +kernel, by decide +kernel, by decide +kernel, by decide⟩
theorem kv_X10_276 : CV RX10 276 M_X2_findDeepest 2 2 := ⟨kk_X2_findDeepest, (List.mem_append_right _ (List.mem_of_getElem? (i := 683) (by decide +kernel))), ki_X2_findDeepest, kl_X2_findDeepest, kn_X2, ⟨_, rfl, rfl⟩, by decide +kernel, by decide +kernel, by decide +kernel, by decide +kernel, by decide⟩
theorem kv_X2_63 : CV RX2 63 M_X2_consider 2 4 := ⟨kk_X2_consider, (List.mem_append_right _ (List.mem_of_getElem? (i := 687) (by decide +kernel))), ki_X2_consider, kl_X2_consider, kn_X2, ⟨_, rfl, rfl⟩, by decide +kernel, by decide +kernel, by decide +kernel, by decide +kernel, by decide⟩
theorem kv_X2_87 : CV RX2 87 M_X2_isAhead 2 3 := ⟨kk_X2_isAhead, (List.mem_append_right _ (List.mem_of_getElem? (i := 691) (by decide +kernel))), ki_X2_isAhead, kl_X2_isAhead, kn_X2, ⟨_, rfl, rfl⟩, by decide +kernel, by decide +kernel, by decide +kernel, by decide +kernel, by decide⟩
theorem kv_X2_91 : CV RX2 91 M_X2_depthAt 2 5 := ⟨kk_X2_depthAt, (List.mem_append_right _ (List.mem_of_getElem? (i := 695) (by decide +kernel))), ki_X2_depthAt, kl_X2_depthAt, kn_X2, ⟨_, rfl, rfl⟩, by decide +kernel, by decide +kernel, by decide +kernel, by decide +kernel, by decide⟩
theorem kv_X2_70 : CV RX2 70 M_X2_considerCrossing 2 4 := ⟨kk_X2_considerCrossing, (List.mem_append_right _ (List.mem_of_getElem? (i := 696) (by decide +kernel))), ki_X2_considerCrossing, kl_X2_considerCrossing, kn_X2, ⟨_, rfl, rfl⟩, by decide +kernel, by decide +kernel, by decide +kernel, by decide +kernel, by decide⟩
theorem kv_X10_280 : CV RX10 280 M_X2_tell 2 1 := ⟨kk_X2_tell, (List.mem_append_right _ (List.mem_of_getElem? (i := 700) (by decide +kernel))), ki_X2_tell, kl_X2_tell, kn_X2, ⟨_, rfl, rfl⟩, by decide +kernel, by decide +kernel, by decide +kernel, by decide +kernel, by decide⟩
theorem ks_X2_95 : CS RX2 95 M_X10_without 2 := ⟨kk_X10_without, kt_X10_without, kn_X10, by decide +kernel, by decide +kernel, by decide +kernel, by decide +kernel, by decide, (Or.inr ⟨"FurrowField", (List.mem_append_right _ (List.mem_of_getElem? (i := 704) (by decide +kernel)))⟩)⟩
theorem ks_X10_329 : CS RX10 329 M_X10_commonDivisor 2 := ⟨kk_X10_commonDivisor, kt_X10_commonDivisor, kn_X10, by decide +kernel, by decide +kernel, by decide +kernel, by decide +kernel, by decide, (Or.inl (List.mem_append_right _ (List.mem_of_getElem? (i := 707) (by decide +kernel))))⟩
theorem kv_L_110 : CV "FurrowFieldLaw" 110 M_X10_layer 10 1 := ⟨kk_X10_layer, (List.mem_append_right _ (List.mem_of_getElem? (i := 708) (by decide +kernel))), ki_X10_layer, kl_X10_layer, kn_X10, ⟨_, rfl, rfl⟩, by decide +kernel, by decide +kernel, by decide +kernel, by decide +kernel, by decide⟩
theorem kv_X10_284 : CV RX10 284 M_X3_sizeOf 3 1 := ⟨kk_X3_sizeOf, (List.mem_append_right _ (List.mem_of_getElem? (i := 712) (by decide +kernel))), ki_X3_sizeOf, kl_X3_sizeOf, kn_X3, ⟨_, rfl, rfl⟩, by decide +kernel, by decide +kernel, by decide +kernel, by decide +kernel, by decide⟩
theorem kv_L_118 : CV "FurrowFieldLaw" 118 M_X10_widest 10 1 := ⟨kk_X10_widest, (List.mem_append_right _ (List.mem_of_getElem? (i := 720) (by decide +kernel))), ki_X10_widest, kl_X10_widest, kn_X10, ⟨_, rfl, rfl⟩, by decide +kernel, by decide +kernel, by decide +kernel, by decide +kernel, by decide⟩
theorem kv_X10_295 : CV RX10 295 M_X8_findWidest 8 2 := ⟨kk_X8_findWidest, (List.mem_append_right _ (List.mem_of_getElem? (i := 724) (by decide +kernel))), ki_X8_findWidest, kl_X8_findWidest, kn_X8, ⟨_, rfl, rfl⟩, by decide +kernel, by decide +kernel, by decide +kernel, by decide +kernel, by decide⟩
theorem kv_X8_34 : CV RX8 34 M_X8_consider 8 3 := ⟨kk_X8_consider, (List.mem_append_right _ (List.mem_of_getElem? (i := 728) (by decide +kernel))), ki_X8_consider, kl_X8_consider, kn_X8, ⟨_, rfl, rfl⟩, by decide +kernel, by decide +kernel, by decide +kernel, by decide +kernel, by decide⟩
theorem kv_X8_55 : CV RX8 55 M_X8_putInOrder 8 2 := ⟨kk_X8_putInOrder, (List.mem_append_right _ (List.mem_of_getElem? (i := 732) (by decide +kernel))), ki_X8_putInOrder, kl_X8_putInOrder, kn_X8, ⟨_, rfl, rfl⟩, by decide +kernel, by decide +kernel, by decide +kernel, by decide +kernel, by decide⟩
theorem ks_X8_38 : CS RX8 38 M_X10_commonDivisor 2 := ⟨kk_X10_commonDivisor, kt_X10_commonDivisor, kn_X10, by decide +kernel, by decide +kernel, by decide +kernel, by decide +kernel, by decide, (Or.inr ⟨"FurrowField", (List.mem_append_right _ (List.mem_of_getElem? (i := 739) (by decide +kernel)))⟩)⟩
theorem kv_L_122 : CV "FurrowFieldLaw" 122 M_X10_count 10 1 := ⟨kk_X10_count, (List.mem_append_right _ (List.mem_of_getElem? (i := 740) (by decide +kernel))), ki_X10_count, kl_X10_count, kn_X10, ⟨_, rfl, rfl⟩, by decide +kernel, by decide +kernel, by decide +kernel, by decide +kernel, by decide⟩
theorem kv_X10_305 : CV RX10 305 M_X10_bedsThere 10 0 := ⟨kk_X10_bedsThere, (List.mem_append_right _ (List.mem_of_getElem? (i := 744) (by decide +kernel))), ki_X10_bedsThere, kl_X10_bedsThere, kn_X10, ⟨_, rfl, rfl⟩, by decide +kernel, by decide +kernel, by decide +kernel, by decide +kernel, by decide⟩
theorem kv_X10_310 : CV RX10 310 M_X7_total 7 1 := ⟨kk_X7_total, (List.mem_append_right _ (List.mem_of_getElem? (i := 748) (by decide +kernel))), ki_X7_total, kl_X7_total, kn_X7, ⟨_, rfl, rfl⟩, by decide +kernel, by decide +kernel, by decide +kernel, by decide +kernel, by decide⟩
theorem kv_L_126 : CV "FurrowFieldLaw" 126 M_X10_status 10 0 := ⟨kk_X10_status, (List.mem_append_right _ (List.mem_of_getElem? (i := 749) (by decide +kernel))), ki_X10_status, kl_X10_status, kn_X10, ⟨_, rfl, rfl⟩, by decide +kernel, by decide +kernel, by decide +kernel, by decide +kernel, by decide⟩
theorem kv_L_17 : CV "FurrowFieldLaw" 17 M_X11_bed 11 3 := ⟨kk_X11_bed, (List.mem_append_right _ (List.mem_of_getElem? (i := 882) (by decide +kernel))), ki_X11_bed, kl_X11_bed, kn_X11, ⟨_, rfl, rfl⟩, by decide +kernel, by decide +kernel, by decide +kernel, by decide +kernel, by decide⟩
theorem ks_X11_85 : CS RX11 85 M_X11_isBed 1 := ⟨kk_X11_isBed, kt_X11_isBed, kn_X11, by decide +kernel, by decide +kernel, by decide +kernel, by decide +kernel, by decide, (Or.inl (List.mem_append_right _ (List.mem_of_getElem? (i := 886) (by decide +kernel))))⟩
theorem ks_X11_81 : CS RX11 81 M_X11_in 3 := ⟨kk_X11_in, kt_X11_in, kn_X11, by decide +kernel, by decide +kernel, by decide +kernel, by decide +kernel, by decide, (Or.inl (List.mem_append_right _ (List.mem_of_getElem? (i := 890) (by decide +kernel))))⟩
theorem kv_X11_92 : CV RX11 92 M_X11_finds 11 1 := ⟨kk_X11_finds, (List.mem_append_right _ (List.mem_of_getElem? (i := 895) (by decide +kernel))), ki_X11_finds, kl_X11_finds, kn_X11, ⟨_, rfl, rfl⟩, by decide +kernel, by decide +kernel, by decide +kernel, by decide +kernel, by decide⟩
theorem kv_X11_96 : CV RX11 96 M_X11_well 11 1 := ⟨kk_X11_well, (List.mem_append_right _ (List.mem_of_getElem? (i := 900) (by decide +kernel))), ki_X11_well, kl_X11_well, kn_X11, ⟨_, rfl, rfl⟩, by decide +kernel, by decide +kernel, by decide +kernel, by decide +kernel, by decide⟩
theorem kv_L_24 : CV "FurrowFieldLaw" 24 M_X11_set 11 3 := ⟨kk_X11_set, (List.mem_append_right _ (List.mem_of_getElem? (i := 904) (by decide +kernel))), ki_X11_set, kl_X11_set, kn_X11, ⟨_, rfl, rfl⟩, by decide +kernel, by decide +kernel, by decide +kernel, by decide +kernel, by decide⟩
theorem kv_L_29 : CV "FurrowFieldLaw" 29 M_X11_drop 11 1 := ⟨kk_X11_drop, (List.mem_append_right _ (List.mem_of_getElem? (i := 909) (by decide +kernel))), ki_X11_drop, kl_X11_drop, kn_X11, ⟨_, rfl, rfl⟩, by decide +kernel, by decide +kernel, by decide +kernel, by decide +kernel, by decide⟩
theorem kv_L_34 : CV "FurrowFieldLaw" 34 M_X11_copy 11 5 := ⟨kk_X11_copy, (List.mem_append_right _ (List.mem_of_getElem? (i := 913) (by decide +kernel))), ki_X11_copy, kl_X11_copy, kn_X11, ⟨_, rfl, rfl⟩, by decide +kernel, by decide +kernel, by decide +kernel, by decide +kernel, by decide⟩
theorem kv_L_38 : CV "FurrowFieldLaw" 38 M_X11_plant 11 3 := ⟨kk_X11_plant, (List.mem_append_right _ (List.mem_of_getElem? (i := 917) (by decide +kernel))), ki_X11_plant, kl_X11_plant, kn_X11, ⟨_, rfl, rfl⟩, by decide +kernel, by decide +kernel, by decide +kernel, by decide +kernel, by decide⟩
theorem kv_X11_127 : CV RX11 127 M_X11_keep 11 2 := ⟨kk_X11_keep, (List.mem_append_right _ (List.mem_of_getElem? (i := 925) (by decide +kernel))), ki_X11_keep, kl_X11_keep, kn_X11, ⟨_, rfl, rfl⟩, by decide +kernel, by decide +kernel, by decide +kernel, by decide +kernel, by decide⟩
theorem kv_L_42 : CV "FurrowFieldLaw" 42 M_X11_move 11 3 := ⟨kk_X11_move, (List.mem_append_right _ (List.mem_of_getElem? (i := 929) (by decide +kernel))), ki_X11_move, kl_X11_move, kn_X11, ⟨_, rfl, rfl⟩, by decide +kernel, by decide +kernel, by decide +kernel, by decide +kernel, by decide⟩
theorem kv_X11_131 : CV RX11 131 M_X11_isPlant 11 1 := ⟨kk_X11_isPlant, (List.mem_append_right _ (List.mem_of_getElem? (i := 933) (by decide +kernel))), ki_X11_isPlant, kl_X11_isPlant, kn_X11, ⟨_, rfl, rfl⟩, by decide +kernel, by decide +kernel, by decide +kernel, by decide +kernel, by decide⟩
theorem kv_L_46 : CV "FurrowFieldLaw" 46 M_X11_away 11 1 := ⟨kk_X11_away, (List.mem_append_right _ (List.mem_of_getElem? (i := 937) (by decide +kernel))), ki_X11_away, kl_X11_away, kn_X11, ⟨_, rfl, rfl⟩, by decide +kernel, by decide +kernel, by decide +kernel, by decide +kernel, by decide⟩
theorem kv_X11_134 : CV RX11 134 M_X11_there 11 0 := ⟨kk_X11_there, (List.mem_append_right _ (List.mem_of_getElem? (i := 941) (by decide +kernel))), ki_X11_there, kl_X11_there, kn_X11, ⟨_, rfl, rfl⟩, by decide +kernel, by decide +kernel, by decide +kernel, by decide +kernel, by decide⟩
theorem kv_L_51 : CV "FurrowFieldLaw" 51 M_X11_colour 11 2 := ⟨kk_X11_colour, (List.mem_append_right _ (List.mem_of_getElem? (i := 945) (by decide +kernel))), ki_X11_colour, kl_X11_colour, kn_X11, ⟨_, rfl, rfl⟩, by decide +kernel, by decide +kernel, by decide +kernel, by decide +kernel, by decide⟩
theorem kv_L_55 : CV "FurrowFieldLaw" 55 M_X11_told 11 2 := ⟨kk_X11_told, (List.mem_append_right _ (List.mem_of_getElem? (i := 949) (by decide +kernel))), ki_X11_told, kl_X11_told, kn_X11, ⟨_, rfl, rfl⟩, by decide +kernel, by decide +kernel, by decide +kernel, by decide +kernel, by decide⟩
theorem kv_X11_140 : CV RX11 140 M_X11_findLayers 11 0 := ⟨kk_X11_findLayers, (List.mem_append_right _ (List.mem_of_getElem? (i := 954) (by decide +kernel))), ki_X11_findLayers, kl_X11_findLayers, kn_X11, ⟨_, rfl, rfl⟩, by decide +kernel, by decide +kernel, by decide +kernel, by decide +kernel, by decide⟩
theorem kv_X11_264 : CV RX11 264 M_X11_isOnEdge 11 1 := ⟨kk_X11_isOnEdge, (List.mem_append_right _ (List.mem_of_getElem? (i := 958) (by decide +kernel))), ki_X11_isOnEdge, kl_X11_isOnEdge, kn_X11, ⟨_, rfl, rfl⟩, by decide +kernel, by decide +kernel, by decide +kernel, by decide +kernel, by decide⟩
theorem kv_X11_200 : CV RX11 200 M_X11_isApart 11 2 := ⟨kk_X11_isApart, (List.mem_append_right _ (List.mem_of_getElem? (i := 962) (by decide +kernel))), ki_X11_isApart, kl_X11_isApart, kn_X11, ⟨_, rfl, rfl⟩, by decide +kernel, by decide +kernel, by decide +kernel, by decide +kernel, by decide⟩
theorem kv_X11_203 : CV RX11 203 M_X11_look 11 2 := ⟨kk_X11_look, (List.mem_append_right _ (List.mem_of_getElem? (i := 966) (by decide +kernel))), ki_X11_look, kl_X11_look, kn_X11, ⟨_, rfl, rfl⟩, by decide +kernel, by decide +kernel, by decide +kernel, by decide +kernel, by decide⟩
theorem ks_X11_181 : CS RX11 181 M_X11_divisor 2 := ⟨kk_X11_divisor, kt_X11_divisor, kn_X11, by decide +kernel, by decide +kernel, by decide +kernel, by decide +kernel, by decide, (Or.inl (List.mem_append_right _ (List.mem_of_getElem? (i := 970) (by decide +kernel))))⟩
theorem kv_X11_210 : CV RX11 210 M_X11_at 11 1 := ⟨kk_X11_at, (List.mem_append_right _ (List.mem_of_getElem? (i := 973) (by decide +kernel))), ki_X11_at, kl_X11_at, kn_X11, ⟨_, rfl, rfl⟩, by decide +kernel, by decide +kernel, by decide +kernel, by decide +kernel, by decide⟩
theorem kv_L_59 : CV "FurrowFieldLaw" 59 M_X11_is 11 2 := ⟨kk_X11_is, (List.mem_append_right _ (List.mem_of_getElem? (i := 977) (by decide +kernel))), ki_X11_is, kl_X11_is, kn_X11, ⟨_, rfl, rfl⟩, by decide +kernel, by decide +kernel, by decide +kernel, by decide +kernel, by decide⟩
theorem kv_X11_143 : CV RX11 143 M_X11_isOf 11 2 := ⟨kk_X11_isOf, (List.mem_append_right _ (List.mem_of_getElem? (i := 981) (by decide +kernel))), ki_X11_isOf, kl_X11_isOf, kn_X11, ⟨_, rfl, rfl⟩, by decide +kernel, by decide +kernel, by decide +kernel, by decide +kernel, by decide⟩
theorem kv_L_63 : CV "FurrowFieldLaw" 63 M_X11_ask 11 2 := ⟨kk_X11_ask, (List.mem_append_right _ (List.mem_of_getElem? (i := 985) (by decide +kernel))), ki_X11_ask, kl_X11_ask, kn_X11, ⟨_, rfl, rfl⟩, by decide +kernel, by decide +kernel, by decide +kernel, by decide +kernel, by decide⟩
theorem kv_X11_172 : CV RX11 172 M_X11_asked 11 2 := ⟨kk_X11_asked, (List.mem_append_right _ (List.mem_of_getElem? (i := 989) (by decide +kernel))), ki_X11_asked, kl_X11_asked, kn_X11, ⟨_, rfl, rfl⟩, by decide +kernel, by decide +kernel, by decide +kernel, by decide +kernel, by decide⟩
theorem kv_X11_157 : CV RX11 157 M_X11_red 11 1 := ⟨kk_X11_red, (List.mem_append_right _ (List.mem_of_getElem? (i := 993) (by decide +kernel))), ki_X11_red, kl_X11_red, kn_X11, ⟨_, rfl, rfl⟩, by decide +kernel, by decide +kernel, by decide +kernel, by decide +kernel, by decide⟩
theorem kv_X11_153 : CV RX11 153 M_X11_begins 11 1 := ⟨kk_X11_begins, (List.mem_append_right _ (List.mem_of_getElem? (i := 997) (by decide +kernel))), ki_X11_begins, kl_X11_begins, kn_X11, ⟨_, rfl, rfl⟩, by decide +kernel, by decide +kernel, by decide +kernel, by decide +kernel, by decide⟩
theorem kv_X11_160 : CV RX11 160 M_X11_blue 11 1 := ⟨kk_X11_blue, (List.mem_append_right _ (List.mem_of_getElem? (i := 1001) (by decide +kernel))), ki_X11_blue, kl_X11_blue, kn_X11, ⟨_, rfl, rfl⟩, by decide +kernel, by decide +kernel, by decide +kernel, by decide +kernel, by decide⟩
theorem kv_X11_166 : CV RX11 166 M_X11_all 11 1 := ⟨kk_X11_all, (List.mem_append_right _ (List.mem_of_getElem? (i := 1005) (by decide +kernel))), ki_X11_all, kl_X11_all, kn_X11, ⟨_, rfl, rfl⟩, by decide +kernel, by decide +kernel, by decide +kernel, by decide +kernel, by decide⟩
theorem kv_X11_163 : CV RX11 163 M_X11_lentAll 11 1 := ⟨kk_X11_lentAll, (List.mem_append_right _ (List.mem_of_getElem? (i := 1009) (by decide +kernel))), ki_X11_lentAll, kl_X11_lentAll, kn_X11, ⟨_, rfl, rfl⟩, by decide +kernel, by decide +kernel, by decide +kernel, by decide +kernel, by decide⟩
theorem kv_X11_169 : CV RX11 169 M_X11_worth 11 1 := ⟨kk_X11_worth, (List.mem_append_right _ (List.mem_of_getElem? (i := 1013) (by decide +kernel))), ki_X11_worth, kl_X11_worth, kn_X11, ⟨_, rfl, rfl⟩, by decide +kernel, by decide +kernel, by decide +kernel, by decide +kernel, by decide⟩
theorem kv_L_67 : CV "FurrowFieldLaw" 67 M_X11_trace 11 1 := ⟨kk_X11_trace, (List.mem_append_right _ (List.mem_of_getElem? (i := 1017) (by decide +kernel))), ki_X11_trace, kl_X11_trace, kn_X11, ⟨_, rfl, rfl⟩, by decide +kernel, by decide +kernel, by decide +kernel, by decide +kernel, by decide⟩
theorem kv_L_72 : CV "FurrowFieldLaw" 72 M_X11_undo 11 0 := ⟨kk_X11_undo, (List.mem_append_right _ (List.mem_of_getElem? (i := 1021) (by decide +kernel))), ki_X11_undo, kl_X11_undo, kn_X11, ⟨_, rfl, rfl⟩, by decide +kernel, by decide +kernel, by decide +kernel, by decide +kernel, by decide⟩
theorem kv_L_76 : CV "FurrowFieldLaw" 76 M_X11_line 11 3 := ⟨kk_X11_line, (List.mem_append_right _ (List.mem_of_getElem? (i := 1026) (by decide +kernel))), ki_X11_line, kl_X11_line, kn_X11, ⟨_, rfl, rfl⟩, by decide +kernel, by decide +kernel, by decide +kernel, by decide +kernel, by decide⟩
theorem kv_L_80 : CV "FurrowFieldLaw" 80 M_X11_through 11 2 := ⟨kk_X11_through, (List.mem_append_right _ (List.mem_of_getElem? (i := 1032) (by decide +kernel))), ki_X11_through, kl_X11_through, kn_X11, ⟨_, rfl, rfl⟩, by decide +kernel, by decide +kernel, by decide +kernel, by decide +kernel, by decide⟩
theorem kv_X11_207 : CV RX11 207 M_X11_putLine 11 0 := ⟨kk_X11_putLine, (List.mem_append_right _ (List.mem_of_getElem? (i := 1036) (by decide +kernel))), ki_X11_putLine, kl_X11_putLine, kn_X11, ⟨_, rfl, rfl⟩, by decide +kernel, by decide +kernel, by decide +kernel, by decide +kernel, by decide⟩
theorem kv_L_84 : CV "FurrowFieldLaw" 84 M_X11_lineAt 11 1 := ⟨kk_X11_lineAt, (List.mem_append_right _ (List.mem_of_getElem? (i := 1040) (by decide +kernel))), ki_X11_lineAt, kl_X11_lineAt, kn_X11, ⟨_, rfl, rfl⟩, by decide +kernel, by decide +kernel, by decide +kernel, by decide +kernel, by decide⟩
theorem kv_L_88 : CV "FurrowFieldLaw" 88 M_X11_side 11 2 := ⟨kk_X11_side, (List.mem_append_right _ (List.mem_of_getElem? (i := 1044) (by decide +kernel))), ki_X11_side, kl_X11_side, kn_X11, ⟨_, rfl, rfl⟩, by decide +kernel, by decide +kernel, by decide +kernel, by decide +kernel, by decide⟩
theorem kv_X11_217 : CV RX11 217 M_X11_lookAtLine 11 0 := ⟨kk_X11_lookAtLine, (List.mem_append_right _ (List.mem_of_getElem? (i := 1048) (by decide +kernel))), ki_X11_lookAtLine, kl_X11_lookAtLine, kn_X11, ⟨_, rfl, rfl⟩, by decide +kernel, by decide +kernel, by decide +kernel, by decide +kernel, by decide⟩
theorem kv_X11_214 : CV RX11 214 M_X11_sumOf 11 2 := ⟨kk_X11_sumOf, (List.mem_append_right _ (List.mem_of_getElem? (i := 1052) (by decide +kernel))), ki_X11_sumOf, kl_X11_sumOf, kn_X11, ⟨_, rfl, rfl⟩, by decide +kernel, by decide +kernel, by decide +kernel, by decide +kernel, by decide⟩
theorem kv_L_92 : CV "FurrowFieldLaw" 92 M_X11_halves 11 1 := ⟨kk_X11_halves, (List.mem_append_right _ (List.mem_of_getElem? (i := 1056) (by decide +kernel))), ki_X11_halves, kl_X11_halves, kn_X11, ⟨_, rfl, rfl⟩, by decide +kernel, by decide +kernel, by decide +kernel, by decide +kernel, by decide⟩
theorem kv_X11_220 : CV RX11 220 M_X11_isHalved 11 1 := ⟨kk_X11_isHalved, (List.mem_append_right _ (List.mem_of_getElem? (i := 1060) (by decide +kernel))), ki_X11_isHalved, kl_X11_isHalved, kn_X11, ⟨_, rfl, rfl⟩, by decide +kernel, by decide +kernel, by decide +kernel, by decide +kernel, by decide⟩
theorem kv_L_96 : CV "FurrowFieldLaw" 96 M_X11_furrow 11 1 := ⟨kk_X11_furrow, (List.mem_append_right _ (List.mem_of_getElem? (i := 1064) (by decide +kernel))), ki_X11_furrow, kl_X11_furrow, kn_X11, ⟨_, rfl, rfl⟩, by decide +kernel, by decide +kernel, by decide +kernel, by decide +kernel, by decide⟩
theorem kv_X11_229 : CV RX11 229 M_X11_findFurrow 11 1 := ⟨kk_X11_findFurrow, (List.mem_append_right _ (List.mem_of_getElem? (i := 1068) (by decide +kernel))), ki_X11_findFurrow, kl_X11_findFurrow, kn_X11, ⟨_, rfl, rfl⟩, by decide +kernel, by decide +kernel, by decide +kernel, by decide +kernel, by decide⟩
theorem kv_X11_223 : CV RX11 223 M_X11_isFirst 11 2 := ⟨kk_X11_isFirst, (List.mem_append_right _ (List.mem_of_getElem? (i := 1072) (by decide +kernel))), ki_X11_isFirst, kl_X11_isFirst, kn_X11, ⟨_, rfl, rfl⟩, by decide +kernel, by decide +kernel, by decide +kernel, by decide +kernel, by decide⟩
theorem kv_X11_226 : CV RX11 226 M_X11_firstThere 11 0 := ⟨kk_X11_firstThere, (List.mem_append_right _ (List.mem_of_getElem? (i := 1076) (by decide +kernel))), ki_X11_firstThere, kl_X11_firstThere, kn_X11, ⟨_, rfl, rfl⟩, by decide +kernel, by decide +kernel, by decide +kernel, by decide +kernel, by decide⟩
theorem kv_L_100 : CV "FurrowFieldLaw" 100 M_X11_furrows 11 0 := ⟨kk_X11_furrows, (List.mem_append_right _ (List.mem_of_getElem? (i := 1080) (by decide +kernel))), ki_X11_furrows, kl_X11_furrows, kn_X11, ⟨_, rfl, rfl⟩, by decide +kernel, by decide +kernel, by decide +kernel, by decide +kernel, by decide⟩
theorem kv_L_104 : CV "FurrowFieldLaw" 104 M_X11_depth 11 3 := ⟨kk_X11_depth, (List.mem_append_right _ (List.mem_of_getElem? (i := 1084) (by decide +kernel))), ki_X11_depth, kl_X11_depth, kn_X11, ⟨_, rfl, rfl⟩, by decide +kernel, by decide +kernel, by decide +kernel, by decide +kernel, by decide⟩
theorem kv_X11_240 : CV RX11 240 M_X11_depthOf 11 3 := ⟨kk_X11_depthOf, (List.mem_append_right _ (List.mem_of_getElem? (i := 1089) (by decide +kernel))), ki_X11_depthOf, kl_X11_depthOf, kn_X11, ⟨_, rfl, rfl⟩, by decide +kernel, by decide +kernel, by decide +kernel, by decide +kernel, by decide⟩
theorem kv_X11_234 : CV RX11 234 M_X11_sumBeyond 11 5 := ⟨kk_X11_sumBeyond, (List.mem_append_right _ (List.mem_of_getElem? (i := 1094) (by decide +kernel))), ki_X11_sumBeyond, kl_X11_sumBeyond, kn_X11, ⟨_, rfl, rfl⟩, by decide +kernel, by decide +kernel, by decide +kernel, by decide +kernel, by decide⟩
theorem kv_L_109 : CV "FurrowFieldLaw" 109 M_X11_deepest 11 1 := ⟨kk_X11_deepest, (List.mem_append_right _ (List.mem_of_getElem? (i := 1098) (by decide +kernel))), ki_X11_deepest, kl_X11_deepest, kn_X11, ⟨_, rfl, rfl⟩, by decide +kernel, by decide +kernel, by decide +kernel, by decide +kernel, by decide⟩
theorem kv_X11_260 : CV RX11 260 M_X11_offer 11 3 := ⟨kk_X11_offer, (List.mem_append_right _ (List.mem_of_getElem? (i := 1104) (by decide +kernel))), ki_X11_offer, kl_X11_offer, kn_X11, ⟨_, rfl, rfl⟩, by decide +kernel, by decide +kernel, by decide +kernel, by decide +kernel, by decide⟩
theorem kv_L_113 : CV "FurrowFieldLaw" 113 M_X11_layer 11 1 := ⟨kk_X11_layer, (List.mem_append_right _ (List.mem_of_getElem? (i := 1108) (by decide +kernel))), ki_X11_layer, kl_X11_layer, kn_X11, ⟨_, rfl, rfl⟩, by decide +kernel, by decide +kernel, by decide +kernel, by decide +kernel, by decide⟩
theorem kv_L_117 : CV "FurrowFieldLaw" 117 M_X11_most 11 1 := ⟨kk_X11_most, (List.mem_append_right _ (List.mem_of_getElem? (i := 1112) (by decide +kernel))), ki_X11_most, kl_X11_most, kn_X11, ⟨_, rfl, rfl⟩, by decide +kernel, by decide +kernel, by decide +kernel, by decide +kernel, by decide⟩
theorem kv_L_121 : CV "FurrowFieldLaw" 121 M_X11_widest 11 1 := ⟨kk_X11_widest, (List.mem_append_right _ (List.mem_of_getElem? (i := 1116) (by decide +kernel))), ki_X11_widest, kl_X11_widest, kn_X11, ⟨_, rfl, rfl⟩, by decide +kernel, by decide +kernel, by decide +kernel, by decide +kernel, by decide⟩
theorem kv_X11_273 : CV RX11 273 M_X11_offerGap 11 2 := ⟨kk_X11_offerGap, (List.mem_append_right _ (List.mem_of_getElem? (i := 1120) (by decide +kernel))), ki_X11_offerGap, kl_X11_offerGap, kn_X11, ⟨_, rfl, rfl⟩, by decide +kernel, by decide +kernel, by decide +kernel, by decide +kernel, by decide⟩
theorem kv_L_125 : CV "FurrowFieldLaw" 125 M_X11_count 11 1 := ⟨kk_X11_count, (List.mem_append_right _ (List.mem_of_getElem? (i := 1124) (by decide +kernel))), ki_X11_count, kl_X11_count, kn_X11, ⟨_, rfl, rfl⟩, by decide +kernel, by decide +kernel, by decide +kernel, by decide +kernel, by decide⟩
theorem kv_L_129 : CV "FurrowFieldLaw" 129 M_X11_status 11 0 := ⟨kk_X11_status, (List.mem_append_right _ (List.mem_of_getElem? (i := 1128) (by decide +kernel))), ki_X11_status, kl_X11_status, kn_X11, ⟨_, rfl, rfl⟩, by decide +kernel, by decide +kernel, by decide +kernel, by decide +kernel, by decide⟩
theorem kc_X10_92 : Cond.constant RX10 92 (-1000001 : Int32) ∈ lw_tbl := (List.mem_append_right _ (List.mem_of_getElem? (i := 367) (by decide +kernel)))
theorem kc_X10_313 : Cond.constant RX10 313 (-1000010 : Int32) ∈ lw_tbl := (List.mem_append_right _ (List.mem_of_getElem? (i := 372) (by decide +kernel)))
theorem kc_X10_104 : Cond.constantLong RX10 104 (-1000001 : Int64) ∈ lw_tbl := (List.mem_append_right _ (List.mem_of_getElem? (i := 385) (by decide +kernel)))
theorem kj_X10_131 : Cond.methodLink RX10 131 arraycopyName ∈ lw_tbl := (List.mem_append_right _ (List.mem_of_getElem? (i := 402) (by decide +kernel)))
theorem kc_X10_140 : Cond.constant RX10 140 (-1000003 : Int32) ∈ lw_tbl := (List.mem_append_right _ (List.mem_of_getElem? (i := 409) (by decide +kernel)))
theorem kc_X10_327 : Cond.constantLong RX10 327 (300 : Int64) ∈ lw_tbl := (List.mem_append_right _ (List.mem_of_getElem? (i := 413) (by decide +kernel)))
theorem kg_X6_53 : Cond.fieldLinkNest RX6 53 "FurrowField" "BODIES" "[I" "FurrowField" ∈ lw_tbl := (List.mem_append_right _ (List.mem_of_getElem? (i := 437) (by decide +kernel)))
theorem kj_X6_65 : Cond.methodLink RX6 65 Lib.Math.max.name ∈ lw_tbl := (List.mem_append_right _ (List.mem_of_getElem? (i := 448) (by decide +kernel)))
theorem kg_X6_49 : Cond.fieldLinkNest RX6 49 "FurrowField" "IS_TOO" "[I" "FurrowField" ∈ lw_tbl := (List.mem_append_right _ (List.mem_of_getElem? (i := 537) (by decide +kernel)))
theorem kc_X10_206 : Cond.constant RX10 206 (-1000000 : Int32) ∈ lw_tbl := (List.mem_append_right _ (List.mem_of_getElem? (i := 551) (by decide +kernel)))
theorem kc_X10_213 : Cond.constant RX10 213 (-1000002 : Int32) ∈ lw_tbl := (List.mem_append_right _ (List.mem_of_getElem? (i := 556) (by decide +kernel)))
theorem kc_X10_223 : Cond.constantLong RX10 223 (1000000 : Int64) ∈ lw_tbl := (List.mem_append_right _ (List.mem_of_getElem? (i := 561) (by decide +kernel)))
theorem kj_X5_87 : Cond.methodLink RX5 87 Lib.Math.max.name ∈ lw_tbl := (List.mem_append_right _ (List.mem_of_getElem? (i := 633) (by decide +kernel)))
theorem kj_X5_93 : Cond.methodLink RX5 93 Lib.Math.min.name ∈ lw_tbl := (List.mem_append_right _ (List.mem_of_getElem? (i := 634) (by decide +kernel)))
theorem kj_X2_46 : Cond.methodLink RX2 46 Lib.Math.min.name ∈ lw_tbl := (List.mem_append_right _ (List.mem_of_getElem? (i := 676) (by decide +kernel)))
theorem kc_X10_269 : Cond.constantLong RX10 269 (-1000002 : Int64) ∈ lw_tbl := (List.mem_append_right _ (List.mem_of_getElem? (i := 681) (by decide +kernel)))
theorem kc_X10_271 : Cond.constantLong RX10 271 (-1000003 : Int64) ∈ lw_tbl := (List.mem_append_right _ (List.mem_of_getElem? (i := 682) (by decide +kernel)))
theorem kj_X8_59 : Cond.methodLink RX8 59 Lib.MathLoose.max_long.x ∈ lw_tbl := (List.mem_append_right _ (List.mem_of_getElem? (i := 736) (by decide +kernel)))
theorem kc_X11_26 : Cond.constant RX11 26 (-1000000 : Int32) ∈ lw_tbl := (List.mem_append_right _ (List.mem_of_getElem? (i := 759) (by decide +kernel)))
theorem kc_X11_79 : Cond.constantLong RX11 79 (7 : Int64) ∈ lw_tbl := (List.mem_append_right _ (List.mem_of_getElem? (i := 889) (by decide +kernel)))
theorem kc_X11_89 : Cond.constantLong RX11 89 (2 : Int64) ∈ lw_tbl := (List.mem_append_right _ (List.mem_of_getElem? (i := 893) (by decide +kernel)))
theorem kc_X11_91 : Cond.constant RX11 91 (-1000001 : Int32) ∈ lw_tbl := (List.mem_append_right _ (List.mem_of_getElem? (i := 894) (by decide +kernel)))
theorem kc_X11_78 : Cond.constant RX11 78 (-1000010 : Int32) ∈ lw_tbl := (List.mem_append_right _ (List.mem_of_getElem? (i := 899) (by decide +kernel)))
theorem kc_X11_99 : Cond.constantLong RX11 99 (-1000001 : Int64) ∈ lw_tbl := (List.mem_append_right _ (List.mem_of_getElem? (i := 908) (by decide +kernel)))
theorem kc_X11_120 : Cond.constantLong RX11 120 (4 : Int64) ∈ lw_tbl := (List.mem_append_right _ (List.mem_of_getElem? (i := 921) (by decide +kernel)))
theorem kc_X11_122 : Cond.constant RX11 122 (-1000003 : Int32) ∈ lw_tbl := (List.mem_append_right _ (List.mem_of_getElem? (i := 922) (by decide +kernel)))
theorem kc_X11_123 : Cond.constantLong RX11 123 (-300 : Int64) ∈ lw_tbl := (List.mem_append_right _ (List.mem_of_getElem? (i := 923) (by decide +kernel)))
theorem kc_X11_125 : Cond.constantLong RX11 125 (300 : Int64) ∈ lw_tbl := (List.mem_append_right _ (List.mem_of_getElem? (i := 924) (by decide +kernel)))
theorem kc_X11_138 : Cond.constantLong RX11 138 (3 : Int64) ∈ lw_tbl := (List.mem_append_right _ (List.mem_of_getElem? (i := 953) (by decide +kernel)))
theorem kc_X11_176 : Cond.constant RX11 176 (-1000002 : Int32) ∈ lw_tbl := (List.mem_append_right _ (List.mem_of_getElem? (i := 1025) (by decide +kernel)))
theorem kc_X11_177 : Cond.constantLong RX11 177 (-1000000 : Int64) ∈ lw_tbl := (List.mem_append_right _ (List.mem_of_getElem? (i := 1030) (by decide +kernel)))
theorem kc_X11_179 : Cond.constantLong RX11 179 (1000000 : Int64) ∈ lw_tbl := (List.mem_append_right _ (List.mem_of_getElem? (i := 1031) (by decide +kernel)))
theorem kc_X11_238 : Cond.constantLong RX11 238 (1000 : Int64) ∈ lw_tbl := (List.mem_append_right _ (List.mem_of_getElem? (i := 1088) (by decide +kernel)))
theorem kc_X11_232 : Cond.constantLong RX11 232 (-1 : Int64) ∈ lw_tbl := (List.mem_append_right _ (List.mem_of_getElem? (i := 1093) (by decide +kernel)))
theorem kc_X11_256 : Cond.constantLong RX11 256 (-1000002 : Int64) ∈ lw_tbl := (List.mem_append_right _ (List.mem_of_getElem? (i := 1102) (by decide +kernel)))
theorem kc_X11_258 : Cond.constantLong RX11 258 (-1000003 : Int64) ∈ lw_tbl := (List.mem_append_right _ (List.mem_of_getElem? (i := 1103) (by decide +kernel)))
