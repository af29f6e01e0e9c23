/-! the methods, and the words of fields and calls by their entries -/
abbrev mJ6_bitCount_0f7a4 : MI := (yJ6_bitCount_0f7a4, cJ6_bitCount_0f7a4, 1, (some .int))
abbrev mJ9_floorMod_7cf53 : MI := (yJ9_floorMod_7cf53, cJ9_floorMod_7cf53, 3, (some .int))
abbrev mL_law : MI := (yL_law, cL_law, 4, (some .boolean))
abbrev mX0_forget : MI := (yX0_forget, cX0_forget, 1, none)
abbrev mX0_forgetFirst : MI := (yX0_forgetFirst, cX0_forgetFirst, 3, none)
abbrev mX0_init : MI := (yX0_init, cX0_init, 2, none)
abbrev mX0_remember : MI := (yX0_remember, cX0_remember, 2, none)
abbrev mX0_takeBack : MI := (yX0_takeBack, cX0_takeBack, 2, none)
abbrev mX1_allReached : MI := (yX1_allReached, cX1_allReached, 2, (some .boolean))
abbrev mX1_clearNext : MI := (yX1_clearNext, cX1_clearNext, 2, none)
abbrev mX1_countWays : MI := (yX1_countWays, cX1_countWays, 6, none)
abbrev mX1_fewestHours : MI := (yX1_fewestHours, cX1_fewestHours, 4, (some .int))
abbrev mX1_firstRow : MI := (yX1_firstRow, cX1_firstRow, 7, (some .int))
abbrev mX1_firstWay : MI := (yX1_firstWay, cX1_firstWay, 4, (some .int))
abbrev mX1_init : MI := (yX1_init, cX1_init, 1, none)
abbrev mX1_look : MI := (yX1_look, cX1_look, 5, none)
abbrev mX1_spread : MI := (yX1_spread, cX1_spread, 5, none)
abbrev mX1_swap : MI := (yX1_swap, cX1_swap, 2, none)
abbrev mX1_waysBy : MI := (yX1_waysBy, cX1_waysBy, 3, (some .int))
abbrev mX1_waysFrom : MI := (yX1_waysFrom, cX1_waysFrom, 2, (some .int))
abbrev mX1_withStreet : MI := (yX1_withStreet, cX1_withStreet, 4, (some .int))
abbrev mX2_become : MI := (yX2_become, cX2_become, 2, none)
abbrev mX2_clear : MI := (yX2_clear, cX2_clear, 1, none)
abbrev mX2_comesFrom : MI := (yX2_comesFrom, cX2_comesFrom, 5, (some .boolean))
abbrev mX2_degree : MI := (yX2_degree, cX2_degree, 7, (some .int))
abbrev mX2_hasDog : MI := (yX2_hasDog, cX2_hasDog, 2, (some .boolean))
abbrev mX2_hasMan : MI := (yX2_hasMan, cX2_hasMan, 2, (some .boolean))
abbrev mX2_hasRival : MI := (yX2_hasRival, cX2_hasRival, 3, (some .boolean))
abbrev mX2_inheritsBefore : MI := (yX2_inheritsBefore, cX2_inheritsBefore, 5, (some .boolean))
abbrev mX2_init : MI := (yX2_init, cX2_init, 1, none)
abbrev mX2_mayParent : MI := (yX2_mayParent, cX2_mayParent, 3, (some .boolean))
abbrev mX2_mayParentSome : MI := (yX2_mayParentSome, cX2_mayParentSome, 3, (some .boolean))
abbrev mX2_sings : MI := (yX2_sings, cX2_sings, 2, (some .boolean))
abbrev mX2_wardenAt : MI := (yX2_wardenAt, cX2_wardenAt, 2, (some .int))
abbrev mX3_figure : MI := (yX3_figure, cX3_figure, 1, (some .int))
abbrev mX3_firstFault : MI := (yX3_firstFault, cX3_firstFault, 4, (some .int))
abbrev mX3_goesOn : MI := (yX3_goesOn, cX3_goesOn, 3, (some .boolean))
abbrev mX3_init : MI := (yX3_init, cX3_init, 1, none)
abbrev mX3_isStreet : MI := (yX3_isStreet, cX3_isStreet, 1, (some .boolean))
abbrev mX3_mayOpen : MI := (yX3_mayOpen, cX3_mayOpen, 2, (some .boolean))
abbrev mX3_opens : MI := (yX3_opens, cX3_opens, 2, (some .boolean))
abbrev mX3_takes : MI := (yX3_takes, cX3_takes, 2, (some .boolean))
abbrev mX3_takesDog : MI := (yX3_takesDog, cX3_takesDog, 3, (some .boolean))
abbrev mX3_takesHead : MI := (yX3_takesHead, cX3_takesHead, 2, (some .boolean))
abbrev mX3_takesMan : MI := (yX3_takesMan, cX3_takesMan, 5, (some .boolean))
abbrev mX3_takesParent : MI := (yX3_takesParent, cX3_takesParent, 2, (some .boolean))
abbrev mX4_bachelors : MI := (yX4_bachelors, cX4_bachelors, 3, (some .int))
abbrev mX4_holds : MI := (yX4_holds, cX4_holds, 6, (some .boolean))
abbrev mX4_wardens : MI := (yX4_wardens, cX4_wardens, 3, (some .int))
abbrev mX4_worth : MI := (yX4_worth, cX4_worth, 4, (some .int))
abbrev mX5_add : MI := (yX5_add, cX5_add, 4, none)
abbrev mX5_fits : MI := (yX5_fits, cX5_fits, 6, (some .boolean))
abbrev mX5_init : MI := (yX5_init, cX5_init, 1, none)
abbrev mX5_look : MI := (yX5_look, cX5_look, 5, none)
abbrev mX5_onlyCompany : MI := (yX5_onlyCompany, cX5_onlyCompany, 6, (some .int))
abbrev mX5_share : MI := (yX5_share, cX5_share, 6, (some .int))
abbrev mX5_streetWith : MI := (yX5_streetWith, cX5_streetWith, 6, (some .int))
abbrev mX5_ways : MI := (yX5_ways, cX5_ways, 2, (some .int))
abbrev mX6_forget : MI := (yX6_forget, cX6_forget, 1, none)
abbrev mX6_holds : MI := (yX6_holds, cX6_holds, 2, (some .boolean))
abbrev mX6_init : MI := (yX6_init, cX6_init, 2, none)
abbrev mX6_put : MI := (yX6_put, cX6_put, 3, none)
abbrev mX6_restore : MI := (yX6_restore, cX6_restore, 3, none)
abbrev mX7_allBones : MI := (yX7_allBones, cX7_allBones, 4, (some .int))
abbrev mX7_become : MI := (yX7_become, cX7_become, 2, none)
abbrev mX7_goes : MI := (yX7_goes, cX7_goes, 5, none)
abbrev mX7_hasRoom : MI := (yX7_hasRoom, cX7_hasRoom, 3, (some .boolean))
abbrev mX7_impound : MI := (yX7_impound, cX7_impound, 4, none)
abbrev mX7_impounded : MI := (yX7_impounded, cX7_impounded, 4, (some .int))
abbrev mX7_init : MI := (yX7_init, cX7_init, 1, none)
abbrev mX7_isImpounded : MI := (yX7_isImpounded, cX7_isImpounded, 2, (some .boolean))
abbrev mX7_isLate : MI := (yX7_isLate, cX7_isLate, 2, (some .boolean))
abbrev mX7_isLeashed : MI := (yX7_isLeashed, cX7_isLeashed, 2, (some .boolean))
abbrev mX7_keptBy : MI := (yX7_keptBy, cX7_keptBy, 5, (some .int))
abbrev mX7_mayBeCaught : MI := (yX7_mayBeCaught, cX7_mayBeCaught, 4, (some .boolean))
abbrev mX7_passHour : MI := (yX7_passHour, cX7_passHour, 8, (some .int))
abbrev mX7_perilAt : MI := (yX7_perilAt, cX7_perilAt, 6, (some .int))
abbrev mX7_serve : MI := (yX7_serve, cX7_serve, 4, none)
abbrev mX8_about : MI := (yX8_about, cX8_about, 2, (some .int))
abbrev mX8_again : MI := (yX8_again, cX8_again, 2, (some .int))
abbrev mX8_aired : MI := (yX8_aired, cX8_aired, 2, (some .int))
abbrev mX8_caught : MI := (yX8_caught, cX8_caught, 2, (some .int))
abbrev mX8_chance : MI := (yX8_chance, cX8_chance, 6, (some .int))
abbrev mX8_days : MI := (yX8_days, cX8_days, 6, (some .int))
abbrev mX8_dog : MI := (yX8_dog, cX8_dog, 3, (some .int))
abbrev mX8_fault : MI := (yX8_fault, cX8_fault, 1, (some .int))
abbrev mX8_give : MI := (yX8_give, cX8_give, 4, (some .int))
abbrev mX8_heir : MI := (yX8_heir, cX8_heir, 4, (some .int))
abbrev mX8_hour : MI := (yX8_hour, cX8_hour, 1, (some .int))
abbrev mX8_init : MI := (yX8_init, cX8_init, 1, none)
abbrev mX8_keep : MI := (yX8_keep, cX8_keep, 2, (some .int))
abbrev mX8_lead : MI := (yX8_lead, cX8_lead, 3, (some .int))
abbrev mX8_leash : MI := (yX8_leash, cX8_leash, 2, (some .int))
abbrev mX8_man : MI := (yX8_man, cX8_man, 3, (some .int))
abbrev mX8_ordain : MI := (yX8_ordain, cX8_ordain, 1, (some .int))
abbrev mX8_pays : MI := (yX8_pays, cX8_pays, 3, (some .int))
abbrev mX8_rests : MI := (yX8_rests, cX8_rests, 8, (some .int))
abbrev mX8_routes : MI := (yX8_routes, cX8_routes, 6, (some .int))
abbrev mX8_see : MI := (yX8_see, cX8_see, 4, (some .int))
abbrev mX8_seed : MI := (yX8_seed, cX8_seed, 5, (some .long))
abbrev mX8_spans : MI := (yX8_spans, cX8_spans, 4, (some .int))
abbrev mX8_streetBy : MI := (yX8_streetBy, cX8_streetBy, 2, (some .int))
abbrev mX8_sure : MI := (yX8_sure, cX8_sure, 2, (some .int))
abbrev mX8_tryHours : MI := (yX8_tryHours, cX8_tryHours, 6, (some .int))
abbrev mX8_undo : MI := (yX8_undo, cX8_undo, 1, (some .int))
abbrev mX8_unsee : MI := (yX8_unsee, cX8_unsee, 2, (some .int))
abbrev mX8_walks : MI := (yX8_walks, cX8_walks, 1, (some .int))
abbrev mX8_wipe : MI := (yX8_wipe, cX8_wipe, 2, (some .int))
abbrev mX8_write : MI := (yX8_write, cX8_write, 2, (some .int))
abbrev mX9_about : MI := (yX9_about, cX9_about, 2, (some .int))
abbrev mX9_again : MI := (yX9_again, cX9_again, 3, (some .int))
abbrev mX9_aired : MI := (yX9_aired, cX9_aired, 4, (some .int))
abbrev mX9_begin : MI := (yX9_begin, cX9_begin, 2, none)
abbrev mX9_bonesOf : MI := (yX9_bonesOf, cX9_bonesOf, 3, (some .int))
abbrev mX9_caught : MI := (yX9_caught, cX9_caught, 4, (some .int))
abbrev mX9_chance : MI := (yX9_chance, cX9_chance, 8, (some .int))
abbrev mX9_comes : MI := (yX9_comes, cX9_comes, 4, (some .boolean))
abbrev mX9_days : MI := (yX9_days, cX9_days, 5, (some .int))
abbrev mX9_dog : MI := (yX9_dog, cX9_dog, 3, (some .int))
abbrev mX9_fault : MI := (yX9_fault, cX9_fault, 1, (some .int))
abbrev mX9_figure : MI := (yX9_figure, cX9_figure, 3, (some .int))
abbrev mX9_findWalks : MI := (yX9_findWalks, cX9_findWalks, 5, none)
abbrev mX9_give : MI := (yX9_give, cX9_give, 4, (some .int))
abbrev mX9_goHour : MI := (yX9_goHour, cX9_goHour, 9, (some .int))
abbrev mX9_goLead : MI := (yX9_goLead, cX9_goLead, 5, none)
abbrev mX9_goes : MI := (yX9_goes, cX9_goes, 8, (some .boolean))
abbrev mX9_has : MI := (yX9_has, cX9_has, 2, (some .boolean))
abbrev mX9_heir : MI := (yX9_heir, cX9_heir, 5, (some .int))
abbrev mX9_hour : MI := (yX9_hour, cX9_hour, 1, (some .int))
abbrev mX9_impounded : MI := (yX9_impounded, cX9_impounded, 3, (some .int))
abbrev mX9_in : MI := (yX9_in, cX9_in, 6, (some .boolean))
abbrev mX9_init : MI := (yX9_init, cX9_init, 1, none)
abbrev mX9_isAlone : MI := (yX9_isAlone, cX9_isAlone, 4, (some .boolean))
abbrev mX9_isWalk : MI := (yX9_isWalk, cX9_isWalk, 6, (some .boolean))
abbrev mX9_keep : MI := (yX9_keep, cX9_keep, 3, (some .int))
abbrev mX9_keeps : MI := (yX9_keeps, cX9_keeps, 5, (some .int))
abbrev mX9_lead : MI := (yX9_lead, cX9_lead, 3, (some .int))
abbrev mX9_leash : MI := (yX9_leash, cX9_leash, 2, (some .int))
abbrev mX9_man : MI := (yX9_man, cX9_man, 3, (some .int))
abbrev mX9_many : MI := (yX9_many, cX9_many, 3, (some .int))
abbrev mX9_noDog : MI := (yX9_noDog, cX9_noDog, 2, (some .boolean))
abbrev mX9_noMan : MI := (yX9_noMan, cX9_noMan, 2, (some .boolean))
abbrev mX9_note : MI := (yX9_note, cX9_note, 2, none)
abbrev mX9_one : MI := (yX9_one, cX9_one, 3, (some .int))
abbrev mX9_ordain : MI := (yX9_ordain, cX9_ordain, 2, (some .int))
abbrev mX9_parents : MI := (yX9_parents, cX9_parents, 3, (some .int))
abbrev mX9_pays : MI := (yX9_pays, cX9_pays, 4, (some .int))
abbrev mX9_power : MI := (yX9_power, cX9_power, 4, (some .int))
abbrev mX9_readDog : MI := (yX9_readDog, cX9_readDog, 5, (some .boolean))
abbrev mX9_readHead : MI := (yX9_readHead, cX9_readHead, 4, (some .boolean))
abbrev mX9_readLaw : MI := (yX9_readLaw, cX9_readLaw, 1, (some .int))
abbrev mX9_readMan : MI := (yX9_readMan, cX9_readMan, 5, (some .boolean))
abbrev mX9_readParent : MI := (yX9_readParent, cX9_readParent, 3, (some .boolean))
abbrev mX9_readPart : MI := (yX9_readPart, cX9_readPart, 2, (some .boolean))
abbrev mX9_rests : MI := (yX9_rests, cX9_rests, 11, (some .int))
abbrev mX9_rooms : MI := (yX9_rooms, cX9_rooms, 5, (some .int))
abbrev mX9_routes : MI := (yX9_routes, cX9_routes, 9, (some .int))
abbrev mX9_see : MI := (yX9_see, cX9_see, 4, (some .int))
abbrev mX9_seed : MI := (yX9_seed, cX9_seed, 5, (some .long))
abbrev mX9_spans : MI := (yX9_spans, cX9_spans, 4, (some .int))
abbrev mX9_streetsOf : MI := (yX9_streetsOf, cX9_streetsOf, 8, (some .int))
abbrev mX9_sure : MI := (yX9_sure, cX9_sure, 2, (some .int))
abbrev mX9_undo : MI := (yX9_undo, cX9_undo, 2, (some .int))
abbrev mX9_unsee : MI := (yX9_unsee, cX9_unsee, 2, (some .int))
abbrev mX9_walks : MI := (yX9_walks, cX9_walks, 1, (some .int))
abbrev mX9_wasAt : MI := (yX9_wasAt, cX9_wasAt, 4, (some .int))
abbrev mX9_wipe : MI := (yX9_wipe, cX9_wipe, 2, (some .int))
abbrev mX9_worthOf : MI := (yX9_worthOf, cX9_worthOf, 2, (some .int))
abbrev mX9_write : MI := (yX9_write, cX9_write, 2, (some .int))
abbrev mX9_young : MI := (yX9_young, cX9_young, 4, (some .int))
theorem fl_X8_9 : FL RX8 9 7 0 2 true := ⟨RX8, TX8, 11, rfl, by decide, rfl, gw_of (List.mem_of_getElem? (i := 270) (by decide +kernel)) rfl, rfl⟩
theorem fl_X8_13 : FL RX8 13 7 1 0 false := ⟨RX8, TX8, 11, rfl, by decide, rfl, gw_of (List.mem_of_getElem? (i := 271) (by decide +kernel)) rfl, rfl⟩
theorem fl_X8_20 : FL RX8 20 7 2 2 true := ⟨RX8, TX8, 11, rfl, by decide, rfl, gw_of (List.mem_of_getElem? (i := 272) (by decide +kernel)) rfl, rfl⟩
theorem fl_X8_27 : FL RX8 27 7 3 2 true := ⟨RX8, TX8, 11, rfl, by decide, rfl, gw_of (List.mem_of_getElem? (i := 273) (by decide +kernel)) rfl, rfl⟩
theorem fl_X8_34 : FL RX8 34 7 4 2 true := ⟨RX8, TX8, 11, rfl, by decide, rfl, gw_of (List.mem_of_getElem? (i := 274) (by decide +kernel)) rfl, rfl⟩
theorem fl_X8_38 : FL RX8 38 7 5 2 true := ⟨RX8, TX8, 11, rfl, by decide, rfl, gw_of (List.mem_of_getElem? (i := 275) (by decide +kernel)) rfl, rfl⟩
theorem fl_X8_44 : FL RX8 44 7 6 2 true := ⟨RX8, TX8, 11, rfl, by decide, rfl, gw_of (List.mem_of_getElem? (i := 276) (by decide +kernel)) rfl, rfl⟩
theorem fl_X8_51 : FL RX8 51 7 7 2 true := ⟨RX8, TX8, 11, rfl, by decide, rfl, gw_of (List.mem_of_getElem? (i := 277) (by decide +kernel)) rfl, rfl⟩
theorem fl_X8_58 : FL RX8 58 7 8 2 true := ⟨RX8, TX8, 11, rfl, by decide, rfl, gw_of (List.mem_of_getElem? (i := 278) (by decide +kernel)) rfl, rfl⟩
theorem fl_X8_65 : FL RX8 65 7 9 2 true := ⟨RX8, TX8, 11, rfl, by decide, rfl, gw_of (List.mem_of_getElem? (i := 279) (by decide +kernel)) rfl, rfl⟩
theorem fl_X8_69 : FL RX8 69 7 10 1 false := ⟨RX8, TX8, 11, rfl, by decide, rfl, gw_of (List.mem_of_getElem? (i := 280) (by decide +kernel)) rfl, rfl⟩
theorem fl_X8_77 : FL RX8 77 3 0 2 true := ⟨RX3, TX3, 5, rfl, by decide, rfl, gw_of (List.mem_of_getElem? (i := 170) (by decide +kernel)) rfl, rfl⟩
theorem fl_X8_82 : FL RX8 82 3 1 2 true := ⟨RX3, TX3, 5, rfl, by decide, rfl, gw_of (List.mem_of_getElem? (i := 172) (by decide +kernel)) rfl, rfl⟩
theorem fl_X8_90 : FL RX8 90 2 0 0 false := ⟨RX2, TX2, 8, rfl, by decide, rfl, gw_of (List.mem_of_getElem? (i := 83) (by decide +kernel)) rfl, rfl⟩
theorem fl_X8_93 : FL RX8 93 2 1 0 false := ⟨RX2, TX2, 8, rfl, by decide, rfl, gw_of (List.mem_of_getElem? (i := 89) (by decide +kernel)) rfl, rfl⟩
theorem fl_X8_96 : FL RX8 96 2 2 0 false := ⟨RX2, TX2, 8, rfl, by decide, rfl, gw_of (List.mem_of_getElem? (i := 92) (by decide +kernel)) rfl, rfl⟩
theorem fl_X8_99 : FL RX8 99 6 0 0 false := ⟨RX7, TX7, 7, rfl, by decide, rfl, gw_of (List.mem_of_getElem? (i := 136) (by decide +kernel)) rfl, rfl⟩
theorem fl_X8_106 : FL RX8 106 6 1 0 false := ⟨RX7, TX7, 7, rfl, by decide, rfl, gw_of (List.mem_of_getElem? (i := 138) (by decide +kernel)) rfl, rfl⟩
theorem fl_X8_116 : FL RX8 116 0 0 0 false := ⟨RX0, TX0, 2, rfl, by decide, rfl, gw_of (List.mem_of_getElem? (i := 201) (by decide +kernel)) rfl, rfl⟩
theorem fl_X8_119 : FL RX8 119 4 0 0 false := ⟨RX5, TX5, 6, rfl, by decide, rfl, gw_of (List.mem_of_getElem? (i := 251) (by decide +kernel)) rfl, rfl⟩
theorem fl_X8_124 : FL RX8 124 6 2 2 true := ⟨RX7, TX7, 7, rfl, by decide, rfl, gw_of (List.mem_of_getElem? (i := 141) (by decide +kernel)) rfl, rfl⟩
theorem fl_X8_127 : FL RX8 127 2 5 2 true := ⟨RX2, TX2, 8, rfl, by decide, rfl, gw_of (List.mem_of_getElem? (i := 101) (by decide +kernel)) rfl, rfl⟩
theorem fl_X8_130 : FL RX8 130 2 6 2 true := ⟨RX2, TX2, 8, rfl, by decide, rfl, gw_of (List.mem_of_getElem? (i := 106) (by decide +kernel)) rfl, rfl⟩
theorem fl_X8_137 : FL RX8 137 6 3 2 true := ⟨RX7, TX7, 7, rfl, by decide, rfl, gw_of (List.mem_of_getElem? (i := 144) (by decide +kernel)) rfl, rfl⟩
theorem fl_X8_140 : FL RX8 140 2 7 2 true := ⟨RX2, TX2, 8, rfl, by decide, rfl, gw_of (List.mem_of_getElem? (i := 109) (by decide +kernel)) rfl, rfl⟩
theorem fl_X8_146 : FL RX8 146 6 4 2 true := ⟨RX7, TX7, 7, rfl, by decide, rfl, gw_of (List.mem_of_getElem? (i := 146) (by decide +kernel)) rfl, rfl⟩
theorem fl_X8_149 : FL RX8 149 6 5 2 true := ⟨RX7, TX7, 7, rfl, by decide, rfl, gw_of (List.mem_of_getElem? (i := 150) (by decide +kernel)) rfl, rfl⟩
theorem fl_X8_158 : FL RX8 158 6 6 2 true := ⟨RX7, TX7, 7, rfl, by decide, rfl, gw_of (List.mem_of_getElem? (i := 153) (by decide +kernel)) rfl, rfl⟩
theorem fl_X0_9 : FL RX0 9 0 0 0 false := ⟨RX0, TX0, 2, rfl, by decide, rfl, gw_of (List.mem_of_getElem? (i := 200) (by decide +kernel)) rfl, rfl⟩
theorem fl_X0_17 : FL RX0 17 0 1 2 true := ⟨RX0, TX0, 2, rfl, by decide, rfl, gw_of (List.mem_of_getElem? (i := 202) (by decide +kernel)) rfl, rfl⟩
theorem fl_X1_9 : FL RX1 9 1 0 2 true := ⟨RX1, TX1, 4, rfl, by decide, rfl, gw_of (List.mem_of_getElem? (i := 231) (by decide +kernel)) rfl, rfl⟩
theorem fl_X1_17 : FL RX1 17 1 1 2 true := ⟨RX1, TX1, 4, rfl, by decide, rfl, gw_of (List.mem_of_getElem? (i := 232) (by decide +kernel)) rfl, rfl⟩
theorem fl_X1_20 : FL RX1 20 1 2 2 false := ⟨RX1, TX1, 4, rfl, by decide, rfl, gw_of (List.mem_of_getElem? (i := 233) (by decide +kernel)) rfl, rfl⟩
theorem fl_X1_23 : FL RX1 23 1 3 2 false := ⟨RX1, TX1, 4, rfl, by decide, rfl, gw_of (List.mem_of_getElem? (i := 234) (by decide +kernel)) rfl, rfl⟩
theorem fl_X2_9 : FL RX2 9 2 0 0 false := ⟨RX2, TX2, 8, rfl, by decide, rfl, gw_of (List.mem_of_getElem? (i := 81) (by decide +kernel)) rfl, rfl⟩
theorem fl_X2_15 : FL RX2 15 2 1 0 false := ⟨RX2, TX2, 8, rfl, by decide, rfl, gw_of (List.mem_of_getElem? (i := 86) (by decide +kernel)) rfl, rfl⟩
theorem fl_X2_18 : FL RX2 18 2 2 0 false := ⟨RX2, TX2, 8, rfl, by decide, rfl, gw_of (List.mem_of_getElem? (i := 91) (by decide +kernel)) rfl, rfl⟩
theorem fl_X2_21 : FL RX2 21 2 3 0 false := ⟨RX2, TX2, 8, rfl, by decide, rfl, gw_of (List.mem_of_getElem? (i := 95) (by decide +kernel)) rfl, rfl⟩
theorem fl_X2_24 : FL RX2 24 2 4 2 true := ⟨RX2, TX2, 8, rfl, by decide, rfl, gw_of (List.mem_of_getElem? (i := 97) (by decide +kernel)) rfl, rfl⟩
theorem fl_X2_28 : FL RX2 28 2 5 2 true := ⟨RX2, TX2, 8, rfl, by decide, rfl, gw_of (List.mem_of_getElem? (i := 99) (by decide +kernel)) rfl, rfl⟩
theorem fl_X2_31 : FL RX2 31 2 6 2 true := ⟨RX2, TX2, 8, rfl, by decide, rfl, gw_of (List.mem_of_getElem? (i := 103) (by decide +kernel)) rfl, rfl⟩
theorem fl_X2_34 : FL RX2 34 2 7 2 true := ⟨RX2, TX2, 8, rfl, by decide, rfl, gw_of (List.mem_of_getElem? (i := 108) (by decide +kernel)) rfl, rfl⟩
theorem fl_X3_12 : FL RX3 12 3 0 2 true := ⟨RX3, TX3, 5, rfl, by decide, rfl, gw_of (List.mem_of_getElem? (i := 169) (by decide +kernel)) rfl, rfl⟩
theorem fl_X3_21 : FL RX3 21 3 1 2 true := ⟨RX3, TX3, 5, rfl, by decide, rfl, gw_of (List.mem_of_getElem? (i := 171) (by decide +kernel)) rfl, rfl⟩
theorem fl_X3_25 : FL RX3 25 3 2 0 false := ⟨RX3, TX3, 5, rfl, by decide, rfl, gw_of (List.mem_of_getElem? (i := 173) (by decide +kernel)) rfl, rfl⟩
theorem fl_X3_29 : FL RX3 29 3 3 0 false := ⟨RX3, TX3, 5, rfl, by decide, rfl, gw_of (List.mem_of_getElem? (i := 174) (by decide +kernel)) rfl, rfl⟩
theorem fl_X3_32 : FL RX3 32 3 4 0 false := ⟨RX3, TX3, 5, rfl, by decide, rfl, gw_of (List.mem_of_getElem? (i := 175) (by decide +kernel)) rfl, rfl⟩
theorem fl_X3_68 : FL RX3 68 2 0 0 false := ⟨RX2, TX2, 8, rfl, by decide, rfl, gw_of (List.mem_of_getElem? (i := 84) (by decide +kernel)) rfl, rfl⟩
theorem fl_X3_71 : FL RX3 71 2 1 0 false := ⟨RX2, TX2, 8, rfl, by decide, rfl, gw_of (List.mem_of_getElem? (i := 90) (by decide +kernel)) rfl, rfl⟩
theorem fl_X3_78 : FL RX3 78 2 2 0 false := ⟨RX2, TX2, 8, rfl, by decide, rfl, gw_of (List.mem_of_getElem? (i := 93) (by decide +kernel)) rfl, rfl⟩
theorem fl_X3_81 : FL RX3 81 2 4 2 true := ⟨RX2, TX2, 8, rfl, by decide, rfl, gw_of (List.mem_of_getElem? (i := 98) (by decide +kernel)) rfl, rfl⟩
theorem fl_X3_94 : FL RX3 94 6 2 2 true := ⟨RX7, TX7, 7, rfl, by decide, rfl, gw_of (List.mem_of_getElem? (i := 142) (by decide +kernel)) rfl, rfl⟩
theorem fl_X3_97 : FL RX3 97 2 5 2 true := ⟨RX2, TX2, 8, rfl, by decide, rfl, gw_of (List.mem_of_getElem? (i := 102) (by decide +kernel)) rfl, rfl⟩
theorem fl_X3_100 : FL RX3 100 2 6 2 true := ⟨RX2, TX2, 8, rfl, by decide, rfl, gw_of (List.mem_of_getElem? (i := 107) (by decide +kernel)) rfl, rfl⟩
theorem fl_X3_103 : FL RX3 103 2 7 2 true := ⟨RX2, TX2, 8, rfl, by decide, rfl, gw_of (List.mem_of_getElem? (i := 110) (by decide +kernel)) rfl, rfl⟩
theorem fl_X3_105 : FL RX3 105 6 4 2 true := ⟨RX7, TX7, 7, rfl, by decide, rfl, gw_of (List.mem_of_getElem? (i := 147) (by decide +kernel)) rfl, rfl⟩
theorem fl_X3_115 : FL RX3 115 6 5 2 true := ⟨RX7, TX7, 7, rfl, by decide, rfl, gw_of (List.mem_of_getElem? (i := 151) (by decide +kernel)) rfl, rfl⟩
theorem fl_X3_118 : FL RX3 118 2 3 0 false := ⟨RX2, TX2, 8, rfl, by decide, rfl, gw_of (List.mem_of_getElem? (i := 96) (by decide +kernel)) rfl, rfl⟩
theorem fl_X5_9 : FL RX5 9 4 0 0 false := ⟨RX5, TX5, 6, rfl, by decide, rfl, gw_of (List.mem_of_getElem? (i := 250) (by decide +kernel)) rfl, rfl⟩
theorem fl_X5_15 : FL RX5 15 4 1 2 true := ⟨RX5, TX5, 6, rfl, by decide, rfl, gw_of (List.mem_of_getElem? (i := 252) (by decide +kernel)) rfl, rfl⟩
theorem fl_X5_19 : FL RX5 19 4 2 2 true := ⟨RX5, TX5, 6, rfl, by decide, rfl, gw_of (List.mem_of_getElem? (i := 253) (by decide +kernel)) rfl, rfl⟩
theorem fl_X5_22 : FL RX5 22 4 3 2 true := ⟨RX5, TX5, 6, rfl, by decide, rfl, gw_of (List.mem_of_getElem? (i := 254) (by decide +kernel)) rfl, rfl⟩
theorem fl_X5_25 : FL RX5 25 4 4 2 true := ⟨RX5, TX5, 6, rfl, by decide, rfl, gw_of (List.mem_of_getElem? (i := 255) (by decide +kernel)) rfl, rfl⟩
theorem fl_X5_28 : FL RX5 28 4 5 2 true := ⟨RX5, TX5, 6, rfl, by decide, rfl, gw_of (List.mem_of_getElem? (i := 256) (by decide +kernel)) rfl, rfl⟩
theorem fl_X5_31 : FL RX5 31 2 6 2 true := ⟨RX2, TX2, 8, rfl, by decide, rfl, gw_of (List.mem_of_getElem? (i := 104) (by decide +kernel)) rfl, rfl⟩
theorem fl_X5_42 : FL RX5 42 2 1 0 false := ⟨RX2, TX2, 8, rfl, by decide, rfl, gw_of (List.mem_of_getElem? (i := 87) (by decide +kernel)) rfl, rfl⟩
theorem fl_X5_49 : FL RX5 49 2 0 0 false := ⟨RX2, TX2, 8, rfl, by decide, rfl, gw_of (List.mem_of_getElem? (i := 82) (by decide +kernel)) rfl, rfl⟩
theorem fl_X5_60 : FL RX5 60 6 5 2 true := ⟨RX7, TX7, 7, rfl, by decide, rfl, gw_of (List.mem_of_getElem? (i := 149) (by decide +kernel)) rfl, rfl⟩
theorem fl_X5_65 : FL RX5 65 2 5 2 true := ⟨RX2, TX2, 8, rfl, by decide, rfl, gw_of (List.mem_of_getElem? (i := 100) (by decide +kernel)) rfl, rfl⟩
theorem fl_X5_68 : FL RX5 68 6 2 2 true := ⟨RX7, TX7, 7, rfl, by decide, rfl, gw_of (List.mem_of_getElem? (i := 140) (by decide +kernel)) rfl, rfl⟩
theorem fl_X6_11 : FL RX6 11 5 0 2 true := ⟨RX6, TX6, 2, rfl, by decide, rfl, gw_of (List.mem_of_getElem? (i := 216) (by decide +kernel)) rfl, rfl⟩
theorem fl_X6_17 : FL RX6 17 5 1 0 false := ⟨RX6, TX6, 2, rfl, by decide, rfl, gw_of (List.mem_of_getElem? (i := 217) (by decide +kernel)) rfl, rfl⟩
theorem fl_X7_9 : FL RX7 9 6 0 0 false := ⟨RX7, TX7, 7, rfl, by decide, rfl, gw_of (List.mem_of_getElem? (i := 135) (by decide +kernel)) rfl, rfl⟩
theorem fl_X7_15 : FL RX7 15 6 1 0 false := ⟨RX7, TX7, 7, rfl, by decide, rfl, gw_of (List.mem_of_getElem? (i := 137) (by decide +kernel)) rfl, rfl⟩
theorem fl_X7_18 : FL RX7 18 6 2 2 true := ⟨RX7, TX7, 7, rfl, by decide, rfl, gw_of (List.mem_of_getElem? (i := 139) (by decide +kernel)) rfl, rfl⟩
theorem fl_X7_22 : FL RX7 22 6 3 2 true := ⟨RX7, TX7, 7, rfl, by decide, rfl, gw_of (List.mem_of_getElem? (i := 143) (by decide +kernel)) rfl, rfl⟩
theorem fl_X7_25 : FL RX7 25 6 4 2 true := ⟨RX7, TX7, 7, rfl, by decide, rfl, gw_of (List.mem_of_getElem? (i := 145) (by decide +kernel)) rfl, rfl⟩
theorem fl_X7_28 : FL RX7 28 6 5 2 true := ⟨RX7, TX7, 7, rfl, by decide, rfl, gw_of (List.mem_of_getElem? (i := 148) (by decide +kernel)) rfl, rfl⟩
theorem fl_X7_31 : FL RX7 31 6 6 2 true := ⟨RX7, TX7, 7, rfl, by decide, rfl, gw_of (List.mem_of_getElem? (i := 152) (by decide +kernel)) rfl, rfl⟩
theorem fl_X7_40 : FL RX7 40 2 1 0 false := ⟨RX2, TX2, 8, rfl, by decide, rfl, gw_of (List.mem_of_getElem? (i := 88) (by decide +kernel)) rfl, rfl⟩
theorem fl_X7_59 : FL RX7 59 2 6 2 true := ⟨RX2, TX2, 8, rfl, by decide, rfl, gw_of (List.mem_of_getElem? (i := 105) (by decide +kernel)) rfl, rfl⟩
theorem fl_X7_62 : FL RX7 62 2 0 0 false := ⟨RX2, TX2, 8, rfl, by decide, rfl, gw_of (List.mem_of_getElem? (i := 85) (by decide +kernel)) rfl, rfl⟩
theorem fl_X7_101 : FL RX7 101 2 2 0 false := ⟨RX2, TX2, 8, rfl, by decide, rfl, gw_of (List.mem_of_getElem? (i := 94) (by decide +kernel)) rfl, rfl⟩
theorem fl_X9_7 : FL RX9 7 8 1 2 true := ⟨RX9, TX9, 31, rfl, by decide, rfl, gw_of (List.mem_of_getElem? (i := 729) (by decide +kernel)) rfl, rfl⟩
theorem fl_X9_13 : FL RX9 13 8 6 0 false := ⟨RX9, TX9, 31, rfl, by decide, rfl, gw_of (List.mem_of_getElem? (i := 734) (by decide +kernel)) rfl, rfl⟩
theorem fl_X9_17 : FL RX9 17 8 7 2 true := ⟨RX9, TX9, 31, rfl, by decide, rfl, gw_of (List.mem_of_getElem? (i := 735) (by decide +kernel)) rfl, rfl⟩
theorem fl_X9_20 : FL RX9 20 8 8 2 true := ⟨RX9, TX9, 31, rfl, by decide, rfl, gw_of (List.mem_of_getElem? (i := 736) (by decide +kernel)) rfl, rfl⟩
theorem fl_X9_23 : FL RX9 23 8 9 2 true := ⟨RX9, TX9, 31, rfl, by decide, rfl, gw_of (List.mem_of_getElem? (i := 737) (by decide +kernel)) rfl, rfl⟩
theorem fl_X9_26 : FL RX9 26 8 13 2 true := ⟨RX9, TX9, 31, rfl, by decide, rfl, gw_of (List.mem_of_getElem? (i := 741) (by decide +kernel)) rfl, rfl⟩
theorem fl_X9_29 : FL RX9 29 8 14 2 true := ⟨RX9, TX9, 31, rfl, by decide, rfl, gw_of (List.mem_of_getElem? (i := 742) (by decide +kernel)) rfl, rfl⟩
theorem fl_X9_32 : FL RX9 32 8 15 2 true := ⟨RX9, TX9, 31, rfl, by decide, rfl, gw_of (List.mem_of_getElem? (i := 743) (by decide +kernel)) rfl, rfl⟩
theorem fl_X9_35 : FL RX9 35 8 16 2 true := ⟨RX9, TX9, 31, rfl, by decide, rfl, gw_of (List.mem_of_getElem? (i := 744) (by decide +kernel)) rfl, rfl⟩
theorem fl_X9_38 : FL RX9 38 8 17 2 true := ⟨RX9, TX9, 31, rfl, by decide, rfl, gw_of (List.mem_of_getElem? (i := 745) (by decide +kernel)) rfl, rfl⟩
theorem fl_X9_41 : FL RX9 41 8 18 2 true := ⟨RX9, TX9, 31, rfl, by decide, rfl, gw_of (List.mem_of_getElem? (i := 746) (by decide +kernel)) rfl, rfl⟩
theorem fl_X9_44 : FL RX9 44 8 20 2 true := ⟨RX9, TX9, 31, rfl, by decide, rfl, gw_of (List.mem_of_getElem? (i := 748) (by decide +kernel)) rfl, rfl⟩
theorem fl_X9_47 : FL RX9 47 8 21 2 true := ⟨RX9, TX9, 31, rfl, by decide, rfl, gw_of (List.mem_of_getElem? (i := 749) (by decide +kernel)) rfl, rfl⟩
theorem fl_X9_51 : FL RX9 51 8 23 2 true := ⟨RX9, TX9, 31, rfl, by decide, rfl, gw_of (List.mem_of_getElem? (i := 751) (by decide +kernel)) rfl, rfl⟩
theorem fl_X9_54 : FL RX9 54 8 24 2 true := ⟨RX9, TX9, 31, rfl, by decide, rfl, gw_of (List.mem_of_getElem? (i := 752) (by decide +kernel)) rfl, rfl⟩
theorem fl_X9_57 : FL RX9 57 8 25 2 true := ⟨RX9, TX9, 31, rfl, by decide, rfl, gw_of (List.mem_of_getElem? (i := 753) (by decide +kernel)) rfl, rfl⟩
theorem fl_X9_60 : FL RX9 60 8 27 2 true := ⟨RX9, TX9, 31, rfl, by decide, rfl, gw_of (List.mem_of_getElem? (i := 755) (by decide +kernel)) rfl, rfl⟩
theorem fl_X9_63 : FL RX9 63 8 28 2 true := ⟨RX9, TX9, 31, rfl, by decide, rfl, gw_of (List.mem_of_getElem? (i := 756) (by decide +kernel)) rfl, rfl⟩
theorem fl_X9_66 : FL RX9 66 8 0 0 false := ⟨RX9, TX9, 31, rfl, by decide, rfl, gw_of (List.mem_of_getElem? (i := 728) (by decide +kernel)) rfl, rfl⟩
theorem fl_X9_69 : FL RX9 69 8 4 0 false := ⟨RX9, TX9, 31, rfl, by decide, rfl, gw_of (List.mem_of_getElem? (i := 732) (by decide +kernel)) rfl, rfl⟩
theorem fl_X9_76 : FL RX9 76 8 5 0 false := ⟨RX9, TX9, 31, rfl, by decide, rfl, gw_of (List.mem_of_getElem? (i := 733) (by decide +kernel)) rfl, rfl⟩
theorem fl_X9_81 : FL RX9 81 8 2 0 false := ⟨RX9, TX9, 31, rfl, by decide, rfl, gw_of (List.mem_of_getElem? (i := 730) (by decide +kernel)) rfl, rfl⟩
theorem fl_X9_84 : FL RX9 84 8 3 0 false := ⟨RX9, TX9, 31, rfl, by decide, rfl, gw_of (List.mem_of_getElem? (i := 731) (by decide +kernel)) rfl, rfl⟩
theorem fl_X9_97 : FL RX9 97 8 12 0 false := ⟨RX9, TX9, 31, rfl, by decide, rfl, gw_of (List.mem_of_getElem? (i := 740) (by decide +kernel)) rfl, rfl⟩
theorem fl_X9_100 : FL RX9 100 8 10 0 false := ⟨RX9, TX9, 31, rfl, by decide, rfl, gw_of (List.mem_of_getElem? (i := 738) (by decide +kernel)) rfl, rfl⟩
theorem fl_X9_103 : FL RX9 103 8 11 0 false := ⟨RX9, TX9, 31, rfl, by decide, rfl, gw_of (List.mem_of_getElem? (i := 739) (by decide +kernel)) rfl, rfl⟩
theorem fl_X9_140 : FL RX9 140 8 19 0 false := ⟨RX9, TX9, 31, rfl, by decide, rfl, gw_of (List.mem_of_getElem? (i := 747) (by decide +kernel)) rfl, rfl⟩
theorem fl_X9_150 : FL RX9 150 8 22 0 false := ⟨RX9, TX9, 31, rfl, by decide, rfl, gw_of (List.mem_of_getElem? (i := 750) (by decide +kernel)) rfl, rfl⟩
theorem fl_X9_195 : FL RX9 195 8 30 0 false := ⟨RX9, TX9, 31, rfl, by decide, rfl, gw_of (List.mem_of_getElem? (i := 758) (by decide +kernel)) rfl, rfl⟩
theorem fl_X9_215 : FL RX9 215 8 29 0 false := ⟨RX9, TX9, 31, rfl, by decide, rfl, gw_of (List.mem_of_getElem? (i := 757) (by decide +kernel)) rfl, rfl⟩
theorem fl_X9_229 : FL RX9 229 8 26 1 false := ⟨RX9, TX9, 31, rfl, by decide, rfl, gw_of (List.mem_of_getElem? (i := 754) (by decide +kernel)) rfl, rfl⟩
theorem oi_X8_1 : Cond.methodLink RX8 1 objectInit ∈ gw := gw_of (List.mem_of_getElem? (i := 66) (by decide +kernel)) rfl
theorem cb_X3_init (own : String) : CLb own mX3_init 0 := ⟨gw_of (List.mem_of_getElem? (i := 73) (by decide +kernel)) rfl, gw_of (List.mem_of_getElem? (i := 49) (by decide +kernel)) rfl, by decide +kernel, by decide⟩
theorem cl_X8_19 : CLiN RX8 19 mX3_init 0 "HoundLicence" := ⟨cb_X3_init _, ex_of (List.mem_of_getElem? (i := 71) (by decide +kernel)) rfl, gw_of (List.mem_of_getElem? (i := 72) (by decide +kernel)) rfl, rfl, rfl⟩
theorem cb_X2_init (own : String) : CLb own mX2_init 0 := ⟨gw_of (List.mem_of_getElem? (i := 79) (by decide +kernel)) rfl, gw_of (List.mem_of_getElem? (i := 50) (by decide +kernel)) rfl, by decide +kernel, by decide⟩
theorem cl_X8_26 : CLiN RX8 26 mX2_init 0 "HoundLicence" := ⟨cb_X2_init _, ex_of (List.mem_of_getElem? (i := 188) (by decide +kernel)) rfl, gw_of (List.mem_of_getElem? (i := 78) (by decide +kernel)) rfl, rfl, rfl⟩
theorem cb_X7_init (own : String) : CLb own mX7_init 0 := ⟨gw_of (List.mem_of_getElem? (i := 133) (by decide +kernel)) rfl, gw_of (List.mem_of_getElem? (i := 51) (by decide +kernel)) rfl, by decide +kernel, by decide⟩
theorem cl_X8_33 : CLiN RX8 33 mX7_init 0 "HoundLicence" := ⟨cb_X7_init _, ex_of (List.mem_of_getElem? (i := 190) (by decide +kernel)) rfl, gw_of (List.mem_of_getElem? (i := 132) (by decide +kernel)) rfl, rfl, rfl⟩
theorem cb_X0_init (own : String) : CLb own mX0_init 0 := ⟨gw_of (List.mem_of_getElem? (i := 195) (by decide +kernel)) rfl, gw_of (List.mem_of_getElem? (i := 52) (by decide +kernel)) rfl, by decide +kernel, by decide⟩
theorem cl_X8_43 : CLi RX8 43 mX0_init 0 := ⟨cb_X0_init _, gw_of (List.mem_of_getElem? (i := 193) (by decide +kernel)) rfl, gw_of (List.mem_of_getElem? (i := 194) (by decide +kernel)) rfl, rfl, rfl⟩
theorem cb_X6_init (own : String) : CLb own mX6_init 0 := ⟨gw_of (List.mem_of_getElem? (i := 212) (by decide +kernel)) rfl, gw_of (List.mem_of_getElem? (i := 53) (by decide +kernel)) rfl, by decide +kernel, by decide⟩
theorem cl_X8_50 : CLi RX8 50 mX6_init 0 := ⟨cb_X6_init _, gw_of (List.mem_of_getElem? (i := 210) (by decide +kernel)) rfl, gw_of (List.mem_of_getElem? (i := 211) (by decide +kernel)) rfl, rfl, rfl⟩
theorem cb_X1_init (own : String) : CLb own mX1_init 0 := ⟨gw_of (List.mem_of_getElem? (i := 227) (by decide +kernel)) rfl, gw_of (List.mem_of_getElem? (i := 54) (by decide +kernel)) rfl, by decide +kernel, by decide⟩
theorem cl_X8_57 : CLiN RX8 57 mX1_init 0 "HoundLicence" := ⟨cb_X1_init _, ex_of (List.mem_of_getElem? (i := 225) (by decide +kernel)) rfl, gw_of (List.mem_of_getElem? (i := 226) (by decide +kernel)) rfl, rfl, rfl⟩
theorem cb_X5_init (own : String) : CLb own mX5_init 0 := ⟨gw_of (List.mem_of_getElem? (i := 248) (by decide +kernel)) rfl, gw_of (List.mem_of_getElem? (i := 55) (by decide +kernel)) rfl, by decide +kernel, by decide⟩
theorem cl_X8_64 : CLiN RX8 64 mX5_init 0 "HoundLicence" := ⟨cb_X5_init _, ex_of (List.mem_of_getElem? (i := 246) (by decide +kernel)) rfl, gw_of (List.mem_of_getElem? (i := 247) (by decide +kernel)) rfl, rfl, rfl⟩
theorem cb_X3_firstFault (own : String) : CLb own mX3_firstFault 2 := ⟨gw_of (List.mem_of_getElem? (i := 319) (by decide +kernel)) rfl, gw_of (List.mem_of_getElem? (i := 49) (by decide +kernel)) rfl, by decide +kernel, by decide⟩
theorem cl_X8_73 : CLv RX8 73 mX3_firstFault 2 := ⟨cb_X3_firstFault _, gw_of (List.mem_of_getElem? (i := 316) (by decide +kernel)) rfl, gw_of (List.mem_of_getElem? (i := 317) (by decide +kernel)) rfl, gw_of (List.mem_of_getElem? (i := 318) (by decide +kernel)) rfl⟩
theorem cb_X2_become (own : String) : CLb own mX2_become 1 := ⟨gw_of (List.mem_of_getElem? (i := 403) (by decide +kernel)) rfl, gw_of (List.mem_of_getElem? (i := 50) (by decide +kernel)) rfl, by decide +kernel, by decide⟩
theorem cl_X8_78 : CLv RX8 78 mX2_become 1 := ⟨cb_X2_become _, gw_of (List.mem_of_getElem? (i := 400) (by decide +kernel)) rfl, gw_of (List.mem_of_getElem? (i := 401) (by decide +kernel)) rfl, gw_of (List.mem_of_getElem? (i := 402) (by decide +kernel)) rfl⟩
theorem cb_X7_become (own : String) : CLb own mX7_become 1 := ⟨gw_of (List.mem_of_getElem? (i := 410) (by decide +kernel)) rfl, gw_of (List.mem_of_getElem? (i := 51) (by decide +kernel)) rfl, by decide +kernel, by decide⟩
theorem cl_X8_83 : CLv RX8 83 mX7_become 1 := ⟨cb_X7_become _, gw_of (List.mem_of_getElem? (i := 407) (by decide +kernel)) rfl, gw_of (List.mem_of_getElem? (i := 408) (by decide +kernel)) rfl, gw_of (List.mem_of_getElem? (i := 409) (by decide +kernel)) rfl⟩
theorem cb_X0_forget (own : String) : CLb own mX0_forget 0 := ⟨gw_of (List.mem_of_getElem? (i := 415) (by decide +kernel)) rfl, gw_of (List.mem_of_getElem? (i := 52) (by decide +kernel)) rfl, by decide +kernel, by decide⟩
theorem cl_X8_86 : CLv RX8 86 mX0_forget 0 := ⟨cb_X0_forget _, gw_of (List.mem_of_getElem? (i := 412) (by decide +kernel)) rfl, gw_of (List.mem_of_getElem? (i := 413) (by decide +kernel)) rfl, gw_of (List.mem_of_getElem? (i := 414) (by decide +kernel)) rfl⟩
theorem cb_X6_forget (own : String) : CLb own mX6_forget 0 := ⟨gw_of (List.mem_of_getElem? (i := 419) (by decide +kernel)) rfl, gw_of (List.mem_of_getElem? (i := 53) (by decide +kernel)) rfl, by decide +kernel, by decide⟩
theorem cl_X8_89 : CLv RX8 89 mX6_forget 0 := ⟨cb_X6_forget _, gw_of (List.mem_of_getElem? (i := 416) (by decide +kernel)) rfl, gw_of (List.mem_of_getElem? (i := 417) (by decide +kernel)) rfl, gw_of (List.mem_of_getElem? (i := 418) (by decide +kernel)) rfl⟩
theorem cb_X2_wardenAt (own : String) : CLb own mX2_wardenAt 1 := ⟨gw_of (List.mem_of_getElem? (i := 427) (by decide +kernel)) rfl, gw_of (List.mem_of_getElem? (i := 50) (by decide +kernel)) rfl, by decide +kernel, by decide⟩
theorem cl_X8_102 : CLv RX8 102 mX2_wardenAt 1 := ⟨cb_X2_wardenAt _, gw_of (List.mem_of_getElem? (i := 424) (by decide +kernel)) rfl, gw_of (List.mem_of_getElem? (i := 425) (by decide +kernel)) rfl, gw_of (List.mem_of_getElem? (i := 426) (by decide +kernel)) rfl⟩
theorem cb_X7_impounded (own : String) : CLb own mX7_impounded 1 := ⟨gw_of (List.mem_of_getElem? (i := 432) (by decide +kernel)) rfl, gw_of (List.mem_of_getElem? (i := 51) (by decide +kernel)) rfl, by decide +kernel, by decide⟩
theorem cl_X8_109 : CLv RX8 109 mX7_impounded 1 := ⟨cb_X7_impounded _, gw_of (List.mem_of_getElem? (i := 429) (by decide +kernel)) rfl, gw_of (List.mem_of_getElem? (i := 430) (by decide +kernel)) rfl, gw_of (List.mem_of_getElem? (i := 431) (by decide +kernel)) rfl⟩
theorem cb_X7_allBones (own : String) : CLb own mX7_allBones 1 := ⟨gw_of (List.mem_of_getElem? (i := 440) (by decide +kernel)) rfl, gw_of (List.mem_of_getElem? (i := 51) (by decide +kernel)) rfl, by decide +kernel, by decide⟩
theorem cl_X8_113 : CLv RX8 113 mX7_allBones 1 := ⟨cb_X7_allBones _, gw_of (List.mem_of_getElem? (i := 437) (by decide +kernel)) rfl, gw_of (List.mem_of_getElem? (i := 438) (by decide +kernel)) rfl, gw_of (List.mem_of_getElem? (i := 439) (by decide +kernel)) rfl⟩
theorem cb_X2_hasDog (own : String) : CLb own mX2_hasDog 1 := ⟨gw_of (List.mem_of_getElem? (i := 368) (by decide +kernel)) rfl, gw_of (List.mem_of_getElem? (i := 50) (by decide +kernel)) rfl, by decide +kernel, by decide⟩
theorem cl_X8_120 : CLv RX8 120 mX2_hasDog 1 := ⟨cb_X2_hasDog _, gw_of (List.mem_of_getElem? (i := 445) (by decide +kernel)) rfl, gw_of (List.mem_of_getElem? (i := 366) (by decide +kernel)) rfl, gw_of (List.mem_of_getElem? (i := 367) (by decide +kernel)) rfl⟩
theorem cb_X7_keptBy (own : String) : CLb own mX7_keptBy 2 := ⟨gw_of (List.mem_of_getElem? (i := 376) (by decide +kernel)) rfl, gw_of (List.mem_of_getElem? (i := 51) (by decide +kernel)) rfl, by decide +kernel, by decide⟩
theorem cl_X8_133 : CLv RX8 133 mX7_keptBy 2 := ⟨cb_X7_keptBy _, gw_of (List.mem_of_getElem? (i := 446) (by decide +kernel)) rfl, gw_of (List.mem_of_getElem? (i := 374) (by decide +kernel)) rfl, gw_of (List.mem_of_getElem? (i := 375) (by decide +kernel)) rfl⟩
theorem cb_X2_hasMan (own : String) : CLb own mX2_hasMan 1 := ⟨gw_of (List.mem_of_getElem? (i := 454) (by decide +kernel)) rfl, gw_of (List.mem_of_getElem? (i := 50) (by decide +kernel)) rfl, by decide +kernel, by decide⟩
theorem cl_X8_143 : CLv RX8 143 mX2_hasMan 1 := ⟨cb_X2_hasMan _, gw_of (List.mem_of_getElem? (i := 451) (by decide +kernel)) rfl, gw_of (List.mem_of_getElem? (i := 452) (by decide +kernel)) rfl, gw_of (List.mem_of_getElem? (i := 453) (by decide +kernel)) rfl⟩
theorem cb_X2_sings (own : String) : CLb own mX2_sings 1 := ⟨gw_of (List.mem_of_getElem? (i := 458) (by decide +kernel)) rfl, gw_of (List.mem_of_getElem? (i := 50) (by decide +kernel)) rfl, by decide +kernel, by decide⟩
theorem cl_X8_152 : CLv RX8 152 mX2_sings 1 := ⟨cb_X2_sings _, gw_of (List.mem_of_getElem? (i := 455) (by decide +kernel)) rfl, gw_of (List.mem_of_getElem? (i := 456) (by decide +kernel)) rfl, gw_of (List.mem_of_getElem? (i := 457) (by decide +kernel)) rfl⟩
theorem cb_X7_isLeashed (own : String) : CLb own mX7_isLeashed 1 := ⟨gw_of (List.mem_of_getElem? (i := 462) (by decide +kernel)) rfl, gw_of (List.mem_of_getElem? (i := 51) (by decide +kernel)) rfl, by decide +kernel, by decide⟩
theorem cl_X8_155 : CLv RX8 155 mX7_isLeashed 1 := ⟨cb_X7_isLeashed _, gw_of (List.mem_of_getElem? (i := 459) (by decide +kernel)) rfl, gw_of (List.mem_of_getElem? (i := 460) (by decide +kernel)) rfl, gw_of (List.mem_of_getElem? (i := 461) (by decide +kernel)) rfl⟩
theorem cb_X0_remember (own : String) : CLb own mX0_remember 1 := ⟨gw_of (List.mem_of_getElem? (i := 470) (by decide +kernel)) rfl, gw_of (List.mem_of_getElem? (i := 52) (by decide +kernel)) rfl, by decide +kernel, by decide⟩
theorem cl_X8_161 : CLv RX8 161 mX0_remember 1 := ⟨cb_X0_remember _, gw_of (List.mem_of_getElem? (i := 467) (by decide +kernel)) rfl, gw_of (List.mem_of_getElem? (i := 468) (by decide +kernel)) rfl, gw_of (List.mem_of_getElem? (i := 469) (by decide +kernel)) rfl⟩
theorem cb_X7_goes (own : String) : CLb own mX7_goes 3 := ⟨gw_of (List.mem_of_getElem? (i := 479) (by decide +kernel)) rfl, gw_of (List.mem_of_getElem? (i := 51) (by decide +kernel)) rfl, by decide +kernel, by decide⟩
theorem cl_X8_164 : CLv RX8 164 mX7_goes 3 := ⟨cb_X7_goes _, gw_of (List.mem_of_getElem? (i := 476) (by decide +kernel)) rfl, gw_of (List.mem_of_getElem? (i := 477) (by decide +kernel)) rfl, gw_of (List.mem_of_getElem? (i := 478) (by decide +kernel)) rfl⟩
theorem cb_X7_isImpounded (own : String) : CLb own mX7_isImpounded 1 := ⟨gw_of (List.mem_of_getElem? (i := 436) (by decide +kernel)) rfl, gw_of (List.mem_of_getElem? (i := 51) (by decide +kernel)) rfl, by decide +kernel, by decide⟩
theorem cl_X8_168 : CLv RX8 168 mX7_isImpounded 1 := ⟨cb_X7_isImpounded _, gw_of (List.mem_of_getElem? (i := 487) (by decide +kernel)) rfl, gw_of (List.mem_of_getElem? (i := 434) (by decide +kernel)) rfl, gw_of (List.mem_of_getElem? (i := 435) (by decide +kernel)) rfl⟩
theorem cb_X7_hasRoom (own : String) : CLb own mX7_hasRoom 2 := ⟨gw_of (List.mem_of_getElem? (i := 372) (by decide +kernel)) rfl, gw_of (List.mem_of_getElem? (i := 51) (by decide +kernel)) rfl, by decide +kernel, by decide⟩
theorem cl_X8_171 : CLv RX8 171 mX7_hasRoom 2 := ⟨cb_X7_hasRoom _, gw_of (List.mem_of_getElem? (i := 492) (by decide +kernel)) rfl, gw_of (List.mem_of_getElem? (i := 370) (by decide +kernel)) rfl, gw_of (List.mem_of_getElem? (i := 371) (by decide +kernel)) rfl⟩
theorem cb_X7_passHour (own : String) : CLb own mX7_passHour 3 := ⟨gw_of (List.mem_of_getElem? (i := 500) (by decide +kernel)) rfl, gw_of (List.mem_of_getElem? (i := 51) (by decide +kernel)) rfl, by decide +kernel, by decide⟩
theorem cl_X8_175 : CLv RX8 175 mX7_passHour 3 := ⟨cb_X7_passHour _, gw_of (List.mem_of_getElem? (i := 497) (by decide +kernel)) rfl, gw_of (List.mem_of_getElem? (i := 498) (by decide +kernel)) rfl, gw_of (List.mem_of_getElem? (i := 499) (by decide +kernel)) rfl⟩
theorem cb_X0_takeBack (own : String) : CLb own mX0_takeBack 1 := ⟨gw_of (List.mem_of_getElem? (i := 528) (by decide +kernel)) rfl, gw_of (List.mem_of_getElem? (i := 52) (by decide +kernel)) rfl, by decide +kernel, by decide⟩
theorem cl_X8_179 : CLv RX8 179 mX0_takeBack 1 := ⟨cb_X0_takeBack _, gw_of (List.mem_of_getElem? (i := 525) (by decide +kernel)) rfl, gw_of (List.mem_of_getElem? (i := 526) (by decide +kernel)) rfl, gw_of (List.mem_of_getElem? (i := 527) (by decide +kernel)) rfl⟩
theorem cb_X8_tryHours (own : String) : CLb own mX8_tryHours 3 := ⟨gw_of (List.mem_of_getElem? (i := 536) (by decide +kernel)) rfl, gw_of (List.mem_of_getElem? (i := 48) (by decide +kernel)) rfl, by decide +kernel, by decide⟩
theorem cl_X8_182 : CLv RX8 182 mX8_tryHours 3 := ⟨cb_X8_tryHours _, gw_of (List.mem_of_getElem? (i := 533) (by decide +kernel)) rfl, gw_of (List.mem_of_getElem? (i := 535) (by decide +kernel)) rfl, gw_of (List.mem_of_getElem? (i := 13) (by decide +kernel)) rfl⟩
theorem cb_X1_look (own : String) : CLb own mX1_look 3 := ⟨gw_of (List.mem_of_getElem? (i := 544) (by decide +kernel)) rfl, gw_of (List.mem_of_getElem? (i := 54) (by decide +kernel)) rfl, by decide +kernel, by decide⟩
theorem cl_X8_186 : CLv RX8 186 mX1_look 3 := ⟨cb_X1_look _, gw_of (List.mem_of_getElem? (i := 541) (by decide +kernel)) rfl, gw_of (List.mem_of_getElem? (i := 542) (by decide +kernel)) rfl, gw_of (List.mem_of_getElem? (i := 543) (by decide +kernel)) rfl⟩
theorem cb_X1_countWays (own : String) : CLb own mX1_countWays 2 := ⟨gw_of (List.mem_of_getElem? (i := 552) (by decide +kernel)) rfl, gw_of (List.mem_of_getElem? (i := 54) (by decide +kernel)) rfl, by decide +kernel, by decide⟩
theorem cl_X8_190 : CLv RX8 190 mX1_countWays 2 := ⟨cb_X1_countWays _, gw_of (List.mem_of_getElem? (i := 549) (by decide +kernel)) rfl, gw_of (List.mem_of_getElem? (i := 550) (by decide +kernel)) rfl, gw_of (List.mem_of_getElem? (i := 551) (by decide +kernel)) rfl⟩
theorem cb_X1_waysFrom (own : String) : CLb own mX1_waysFrom 1 := ⟨gw_of (List.mem_of_getElem? (i := 561) (by decide +kernel)) rfl, gw_of (List.mem_of_getElem? (i := 54) (by decide +kernel)) rfl, by decide +kernel, by decide⟩
theorem cl_X8_194 : CLv RX8 194 mX1_waysFrom 1 := ⟨cb_X1_waysFrom _, gw_of (List.mem_of_getElem? (i := 558) (by decide +kernel)) rfl, gw_of (List.mem_of_getElem? (i := 559) (by decide +kernel)) rfl, gw_of (List.mem_of_getElem? (i := 560) (by decide +kernel)) rfl⟩
theorem cb_X1_firstRow (own : String) : CLb own mX1_firstRow 2 := ⟨gw_of (List.mem_of_getElem? (i := 565) (by decide +kernel)) rfl, gw_of (List.mem_of_getElem? (i := 54) (by decide +kernel)) rfl, by decide +kernel, by decide⟩
theorem cl_X8_197 : CLv RX8 197 mX1_firstRow 2 := ⟨cb_X1_firstRow _, gw_of (List.mem_of_getElem? (i := 562) (by decide +kernel)) rfl, gw_of (List.mem_of_getElem? (i := 563) (by decide +kernel)) rfl, gw_of (List.mem_of_getElem? (i := 564) (by decide +kernel)) rfl⟩
theorem cb_X2_hasRival (own : String) : CLb own mX2_hasRival 1 := ⟨gw_of (List.mem_of_getElem? (i := 577) (by decide +kernel)) rfl, gw_of (List.mem_of_getElem? (i := 50) (by decide +kernel)) rfl, by decide +kernel, by decide⟩
theorem cl_X8_201 : CLv RX8 201 mX2_hasRival 1 := ⟨cb_X2_hasRival _, gw_of (List.mem_of_getElem? (i := 574) (by decide +kernel)) rfl, gw_of (List.mem_of_getElem? (i := 575) (by decide +kernel)) rfl, gw_of (List.mem_of_getElem? (i := 576) (by decide +kernel)) rfl⟩
theorem cb_X1_fewestHours (own : String) : CLb own mX1_fewestHours 1 := ⟨gw_of (List.mem_of_getElem? (i := 581) (by decide +kernel)) rfl, gw_of (List.mem_of_getElem? (i := 54) (by decide +kernel)) rfl, by decide +kernel, by decide⟩
theorem cl_X8_204 : CLv RX8 204 mX1_fewestHours 1 := ⟨cb_X1_fewestHours _, gw_of (List.mem_of_getElem? (i := 578) (by decide +kernel)) rfl, gw_of (List.mem_of_getElem? (i := 579) (by decide +kernel)) rfl, gw_of (List.mem_of_getElem? (i := 580) (by decide +kernel)) rfl⟩
theorem cb_X2_degree (own : String) : CLb own mX2_degree 2 := ⟨gw_of (List.mem_of_getElem? (i := 608) (by decide +kernel)) rfl, gw_of (List.mem_of_getElem? (i := 50) (by decide +kernel)) rfl, by decide +kernel, by decide⟩
theorem cl_X8_207 : CLv RX8 207 mX2_degree 2 := ⟨cb_X2_degree _, gw_of (List.mem_of_getElem? (i := 605) (by decide +kernel)) rfl, gw_of (List.mem_of_getElem? (i := 606) (by decide +kernel)) rfl, gw_of (List.mem_of_getElem? (i := 607) (by decide +kernel)) rfl⟩
theorem cb_X2_inheritsBefore (own : String) : CLb own mX2_inheritsBefore 3 := ⟨gw_of (List.mem_of_getElem? (i := 612) (by decide +kernel)) rfl, gw_of (List.mem_of_getElem? (i := 50) (by decide +kernel)) rfl, by decide +kernel, by decide⟩
theorem cl_X8_210 : CLv RX8 210 mX2_inheritsBefore 3 := ⟨cb_X2_inheritsBefore _, gw_of (List.mem_of_getElem? (i := 609) (by decide +kernel)) rfl, gw_of (List.mem_of_getElem? (i := 610) (by decide +kernel)) rfl, gw_of (List.mem_of_getElem? (i := 611) (by decide +kernel)) rfl⟩
theorem cb_X5_add (own : String) : CLb own mX5_add 3 := ⟨gw_of (List.mem_of_getElem? (i := 629) (by decide +kernel)) rfl, gw_of (List.mem_of_getElem? (i := 55) (by decide +kernel)) rfl, by decide +kernel, by decide⟩
theorem cl_X8_214 : CLv RX8 214 mX5_add 3 := ⟨cb_X5_add _, gw_of (List.mem_of_getElem? (i := 626) (by decide +kernel)) rfl, gw_of (List.mem_of_getElem? (i := 627) (by decide +kernel)) rfl, gw_of (List.mem_of_getElem? (i := 628) (by decide +kernel)) rfl⟩
theorem cb_X5_look (own : String) : CLb own mX5_look 2 := ⟨gw_of (List.mem_of_getElem? (i := 641) (by decide +kernel)) rfl, gw_of (List.mem_of_getElem? (i := 55) (by decide +kernel)) rfl, by decide +kernel, by decide⟩
theorem cl_X8_218 : CLv RX8 218 mX5_look 2 := ⟨cb_X5_look _, gw_of (List.mem_of_getElem? (i := 638) (by decide +kernel)) rfl, gw_of (List.mem_of_getElem? (i := 639) (by decide +kernel)) rfl, gw_of (List.mem_of_getElem? (i := 640) (by decide +kernel)) rfl⟩
theorem cb_X5_ways (own : String) : CLb own mX5_ways 1 := ⟨gw_of (List.mem_of_getElem? (i := 654) (by decide +kernel)) rfl, gw_of (List.mem_of_getElem? (i := 55) (by decide +kernel)) rfl, by decide +kernel, by decide⟩
theorem cl_X8_221 : CLv RX8 221 mX5_ways 1 := ⟨cb_X5_ways _, gw_of (List.mem_of_getElem? (i := 651) (by decide +kernel)) rfl, gw_of (List.mem_of_getElem? (i := 652) (by decide +kernel)) rfl, gw_of (List.mem_of_getElem? (i := 653) (by decide +kernel)) rfl⟩
theorem cb_X5_onlyCompany (own : String) : CLb own mX5_onlyCompany 2 := ⟨gw_of (List.mem_of_getElem? (i := 666) (by decide +kernel)) rfl, gw_of (List.mem_of_getElem? (i := 55) (by decide +kernel)) rfl, by decide +kernel, by decide⟩
theorem cl_X8_224 : CLv RX8 224 mX5_onlyCompany 2 := ⟨cb_X5_onlyCompany _, gw_of (List.mem_of_getElem? (i := 663) (by decide +kernel)) rfl, gw_of (List.mem_of_getElem? (i := 664) (by decide +kernel)) rfl, gw_of (List.mem_of_getElem? (i := 665) (by decide +kernel)) rfl⟩
theorem cb_X4_holds (own : String) : CLb own mX4_holds 3 := ⟨gw_of (List.mem_of_getElem? (i := 675) (by decide +kernel)) rfl, gw_of (List.mem_of_getElem? (i := 60) (by decide +kernel)) rfl, by decide +kernel, by decide⟩
theorem cl_X8_228 : CLs RX8 228 mX4_holds 3 := ⟨cb_X4_holds _, gw_of (List.mem_of_getElem? (i := 673) (by decide +kernel)) rfl, gw_of (List.mem_of_getElem? (i := 674) (by decide +kernel)) rfl⟩
theorem cb_J6_bitCount_0f7a4 (own : String) : CLb own mJ6_bitCount_0f7a4 1 := ⟨gw_of (List.mem_of_getElem? (i := 379) (by decide +kernel)) rfl, gw_of (List.mem_of_getElem? (i := 58) (by decide +kernel)) rfl, by decide +kernel, by decide⟩
theorem cl_X8_239 : CLs RX8 239 mJ6_bitCount_0f7a4 1 := ⟨cb_J6_bitCount_0f7a4 _, gw_of (List.mem_of_getElem? (i := 700) (by decide +kernel)) rfl, gw_of (List.mem_of_getElem? (i := 378) (by decide +kernel)) rfl⟩
theorem cb_X6_put (own : String) : CLb own mX6_put 2 := ⟨gw_of (List.mem_of_getElem? (i := 708) (by decide +kernel)) rfl, gw_of (List.mem_of_getElem? (i := 53) (by decide +kernel)) rfl, by decide +kernel, by decide⟩
theorem cl_X8_244 : CLv RX8 244 mX6_put 2 := ⟨cb_X6_put _, gw_of (List.mem_of_getElem? (i := 705) (by decide +kernel)) rfl, gw_of (List.mem_of_getElem? (i := 706) (by decide +kernel)) rfl, gw_of (List.mem_of_getElem? (i := 707) (by decide +kernel)) rfl⟩
theorem cb_X6_holds (own : String) : CLb own mX6_holds 1 := ⟨gw_of (List.mem_of_getElem? (i := 717) (by decide +kernel)) rfl, gw_of (List.mem_of_getElem? (i := 53) (by decide +kernel)) rfl, by decide +kernel, by decide⟩
theorem cl_X8_248 : CLv RX8 248 mX6_holds 1 := ⟨cb_X6_holds _, gw_of (List.mem_of_getElem? (i := 714) (by decide +kernel)) rfl, gw_of (List.mem_of_getElem? (i := 715) (by decide +kernel)) rfl, gw_of (List.mem_of_getElem? (i := 716) (by decide +kernel)) rfl⟩
theorem cb_X6_restore (own : String) : CLb own mX6_restore 2 := ⟨gw_of (List.mem_of_getElem? (i := 721) (by decide +kernel)) rfl, gw_of (List.mem_of_getElem? (i := 53) (by decide +kernel)) rfl, by decide +kernel, by decide⟩
theorem cl_X8_250 : CLv RX8 250 mX6_restore 2 := ⟨cb_X6_restore _, gw_of (List.mem_of_getElem? (i := 718) (by decide +kernel)) rfl, gw_of (List.mem_of_getElem? (i := 719) (by decide +kernel)) rfl, gw_of (List.mem_of_getElem? (i := 720) (by decide +kernel)) rfl⟩
theorem oi_X0_3 : Cond.methodLink RX0 3 objectInit ∈ gw := gw_of (List.mem_of_getElem? (i := 196) (by decide +kernel)) rfl
theorem cl_X0_21 : CLiN RX0 21 mX7_init 0 "HoundLicence" := ⟨cb_X7_init _, ex_of (List.mem_of_getElem? (i := 199) (by decide +kernel)) rfl, gw_of (List.mem_of_getElem? (i := 132) (by decide +kernel)) rfl, rfl, rfl⟩
theorem cb_X0_forgetFirst (own : String) : CLb own mX0_forgetFirst 0 := ⟨gw_of (List.mem_of_getElem? (i := 474) (by decide +kernel)) rfl, gw_of (List.mem_of_getElem? (i := 52) (by decide +kernel)) rfl, by decide +kernel, by decide⟩
theorem cl_X0_22 : CLv RX0 22 mX0_forgetFirst 0 := ⟨cb_X0_forgetFirst _, gw_of (List.mem_of_getElem? (i := 471) (by decide +kernel)) rfl, gw_of (List.mem_of_getElem? (i := 473) (by decide +kernel)) rfl, gw_of (List.mem_of_getElem? (i := 9) (by decide +kernel)) rfl⟩
theorem cl_X0_25 : CLv RX0 25 mX7_become 1 := ⟨cb_X7_become _, gw_of (List.mem_of_getElem? (i := 475) (by decide +kernel)) rfl, gw_of (List.mem_of_getElem? (i := 408) (by decide +kernel)) rfl, gw_of (List.mem_of_getElem? (i := 409) (by decide +kernel)) rfl⟩
theorem oi_X1_3 : Cond.methodLink RX1 3 objectInit ∈ gw := gw_of (List.mem_of_getElem? (i := 228) (by decide +kernel)) rfl
theorem cb_X7_perilAt (own : String) : CLb own mX7_perilAt 3 := ⟨gw_of (List.mem_of_getElem? (i := 548) (by decide +kernel)) rfl, gw_of (List.mem_of_getElem? (i := 51) (by decide +kernel)) rfl, by decide +kernel, by decide⟩
theorem cl_X1_26 : CLv RX1 26 mX7_perilAt 3 := ⟨cb_X7_perilAt _, gw_of (List.mem_of_getElem? (i := 545) (by decide +kernel)) rfl, gw_of (List.mem_of_getElem? (i := 546) (by decide +kernel)) rfl, gw_of (List.mem_of_getElem? (i := 547) (by decide +kernel)) rfl⟩
theorem cb_X8_streetBy (own : String) : CLb own mX8_streetBy 2 := ⟨gw_of (List.mem_of_getElem? (i := 482) (by decide +kernel)) rfl, gw_of (List.mem_of_getElem? (i := 48) (by decide +kernel)) rfl, by decide +kernel, by decide⟩
theorem cl_X1_32 : CLsN RX1 32 mX8_streetBy 2 "HoundLicence" := ⟨cb_X8_streetBy _, ex_of (List.mem_of_getElem? (i := 553) (by decide +kernel)) rfl, gw_of (List.mem_of_getElem? (i := 481) (by decide +kernel)) rfl⟩
theorem cb_X1_waysBy (own : String) : CLb own mX1_waysBy 2 := ⟨gw_of (List.mem_of_getElem? (i := 557) (by decide +kernel)) rfl, gw_of (List.mem_of_getElem? (i := 54) (by decide +kernel)) rfl, by decide +kernel, by decide⟩
theorem cl_X1_36 : CLv RX1 36 mX1_waysBy 2 := ⟨cb_X1_waysBy _, gw_of (List.mem_of_getElem? (i := 554) (by decide +kernel)) rfl, gw_of (List.mem_of_getElem? (i := 556) (by decide +kernel)) rfl, gw_of (List.mem_of_getElem? (i := 14) (by decide +kernel)) rfl⟩
theorem cb_X1_firstWay (own : String) : CLb own mX1_firstWay 2 := ⟨gw_of (List.mem_of_getElem? (i := 569) (by decide +kernel)) rfl, gw_of (List.mem_of_getElem? (i := 54) (by decide +kernel)) rfl, by decide +kernel, by decide⟩
theorem cl_X1_39 : CLv RX1 39 mX1_firstWay 2 := ⟨cb_X1_firstWay _, gw_of (List.mem_of_getElem? (i := 566) (by decide +kernel)) rfl, gw_of (List.mem_of_getElem? (i := 568) (by decide +kernel)) rfl, gw_of (List.mem_of_getElem? (i := 15) (by decide +kernel)) rfl⟩
theorem cb_X1_clearNext (own : String) : CLb own mX1_clearNext 0 := ⟨gw_of (List.mem_of_getElem? (i := 585) (by decide +kernel)) rfl, gw_of (List.mem_of_getElem? (i := 54) (by decide +kernel)) rfl, by decide +kernel, by decide⟩
theorem cl_X1_42 : CLv RX1 42 mX1_clearNext 0 := ⟨cb_X1_clearNext _, gw_of (List.mem_of_getElem? (i := 582) (by decide +kernel)) rfl, gw_of (List.mem_of_getElem? (i := 584) (by decide +kernel)) rfl, gw_of (List.mem_of_getElem? (i := 16) (by decide +kernel)) rfl⟩
theorem cb_X1_swap (own : String) : CLb own mX1_swap 0 := ⟨gw_of (List.mem_of_getElem? (i := 589) (by decide +kernel)) rfl, gw_of (List.mem_of_getElem? (i := 54) (by decide +kernel)) rfl, by decide +kernel, by decide⟩
theorem cl_X1_45 : CLv RX1 45 mX1_swap 0 := ⟨cb_X1_swap _, gw_of (List.mem_of_getElem? (i := 586) (by decide +kernel)) rfl, gw_of (List.mem_of_getElem? (i := 588) (by decide +kernel)) rfl, gw_of (List.mem_of_getElem? (i := 17) (by decide +kernel)) rfl⟩
theorem cb_X1_spread (own : String) : CLb own mX1_spread 2 := ⟨gw_of (List.mem_of_getElem? (i := 593) (by decide +kernel)) rfl, gw_of (List.mem_of_getElem? (i := 54) (by decide +kernel)) rfl, by decide +kernel, by decide⟩
theorem cl_X1_48 : CLv RX1 48 mX1_spread 2 := ⟨cb_X1_spread _, gw_of (List.mem_of_getElem? (i := 590) (by decide +kernel)) rfl, gw_of (List.mem_of_getElem? (i := 592) (by decide +kernel)) rfl, gw_of (List.mem_of_getElem? (i := 18) (by decide +kernel)) rfl⟩
theorem cb_X1_allReached (own : String) : CLb own mX1_allReached 0 := ⟨gw_of (List.mem_of_getElem? (i := 600) (by decide +kernel)) rfl, gw_of (List.mem_of_getElem? (i := 54) (by decide +kernel)) rfl, by decide +kernel, by decide⟩
theorem cl_X1_52 : CLv RX1 52 mX1_allReached 0 := ⟨cb_X1_allReached _, gw_of (List.mem_of_getElem? (i := 597) (by decide +kernel)) rfl, gw_of (List.mem_of_getElem? (i := 599) (by decide +kernel)) rfl, gw_of (List.mem_of_getElem? (i := 19) (by decide +kernel)) rfl⟩
theorem cb_X1_withStreet (own : String) : CLb own mX1_withStreet 2 := ⟨gw_of (List.mem_of_getElem? (i := 596) (by decide +kernel)) rfl, gw_of (List.mem_of_getElem? (i := 54) (by decide +kernel)) rfl, by decide +kernel, by decide⟩
theorem cl_X1_56 : CLs RX1 56 mX1_withStreet 2 := ⟨cb_X1_withStreet _, gw_of (List.mem_of_getElem? (i := 594) (by decide +kernel)) rfl, gw_of (List.mem_of_getElem? (i := 595) (by decide +kernel)) rfl⟩
theorem oi_X2_3 : Cond.methodLink RX2 3 objectInit ∈ gw := gw_of (List.mem_of_getElem? (i := 80) (by decide +kernel)) rfl
theorem ac_X2_37 : Cond.methodLink RX2 37 arraycopyName ∈ gw := gw_of (List.mem_of_getElem? (i := 404) (by decide +kernel)) rfl
theorem cb_J9_floorMod_7cf53 (own : String) : CLb own mJ9_floorMod_7cf53 2 := ⟨gw_of (List.mem_of_getElem? (i := 349) (by decide +kernel)) rfl, gw_of (List.mem_of_getElem? (i := 57) (by decide +kernel)) rfl, by decide +kernel, by decide⟩
theorem cl_X2_43 : CLs RX2 43 mJ9_floorMod_7cf53 2 := ⟨cb_J9_floorMod_7cf53 _, gw_of (List.mem_of_getElem? (i := 428) (by decide +kernel)) rfl, gw_of (List.mem_of_getElem? (i := 348) (by decide +kernel)) rfl⟩
theorem cb_X2_comesFrom (own : String) : CLb own mX2_comesFrom 2 := ⟨gw_of (List.mem_of_getElem? (i := 394) (by decide +kernel)) rfl, gw_of (List.mem_of_getElem? (i := 50) (by decide +kernel)) rfl, by decide +kernel, by decide⟩
theorem cl_X2_49 : CLv RX2 49 mX2_comesFrom 2 := ⟨cb_X2_comesFrom _, gw_of (List.mem_of_getElem? (i := 391) (by decide +kernel)) rfl, gw_of (List.mem_of_getElem? (i := 393) (by decide +kernel)) rfl, gw_of (List.mem_of_getElem? (i := 8) (by decide +kernel)) rfl⟩
theorem cl_X2_53 : CLv RX2 53 mX2_hasDog 1 := ⟨cb_X2_hasDog _, gw_of (List.mem_of_getElem? (i := 395) (by decide +kernel)) rfl, gw_of (List.mem_of_getElem? (i := 366) (by decide +kernel)) rfl, gw_of (List.mem_of_getElem? (i := 367) (by decide +kernel)) rfl⟩
theorem cl_X2_57 : CLv RX2 57 mX2_degree 2 := ⟨cb_X2_degree _, gw_of (List.mem_of_getElem? (i := 613) (by decide +kernel)) rfl, gw_of (List.mem_of_getElem? (i := 606) (by decide +kernel)) rfl, gw_of (List.mem_of_getElem? (i := 607) (by decide +kernel)) rfl⟩
theorem oi_X3_3 : Cond.methodLink RX3 3 objectInit ∈ gw := gw_of (List.mem_of_getElem? (i := 74) (by decide +kernel)) rfl
theorem cl_X3_11 : CLiN RX3 11 mX2_init 0 "HoundLicence" := ⟨cb_X2_init _, ex_of (List.mem_of_getElem? (i := 77) (by decide +kernel)) rfl, gw_of (List.mem_of_getElem? (i := 78) (by decide +kernel)) rfl, rfl, rfl⟩
theorem cl_X3_20 : CLiN RX3 20 mX7_init 0 "HoundLicence" := ⟨cb_X7_init _, ex_of (List.mem_of_getElem? (i := 131) (by decide +kernel)) rfl, gw_of (List.mem_of_getElem? (i := 132) (by decide +kernel)) rfl, rfl, rfl⟩
theorem cb_X2_clear (own : String) : CLb own mX2_clear 0 := ⟨gw_of (List.mem_of_getElem? (i := 323) (by decide +kernel)) rfl, gw_of (List.mem_of_getElem? (i := 50) (by decide +kernel)) rfl, by decide +kernel, by decide⟩
theorem cl_X3_35 : CLv RX3 35 mX2_clear 0 := ⟨cb_X2_clear _, gw_of (List.mem_of_getElem? (i := 320) (by decide +kernel)) rfl, gw_of (List.mem_of_getElem? (i := 321) (by decide +kernel)) rfl, gw_of (List.mem_of_getElem? (i := 322) (by decide +kernel)) rfl⟩
theorem cb_X3_takes (own : String) : CLb own mX3_takes 1 := ⟨gw_of (List.mem_of_getElem? (i := 327) (by decide +kernel)) rfl, gw_of (List.mem_of_getElem? (i := 49) (by decide +kernel)) rfl, by decide +kernel, by decide⟩
theorem cl_X3_38 : CLv RX3 38 mX3_takes 1 := ⟨cb_X3_takes _, gw_of (List.mem_of_getElem? (i := 324) (by decide +kernel)) rfl, gw_of (List.mem_of_getElem? (i := 326) (by decide +kernel)) rfl, gw_of (List.mem_of_getElem? (i := 0) (by decide +kernel)) rfl⟩
theorem cb_X3_opens (own : String) : CLb own mX3_opens 1 := ⟨gw_of (List.mem_of_getElem? (i := 331) (by decide +kernel)) rfl, gw_of (List.mem_of_getElem? (i := 49) (by decide +kernel)) rfl, by decide +kernel, by decide⟩
theorem cl_X3_42 : CLv RX3 42 mX3_opens 1 := ⟨cb_X3_opens _, gw_of (List.mem_of_getElem? (i := 328) (by decide +kernel)) rfl, gw_of (List.mem_of_getElem? (i := 330) (by decide +kernel)) rfl, gw_of (List.mem_of_getElem? (i := 1) (by decide +kernel)) rfl⟩
theorem cb_X3_mayOpen (own : String) : CLb own mX3_mayOpen 1 := ⟨gw_of (List.mem_of_getElem? (i := 335) (by decide +kernel)) rfl, gw_of (List.mem_of_getElem? (i := 49) (by decide +kernel)) rfl, by decide +kernel, by decide⟩
theorem cl_X3_45 : CLv RX3 45 mX3_mayOpen 1 := ⟨cb_X3_mayOpen _, gw_of (List.mem_of_getElem? (i := 332) (by decide +kernel)) rfl, gw_of (List.mem_of_getElem? (i := 334) (by decide +kernel)) rfl, gw_of (List.mem_of_getElem? (i := 2) (by decide +kernel)) rfl⟩
theorem cb_X3_figure (own : String) : CLb own mX3_figure 1 := ⟨gw_of (List.mem_of_getElem? (i := 342) (by decide +kernel)) rfl, gw_of (List.mem_of_getElem? (i := 49) (by decide +kernel)) rfl, by decide +kernel, by decide⟩
theorem cl_X3_48 : CLs RX3 48 mX3_figure 1 := ⟨cb_X3_figure _, gw_of (List.mem_of_getElem? (i := 340) (by decide +kernel)) rfl, gw_of (List.mem_of_getElem? (i := 341) (by decide +kernel)) rfl⟩
theorem cb_X3_takesHead (own : String) : CLb own mX3_takesHead 1 := ⟨gw_of (List.mem_of_getElem? (i := 346) (by decide +kernel)) rfl, gw_of (List.mem_of_getElem? (i := 49) (by decide +kernel)) rfl, by decide +kernel, by decide⟩
theorem cl_X3_52 : CLv RX3 52 mX3_takesHead 1 := ⟨cb_X3_takesHead _, gw_of (List.mem_of_getElem? (i := 343) (by decide +kernel)) rfl, gw_of (List.mem_of_getElem? (i := 345) (by decide +kernel)) rfl, gw_of (List.mem_of_getElem? (i := 3) (by decide +kernel)) rfl⟩
theorem cb_X3_goesOn (own : String) : CLb own mX3_goesOn 2 := ⟨gw_of (List.mem_of_getElem? (i := 356) (by decide +kernel)) rfl, gw_of (List.mem_of_getElem? (i := 49) (by decide +kernel)) rfl, by decide +kernel, by decide⟩
theorem cl_X3_55 : CLv RX3 55 mX3_goesOn 2 := ⟨cb_X3_goesOn _, gw_of (List.mem_of_getElem? (i := 353) (by decide +kernel)) rfl, gw_of (List.mem_of_getElem? (i := 355) (by decide +kernel)) rfl, gw_of (List.mem_of_getElem? (i := 4) (by decide +kernel)) rfl⟩
theorem cb_X3_takesDog (own : String) : CLb own mX3_takesDog 1 := ⟨gw_of (List.mem_of_getElem? (i := 360) (by decide +kernel)) rfl, gw_of (List.mem_of_getElem? (i := 49) (by decide +kernel)) rfl, by decide +kernel, by decide⟩
theorem cl_X3_59 : CLv RX3 59 mX3_takesDog 1 := ⟨cb_X3_takesDog _, gw_of (List.mem_of_getElem? (i := 357) (by decide +kernel)) rfl, gw_of (List.mem_of_getElem? (i := 359) (by decide +kernel)) rfl, gw_of (List.mem_of_getElem? (i := 5) (by decide +kernel)) rfl⟩
theorem cb_X3_takesMan (own : String) : CLb own mX3_takesMan 1 := ⟨gw_of (List.mem_of_getElem? (i := 364) (by decide +kernel)) rfl, gw_of (List.mem_of_getElem? (i := 49) (by decide +kernel)) rfl, by decide +kernel, by decide⟩
theorem cl_X3_62 : CLv RX3 62 mX3_takesMan 1 := ⟨cb_X3_takesMan _, gw_of (List.mem_of_getElem? (i := 361) (by decide +kernel)) rfl, gw_of (List.mem_of_getElem? (i := 363) (by decide +kernel)) rfl, gw_of (List.mem_of_getElem? (i := 6) (by decide +kernel)) rfl⟩
theorem cb_X3_takesParent (own : String) : CLb own mX3_takesParent 1 := ⟨gw_of (List.mem_of_getElem? (i := 386) (by decide +kernel)) rfl, gw_of (List.mem_of_getElem? (i := 49) (by decide +kernel)) rfl, by decide +kernel, by decide⟩
theorem cl_X3_65 : CLv RX3 65 mX3_takesParent 1 := ⟨cb_X3_takesParent _, gw_of (List.mem_of_getElem? (i := 383) (by decide +kernel)) rfl, gw_of (List.mem_of_getElem? (i := 385) (by decide +kernel)) rfl, gw_of (List.mem_of_getElem? (i := 7) (by decide +kernel)) rfl⟩
theorem cb_X2_mayParentSome (own : String) : CLb own mX2_mayParentSome 0 := ⟨gw_of (List.mem_of_getElem? (i := 339) (by decide +kernel)) rfl, gw_of (List.mem_of_getElem? (i := 50) (by decide +kernel)) rfl, by decide +kernel, by decide⟩
theorem cl_X3_74 : CLv RX3 74 mX2_mayParentSome 0 := ⟨cb_X2_mayParentSome _, gw_of (List.mem_of_getElem? (i := 336) (by decide +kernel)) rfl, gw_of (List.mem_of_getElem? (i := 337) (by decide +kernel)) rfl, gw_of (List.mem_of_getElem? (i := 338) (by decide +kernel)) rfl⟩
theorem cl_X3_85 : CLs RX3 85 mJ9_floorMod_7cf53 2 := ⟨cb_J9_floorMod_7cf53 _, gw_of (List.mem_of_getElem? (i := 347) (by decide +kernel)) rfl, gw_of (List.mem_of_getElem? (i := 348) (by decide +kernel)) rfl⟩
theorem cb_X3_isStreet (own : String) : CLb own mX3_isStreet 1 := ⟨gw_of (List.mem_of_getElem? (i := 352) (by decide +kernel)) rfl, gw_of (List.mem_of_getElem? (i := 49) (by decide +kernel)) rfl, by decide +kernel, by decide⟩
theorem cl_X3_91 : CLs RX3 91 mX3_isStreet 1 := ⟨cb_X3_isStreet _, gw_of (List.mem_of_getElem? (i := 350) (by decide +kernel)) rfl, gw_of (List.mem_of_getElem? (i := 351) (by decide +kernel)) rfl⟩
theorem cl_X3_108 : CLv RX3 108 mX2_hasDog 1 := ⟨cb_X2_hasDog _, gw_of (List.mem_of_getElem? (i := 365) (by decide +kernel)) rfl, gw_of (List.mem_of_getElem? (i := 366) (by decide +kernel)) rfl, gw_of (List.mem_of_getElem? (i := 367) (by decide +kernel)) rfl⟩
theorem cl_X3_111 : CLv RX3 111 mX7_hasRoom 2 := ⟨cb_X7_hasRoom _, gw_of (List.mem_of_getElem? (i := 369) (by decide +kernel)) rfl, gw_of (List.mem_of_getElem? (i := 370) (by decide +kernel)) rfl, gw_of (List.mem_of_getElem? (i := 371) (by decide +kernel)) rfl⟩
theorem cb_X2_mayParent (own : String) : CLb own mX2_mayParent 2 := ⟨gw_of (List.mem_of_getElem? (i := 390) (by decide +kernel)) rfl, gw_of (List.mem_of_getElem? (i := 50) (by decide +kernel)) rfl, by decide +kernel, by decide⟩
theorem cl_X3_121 : CLv RX3 121 mX2_mayParent 2 := ⟨cb_X2_mayParent _, gw_of (List.mem_of_getElem? (i := 387) (by decide +kernel)) rfl, gw_of (List.mem_of_getElem? (i := 388) (by decide +kernel)) rfl, gw_of (List.mem_of_getElem? (i := 389) (by decide +kernel)) rfl⟩
theorem cb_X4_wardens (own : String) : CLb own mX4_wardens 3 := ⟨gw_of (List.mem_of_getElem? (i := 678) (by decide +kernel)) rfl, gw_of (List.mem_of_getElem? (i := 60) (by decide +kernel)) rfl, by decide +kernel, by decide⟩
theorem cl_X4_9 : CLs RX4 9 mX4_wardens 3 := ⟨cb_X4_wardens _, gw_of (List.mem_of_getElem? (i := 676) (by decide +kernel)) rfl, gw_of (List.mem_of_getElem? (i := 677) (by decide +kernel)) rfl⟩
theorem cb_X4_bachelors (own : String) : CLb own mX4_bachelors 3 := ⟨gw_of (List.mem_of_getElem? (i := 684) (by decide +kernel)) rfl, gw_of (List.mem_of_getElem? (i := 60) (by decide +kernel)) rfl, by decide +kernel, by decide⟩
theorem cl_X4_15 : CLs RX4 15 mX4_bachelors 3 := ⟨cb_X4_bachelors _, gw_of (List.mem_of_getElem? (i := 682) (by decide +kernel)) rfl, gw_of (List.mem_of_getElem? (i := 683) (by decide +kernel)) rfl⟩
theorem cb_X4_worth (own : String) : CLb own mX4_worth 2 := ⟨gw_of (List.mem_of_getElem? (i := 681) (by decide +kernel)) rfl, gw_of (List.mem_of_getElem? (i := 60) (by decide +kernel)) rfl, by decide +kernel, by decide⟩
theorem cl_X4_18 : CLs RX4 18 mX4_worth 2 := ⟨cb_X4_worth _, gw_of (List.mem_of_getElem? (i := 679) (by decide +kernel)) rfl, gw_of (List.mem_of_getElem? (i := 680) (by decide +kernel)) rfl⟩
theorem oi_X5_3 : Cond.methodLink RX5 3 objectInit ∈ gw := gw_of (List.mem_of_getElem? (i := 249) (by decide +kernel)) rfl
theorem ac_X5_36 : Cond.methodLink RX5 36 arraycopyName ∈ gw := gw_of (List.mem_of_getElem? (i := 642) (by decide +kernel)) rfl
theorem cb_X5_fits (own : String) : CLb own mX5_fits 4 := ⟨gw_of (List.mem_of_getElem? (i := 646) (by decide +kernel)) rfl, gw_of (List.mem_of_getElem? (i := 55) (by decide +kernel)) rfl, by decide +kernel, by decide⟩
theorem cl_X5_45 : CLv RX5 45 mX5_fits 4 := ⟨cb_X5_fits _, gw_of (List.mem_of_getElem? (i := 643) (by decide +kernel)) rfl, gw_of (List.mem_of_getElem? (i := 645) (by decide +kernel)) rfl, gw_of (List.mem_of_getElem? (i := 20) (by decide +kernel)) rfl⟩
theorem cb_X5_streetWith (own : String) : CLb own mX5_streetWith 5 := ⟨gw_of (List.mem_of_getElem? (i := 649) (by decide +kernel)) rfl, gw_of (List.mem_of_getElem? (i := 55) (by decide +kernel)) rfl, by decide +kernel, by decide⟩
theorem cl_X5_52 : CLs RX5 52 mX5_streetWith 5 := ⟨cb_X5_streetWith _, gw_of (List.mem_of_getElem? (i := 647) (by decide +kernel)) rfl, gw_of (List.mem_of_getElem? (i := 648) (by decide +kernel)) rfl⟩
theorem cl_X5_56 : CLv RX5 56 mX2_hasDog 1 := ⟨cb_X2_hasDog _, gw_of (List.mem_of_getElem? (i := 650) (by decide +kernel)) rfl, gw_of (List.mem_of_getElem? (i := 366) (by decide +kernel)) rfl, gw_of (List.mem_of_getElem? (i := 367) (by decide +kernel)) rfl⟩
theorem cb_X5_share (own : String) : CLb own mX5_share 4 := ⟨gw_of (List.mem_of_getElem? (i := 657) (by decide +kernel)) rfl, gw_of (List.mem_of_getElem? (i := 55) (by decide +kernel)) rfl, by decide +kernel, by decide⟩
theorem cl_X5_71 : CLs RX5 71 mX5_share 4 := ⟨cb_X5_share _, gw_of (List.mem_of_getElem? (i := 655) (by decide +kernel)) rfl, gw_of (List.mem_of_getElem? (i := 656) (by decide +kernel)) rfl⟩
theorem cl_X5_75 : CLv RX5 75 mX2_hasMan 1 := ⟨cb_X2_hasMan _, gw_of (List.mem_of_getElem? (i := 658) (by decide +kernel)) rfl, gw_of (List.mem_of_getElem? (i := 452) (by decide +kernel)) rfl, gw_of (List.mem_of_getElem? (i := 453) (by decide +kernel)) rfl⟩
theorem cl_X5_78 : CLv RX5 78 mX5_ways 1 := ⟨cb_X5_ways _, gw_of (List.mem_of_getElem? (i := 667) (by decide +kernel)) rfl, gw_of (List.mem_of_getElem? (i := 652) (by decide +kernel)) rfl, gw_of (List.mem_of_getElem? (i := 653) (by decide +kernel)) rfl⟩
theorem oi_X6_3 : Cond.methodLink RX6 3 objectInit ∈ gw := gw_of (List.mem_of_getElem? (i := 213) (by decide +kernel)) rfl
theorem cl_X6_21 : CLiN RX6 21 mX7_init 0 "HoundLicence" := ⟨cb_X7_init _, ex_of (List.mem_of_getElem? (i := 215) (by decide +kernel)) rfl, gw_of (List.mem_of_getElem? (i := 132) (by decide +kernel)) rfl, rfl, rfl⟩
theorem cl_X6_22 : CLv RX6 22 mX7_become 1 := ⟨cb_X7_become _, gw_of (List.mem_of_getElem? (i := 709) (by decide +kernel)) rfl, gw_of (List.mem_of_getElem? (i := 408) (by decide +kernel)) rfl, gw_of (List.mem_of_getElem? (i := 409) (by decide +kernel)) rfl⟩
theorem oi_X7_3 : Cond.methodLink RX7 3 objectInit ∈ gw := gw_of (List.mem_of_getElem? (i := 134) (by decide +kernel)) rfl
theorem ac_X7_34 : Cond.methodLink RX7 34 arraycopyName ∈ gw := gw_of (List.mem_of_getElem? (i := 411) (by decide +kernel)) rfl
theorem cl_X7_45 : CLv RX7 45 mX7_isImpounded 1 := ⟨cb_X7_isImpounded _, gw_of (List.mem_of_getElem? (i := 433) (by decide +kernel)) rfl, gw_of (List.mem_of_getElem? (i := 434) (by decide +kernel)) rfl, gw_of (List.mem_of_getElem? (i := 435) (by decide +kernel)) rfl⟩
theorem cl_X7_49 : CLv RX7 49 mX7_keptBy 2 := ⟨cb_X7_keptBy _, gw_of (List.mem_of_getElem? (i := 373) (by decide +kernel)) rfl, gw_of (List.mem_of_getElem? (i := 374) (by decide +kernel)) rfl, gw_of (List.mem_of_getElem? (i := 375) (by decide +kernel)) rfl⟩
theorem cl_X7_53 : CLs RX7 53 mJ6_bitCount_0f7a4 1 := ⟨cb_J6_bitCount_0f7a4 _, gw_of (List.mem_of_getElem? (i := 377) (by decide +kernel)) rfl, gw_of (List.mem_of_getElem? (i := 378) (by decide +kernel)) rfl⟩
theorem cl_X7_65 : CLsN RX7 65 mX8_streetBy 2 "HoundLicence" := ⟨cb_X8_streetBy _, ex_of (List.mem_of_getElem? (i := 480) (by decide +kernel)) rfl, gw_of (List.mem_of_getElem? (i := 481) (by decide +kernel)) rfl⟩
theorem cl_X7_69 : CLv RX7 69 mX2_wardenAt 1 := ⟨cb_X2_wardenAt _, gw_of (List.mem_of_getElem? (i := 501) (by decide +kernel)) rfl, gw_of (List.mem_of_getElem? (i := 425) (by decide +kernel)) rfl, gw_of (List.mem_of_getElem? (i := 426) (by decide +kernel)) rfl⟩
theorem cb_X7_isLate (own : String) : CLb own mX7_isLate 2 := ⟨gw_of (List.mem_of_getElem? (i := 504) (by decide +kernel)) rfl, gw_of (List.mem_of_getElem? (i := 51) (by decide +kernel)) rfl, by decide +kernel, by decide⟩
theorem cl_X7_72 : CLs RX7 72 mX7_isLate 2 := ⟨cb_X7_isLate _, gw_of (List.mem_of_getElem? (i := 502) (by decide +kernel)) rfl, gw_of (List.mem_of_getElem? (i := 503) (by decide +kernel)) rfl⟩
theorem cb_X7_serve (own : String) : CLb own mX7_serve 2 := ⟨gw_of (List.mem_of_getElem? (i := 509) (by decide +kernel)) rfl, gw_of (List.mem_of_getElem? (i := 51) (by decide +kernel)) rfl, by decide +kernel, by decide⟩
theorem cl_X7_76 : CLv RX7 76 mX7_serve 2 := ⟨cb_X7_serve _, gw_of (List.mem_of_getElem? (i := 506) (by decide +kernel)) rfl, gw_of (List.mem_of_getElem? (i := 508) (by decide +kernel)) rfl, gw_of (List.mem_of_getElem? (i := 10) (by decide +kernel)) rfl⟩
theorem cb_X7_mayBeCaught (own : String) : CLb own mX7_mayBeCaught 3 := ⟨gw_of (List.mem_of_getElem? (i := 514) (by decide +kernel)) rfl, gw_of (List.mem_of_getElem? (i := 51) (by decide +kernel)) rfl, by decide +kernel, by decide⟩
theorem cl_X7_80 : CLv RX7 80 mX7_mayBeCaught 3 := ⟨cb_X7_mayBeCaught _, gw_of (List.mem_of_getElem? (i := 511) (by decide +kernel)) rfl, gw_of (List.mem_of_getElem? (i := 513) (by decide +kernel)) rfl, gw_of (List.mem_of_getElem? (i := 11) (by decide +kernel)) rfl⟩
theorem cb_X7_impound (own : String) : CLb own mX7_impound 2 := ⟨gw_of (List.mem_of_getElem? (i := 520) (by decide +kernel)) rfl, gw_of (List.mem_of_getElem? (i := 51) (by decide +kernel)) rfl, by decide +kernel, by decide⟩
theorem cl_X7_84 : CLv RX7 84 mX7_impound 2 := ⟨cb_X7_impound _, gw_of (List.mem_of_getElem? (i := 517) (by decide +kernel)) rfl, gw_of (List.mem_of_getElem? (i := 519) (by decide +kernel)) rfl, gw_of (List.mem_of_getElem? (i := 12) (by decide +kernel)) rfl⟩
theorem cl_X7_87 : CLs RX7 87 mJ9_floorMod_7cf53 2 := ⟨cb_J9_floorMod_7cf53 _, gw_of (List.mem_of_getElem? (i := 505) (by decide +kernel)) rfl, gw_of (List.mem_of_getElem? (i := 348) (by decide +kernel)) rfl⟩
theorem cl_X7_92 : CLv RX7 92 mX7_isLeashed 1 := ⟨cb_X7_isLeashed _, gw_of (List.mem_of_getElem? (i := 515) (by decide +kernel)) rfl, gw_of (List.mem_of_getElem? (i := 460) (by decide +kernel)) rfl, gw_of (List.mem_of_getElem? (i := 461) (by decide +kernel)) rfl⟩
theorem cl_X7_95 : CLv RX7 95 mX2_sings 1 := ⟨cb_X2_sings _, gw_of (List.mem_of_getElem? (i := 516) (by decide +kernel)) rfl, gw_of (List.mem_of_getElem? (i := 456) (by decide +kernel)) rfl, gw_of (List.mem_of_getElem? (i := 457) (by decide +kernel)) rfl⟩
theorem cl_X7_98 : CLv RX7 98 mX2_hasDog 1 := ⟨cb_X2_hasDog _, gw_of (List.mem_of_getElem? (i := 510) (by decide +kernel)) rfl, gw_of (List.mem_of_getElem? (i := 366) (by decide +kernel)) rfl, gw_of (List.mem_of_getElem? (i := 367) (by decide +kernel)) rfl⟩
theorem cb_X8_init (own : String) : CLb own mX8_init 0 := ⟨gw_of (List.mem_of_getElem? (i := 65) (by decide +kernel)) rfl, gw_of (List.mem_of_getElem? (i := 48) (by decide +kernel)) rfl, by decide +kernel, by decide⟩
theorem cl_L_9 : CLi RL 9 mX8_init 0 := ⟨cb_X8_init _, gw_of (List.mem_of_getElem? (i := 63) (by decide +kernel)) rfl, gw_of (List.mem_of_getElem? (i := 64) (by decide +kernel)) rfl, rfl, rfl⟩
theorem cb_X9_init (own : String) : CLb own mX9_init 0 := ⟨gw_of (List.mem_of_getElem? (i := 726) (by decide +kernel)) rfl, gw_of (List.mem_of_getElem? (i := 56) (by decide +kernel)) rfl, by decide +kernel, by decide⟩
theorem cl_L_12 : CLi RL 12 mX9_init 0 := ⟨cb_X9_init _, gw_of (List.mem_of_getElem? (i := 724) (by decide +kernel)) rfl, gw_of (List.mem_of_getElem? (i := 725) (by decide +kernel)) rfl, rfl, rfl⟩
theorem cb_X8_write (own : String) : CLb own mX8_write 1 := ⟨gw_of (List.mem_of_getElem? (i := 307) (by decide +kernel)) rfl, gw_of (List.mem_of_getElem? (i := 48) (by decide +kernel)) rfl, by decide +kernel, by decide⟩
theorem cl_L_13 : CLv RL 13 mX8_write 1 := ⟨cb_X8_write _, gw_of (List.mem_of_getElem? (i := 304) (by decide +kernel)) rfl, gw_of (List.mem_of_getElem? (i := 305) (by decide +kernel)) rfl, gw_of (List.mem_of_getElem? (i := 306) (by decide +kernel)) rfl⟩
theorem cb_X9_write (own : String) : CLb own mX9_write 1 := ⟨gw_of (List.mem_of_getElem? (i := 826) (by decide +kernel)) rfl, gw_of (List.mem_of_getElem? (i := 56) (by decide +kernel)) rfl, by decide +kernel, by decide⟩
theorem cl_L_17 : CLv RL 17 mX9_write 1 := ⟨cb_X9_write _, gw_of (List.mem_of_getElem? (i := 823) (by decide +kernel)) rfl, gw_of (List.mem_of_getElem? (i := 824) (by decide +kernel)) rfl, gw_of (List.mem_of_getElem? (i := 825) (by decide +kernel)) rfl⟩
theorem cb_X8_wipe (own : String) : CLb own mX8_wipe 0 := ⟨gw_of (List.mem_of_getElem? (i := 311) (by decide +kernel)) rfl, gw_of (List.mem_of_getElem? (i := 48) (by decide +kernel)) rfl, by decide +kernel, by decide⟩
theorem cl_L_18 : CLv RL 18 mX8_wipe 0 := ⟨cb_X8_wipe _, gw_of (List.mem_of_getElem? (i := 308) (by decide +kernel)) rfl, gw_of (List.mem_of_getElem? (i := 309) (by decide +kernel)) rfl, gw_of (List.mem_of_getElem? (i := 310) (by decide +kernel)) rfl⟩
theorem cb_X9_wipe (own : String) : CLb own mX9_wipe 0 := ⟨gw_of (List.mem_of_getElem? (i := 834) (by decide +kernel)) rfl, gw_of (List.mem_of_getElem? (i := 56) (by decide +kernel)) rfl, by decide +kernel, by decide⟩
theorem cl_L_22 : CLv RL 22 mX9_wipe 0 := ⟨cb_X9_wipe _, gw_of (List.mem_of_getElem? (i := 831) (by decide +kernel)) rfl, gw_of (List.mem_of_getElem? (i := 832) (by decide +kernel)) rfl, gw_of (List.mem_of_getElem? (i := 833) (by decide +kernel)) rfl⟩
theorem cb_X8_fault (own : String) : CLb own mX8_fault 0 := ⟨gw_of (List.mem_of_getElem? (i := 315) (by decide +kernel)) rfl, gw_of (List.mem_of_getElem? (i := 48) (by decide +kernel)) rfl, by decide +kernel, by decide⟩
theorem cl_L_23 : CLv RL 23 mX8_fault 0 := ⟨cb_X8_fault _, gw_of (List.mem_of_getElem? (i := 312) (by decide +kernel)) rfl, gw_of (List.mem_of_getElem? (i := 313) (by decide +kernel)) rfl, gw_of (List.mem_of_getElem? (i := 314) (by decide +kernel)) rfl⟩
theorem cb_X9_fault (own : String) : CLb own mX9_fault 0 := ⟨gw_of (List.mem_of_getElem? (i := 838) (by decide +kernel)) rfl, gw_of (List.mem_of_getElem? (i := 56) (by decide +kernel)) rfl, by decide +kernel, by decide⟩
theorem cl_L_26 : CLv RL 26 mX9_fault 0 := ⟨cb_X9_fault _, gw_of (List.mem_of_getElem? (i := 835) (by decide +kernel)) rfl, gw_of (List.mem_of_getElem? (i := 836) (by decide +kernel)) rfl, gw_of (List.mem_of_getElem? (i := 837) (by decide +kernel)) rfl⟩
theorem cb_X8_ordain (own : String) : CLb own mX8_ordain 0 := ⟨gw_of (List.mem_of_getElem? (i := 399) (by decide +kernel)) rfl, gw_of (List.mem_of_getElem? (i := 48) (by decide +kernel)) rfl, by decide +kernel, by decide⟩
theorem cl_L_27 : CLv RL 27 mX8_ordain 0 := ⟨cb_X8_ordain _, gw_of (List.mem_of_getElem? (i := 396) (by decide +kernel)) rfl, gw_of (List.mem_of_getElem? (i := 397) (by decide +kernel)) rfl, gw_of (List.mem_of_getElem? (i := 398) (by decide +kernel)) rfl⟩
theorem cb_X9_ordain (own : String) : CLb own mX9_ordain 0 := ⟨gw_of (List.mem_of_getElem? (i := 894) (by decide +kernel)) rfl, gw_of (List.mem_of_getElem? (i := 56) (by decide +kernel)) rfl, by decide +kernel, by decide⟩
theorem cl_L_30 : CLv RL 30 mX9_ordain 0 := ⟨cb_X9_ordain _, gw_of (List.mem_of_getElem? (i := 891) (by decide +kernel)) rfl, gw_of (List.mem_of_getElem? (i := 892) (by decide +kernel)) rfl, gw_of (List.mem_of_getElem? (i := 893) (by decide +kernel)) rfl⟩
theorem cb_X8_about (own : String) : CLb own mX8_about 1 := ⟨gw_of (List.mem_of_getElem? (i := 423) (by decide +kernel)) rfl, gw_of (List.mem_of_getElem? (i := 48) (by decide +kernel)) rfl, by decide +kernel, by decide⟩
theorem cl_L_31 : CLv RL 31 mX8_about 1 := ⟨cb_X8_about _, gw_of (List.mem_of_getElem? (i := 420) (by decide +kernel)) rfl, gw_of (List.mem_of_getElem? (i := 421) (by decide +kernel)) rfl, gw_of (List.mem_of_getElem? (i := 422) (by decide +kernel)) rfl⟩
theorem cb_X9_about (own : String) : CLb own mX9_about 1 := ⟨gw_of (List.mem_of_getElem? (i := 898) (by decide +kernel)) rfl, gw_of (List.mem_of_getElem? (i := 56) (by decide +kernel)) rfl, by decide +kernel, by decide⟩
theorem cl_L_34 : CLv RL 34 mX9_about 1 := ⟨cb_X9_about _, gw_of (List.mem_of_getElem? (i := 895) (by decide +kernel)) rfl, gw_of (List.mem_of_getElem? (i := 896) (by decide +kernel)) rfl, gw_of (List.mem_of_getElem? (i := 897) (by decide +kernel)) rfl⟩
theorem cb_X8_dog (own : String) : CLb own mX8_dog 2 := ⟨gw_of (List.mem_of_getElem? (i := 444) (by decide +kernel)) rfl, gw_of (List.mem_of_getElem? (i := 48) (by decide +kernel)) rfl, by decide +kernel, by decide⟩
theorem cl_L_35 : CLv RL 35 mX8_dog 2 := ⟨cb_X8_dog _, gw_of (List.mem_of_getElem? (i := 441) (by decide +kernel)) rfl, gw_of (List.mem_of_getElem? (i := 442) (by decide +kernel)) rfl, gw_of (List.mem_of_getElem? (i := 443) (by decide +kernel)) rfl⟩
theorem cb_X9_dog (own : String) : CLb own mX9_dog 2 := ⟨gw_of (List.mem_of_getElem? (i := 909) (by decide +kernel)) rfl, gw_of (List.mem_of_getElem? (i := 56) (by decide +kernel)) rfl, by decide +kernel, by decide⟩
theorem cl_L_39 : CLv RL 39 mX9_dog 2 := ⟨cb_X9_dog _, gw_of (List.mem_of_getElem? (i := 906) (by decide +kernel)) rfl, gw_of (List.mem_of_getElem? (i := 907) (by decide +kernel)) rfl, gw_of (List.mem_of_getElem? (i := 908) (by decide +kernel)) rfl⟩
theorem cb_X8_man (own : String) : CLb own mX8_man 2 := ⟨gw_of (List.mem_of_getElem? (i := 450) (by decide +kernel)) rfl, gw_of (List.mem_of_getElem? (i := 48) (by decide +kernel)) rfl, by decide +kernel, by decide⟩
theorem cl_L_40 : CLv RL 40 mX8_man 2 := ⟨cb_X8_man _, gw_of (List.mem_of_getElem? (i := 447) (by decide +kernel)) rfl, gw_of (List.mem_of_getElem? (i := 448) (by decide +kernel)) rfl, gw_of (List.mem_of_getElem? (i := 449) (by decide +kernel)) rfl⟩
theorem cb_X9_man (own : String) : CLb own mX9_man 2 := ⟨gw_of (List.mem_of_getElem? (i := 921) (by decide +kernel)) rfl, gw_of (List.mem_of_getElem? (i := 56) (by decide +kernel)) rfl, by decide +kernel, by decide⟩
theorem cl_L_43 : CLv RL 43 mX9_man 2 := ⟨cb_X9_man _, gw_of (List.mem_of_getElem? (i := 918) (by decide +kernel)) rfl, gw_of (List.mem_of_getElem? (i := 919) (by decide +kernel)) rfl, gw_of (List.mem_of_getElem? (i := 920) (by decide +kernel)) rfl⟩
theorem cb_X8_lead (own : String) : CLb own mX8_lead 2 := ⟨gw_of (List.mem_of_getElem? (i := 466) (by decide +kernel)) rfl, gw_of (List.mem_of_getElem? (i := 48) (by decide +kernel)) rfl, by decide +kernel, by decide⟩
theorem cl_L_44 : CLv RL 44 mX8_lead 2 := ⟨cb_X8_lead _, gw_of (List.mem_of_getElem? (i := 463) (by decide +kernel)) rfl, gw_of (List.mem_of_getElem? (i := 464) (by decide +kernel)) rfl, gw_of (List.mem_of_getElem? (i := 465) (by decide +kernel)) rfl⟩
theorem cb_X9_lead (own : String) : CLb own mX9_lead 2 := ⟨gw_of (List.mem_of_getElem? (i := 929) (by decide +kernel)) rfl, gw_of (List.mem_of_getElem? (i := 56) (by decide +kernel)) rfl, by decide +kernel, by decide⟩
theorem cl_L_47 : CLv RL 47 mX9_lead 2 := ⟨cb_X9_lead _, gw_of (List.mem_of_getElem? (i := 926) (by decide +kernel)) rfl, gw_of (List.mem_of_getElem? (i := 927) (by decide +kernel)) rfl, gw_of (List.mem_of_getElem? (i := 928) (by decide +kernel)) rfl⟩
theorem cb_X8_leash (own : String) : CLb own mX8_leash 1 := ⟨gw_of (List.mem_of_getElem? (i := 486) (by decide +kernel)) rfl, gw_of (List.mem_of_getElem? (i := 48) (by decide +kernel)) rfl, by decide +kernel, by decide⟩
theorem cl_L_48 : CLv RL 48 mX8_leash 1 := ⟨cb_X8_leash _, gw_of (List.mem_of_getElem? (i := 483) (by decide +kernel)) rfl, gw_of (List.mem_of_getElem? (i := 484) (by decide +kernel)) rfl, gw_of (List.mem_of_getElem? (i := 485) (by decide +kernel)) rfl⟩
theorem cb_X9_leash (own : String) : CLb own mX9_leash 1 := ⟨gw_of (List.mem_of_getElem? (i := 942) (by decide +kernel)) rfl, gw_of (List.mem_of_getElem? (i := 56) (by decide +kernel)) rfl, by decide +kernel, by decide⟩
theorem cl_L_51 : CLv RL 51 mX9_leash 1 := ⟨cb_X9_leash _, gw_of (List.mem_of_getElem? (i := 939) (by decide +kernel)) rfl, gw_of (List.mem_of_getElem? (i := 940) (by decide +kernel)) rfl, gw_of (List.mem_of_getElem? (i := 941) (by decide +kernel)) rfl⟩
theorem cb_X8_give (own : String) : CLb own mX8_give 2 := ⟨gw_of (List.mem_of_getElem? (i := 491) (by decide +kernel)) rfl, gw_of (List.mem_of_getElem? (i := 48) (by decide +kernel)) rfl, by decide +kernel, by decide⟩
theorem cl_L_52 : CLv RL 52 mX8_give 2 := ⟨cb_X8_give _, gw_of (List.mem_of_getElem? (i := 488) (by decide +kernel)) rfl, gw_of (List.mem_of_getElem? (i := 489) (by decide +kernel)) rfl, gw_of (List.mem_of_getElem? (i := 490) (by decide +kernel)) rfl⟩
theorem cb_X9_give (own : String) : CLb own mX9_give 2 := ⟨gw_of (List.mem_of_getElem? (i := 946) (by decide +kernel)) rfl, gw_of (List.mem_of_getElem? (i := 56) (by decide +kernel)) rfl, by decide +kernel, by decide⟩
theorem cl_L_55 : CLv RL 55 mX9_give 2 := ⟨cb_X9_give _, gw_of (List.mem_of_getElem? (i := 943) (by decide +kernel)) rfl, gw_of (List.mem_of_getElem? (i := 944) (by decide +kernel)) rfl, gw_of (List.mem_of_getElem? (i := 945) (by decide +kernel)) rfl⟩
theorem cb_X8_hour (own : String) : CLb own mX8_hour 0 := ⟨gw_of (List.mem_of_getElem? (i := 496) (by decide +kernel)) rfl, gw_of (List.mem_of_getElem? (i := 48) (by decide +kernel)) rfl, by decide +kernel, by decide⟩
theorem cl_L_56 : CLv RL 56 mX8_hour 0 := ⟨cb_X8_hour _, gw_of (List.mem_of_getElem? (i := 493) (by decide +kernel)) rfl, gw_of (List.mem_of_getElem? (i := 494) (by decide +kernel)) rfl, gw_of (List.mem_of_getElem? (i := 495) (by decide +kernel)) rfl⟩
theorem cb_X9_hour (own : String) : CLb own mX9_hour 0 := ⟨gw_of (List.mem_of_getElem? (i := 953) (by decide +kernel)) rfl, gw_of (List.mem_of_getElem? (i := 56) (by decide +kernel)) rfl, by decide +kernel, by decide⟩
theorem cl_L_59 : CLv RL 59 mX9_hour 0 := ⟨cb_X9_hour _, gw_of (List.mem_of_getElem? (i := 950) (by decide +kernel)) rfl, gw_of (List.mem_of_getElem? (i := 951) (by decide +kernel)) rfl, gw_of (List.mem_of_getElem? (i := 952) (by decide +kernel)) rfl⟩
theorem cb_X8_undo (own : String) : CLb own mX8_undo 0 := ⟨gw_of (List.mem_of_getElem? (i := 524) (by decide +kernel)) rfl, gw_of (List.mem_of_getElem? (i := 48) (by decide +kernel)) rfl, by decide +kernel, by decide⟩
theorem cl_L_60 : CLv RL 60 mX8_undo 0 := ⟨cb_X8_undo _, gw_of (List.mem_of_getElem? (i := 521) (by decide +kernel)) rfl, gw_of (List.mem_of_getElem? (i := 522) (by decide +kernel)) rfl, gw_of (List.mem_of_getElem? (i := 523) (by decide +kernel)) rfl⟩
theorem cb_X9_undo (own : String) : CLb own mX9_undo 0 := ⟨gw_of (List.mem_of_getElem? (i := 961) (by decide +kernel)) rfl, gw_of (List.mem_of_getElem? (i := 56) (by decide +kernel)) rfl, by decide +kernel, by decide⟩
theorem cl_L_63 : CLv RL 63 mX9_undo 0 := ⟨cb_X9_undo _, gw_of (List.mem_of_getElem? (i := 958) (by decide +kernel)) rfl, gw_of (List.mem_of_getElem? (i := 959) (by decide +kernel)) rfl, gw_of (List.mem_of_getElem? (i := 960) (by decide +kernel)) rfl⟩
theorem cb_X8_caught (own : String) : CLb own mX8_caught 1 := ⟨gw_of (List.mem_of_getElem? (i := 532) (by decide +kernel)) rfl, gw_of (List.mem_of_getElem? (i := 48) (by decide +kernel)) rfl, by decide +kernel, by decide⟩
theorem cl_L_64 : CLv RL 64 mX8_caught 1 := ⟨cb_X8_caught _, gw_of (List.mem_of_getElem? (i := 529) (by decide +kernel)) rfl, gw_of (List.mem_of_getElem? (i := 530) (by decide +kernel)) rfl, gw_of (List.mem_of_getElem? (i := 531) (by decide +kernel)) rfl⟩
theorem cb_X9_caught (own : String) : CLb own mX9_caught 1 := ⟨gw_of (List.mem_of_getElem? (i := 965) (by decide +kernel)) rfl, gw_of (List.mem_of_getElem? (i := 56) (by decide +kernel)) rfl, by decide +kernel, by decide⟩
theorem cl_L_67 : CLv RL 67 mX9_caught 1 := ⟨cb_X9_caught _, gw_of (List.mem_of_getElem? (i := 962) (by decide +kernel)) rfl, gw_of (List.mem_of_getElem? (i := 963) (by decide +kernel)) rfl, gw_of (List.mem_of_getElem? (i := 964) (by decide +kernel)) rfl⟩
theorem cb_X8_routes (own : String) : CLb own mX8_routes 4 := ⟨gw_of (List.mem_of_getElem? (i := 540) (by decide +kernel)) rfl, gw_of (List.mem_of_getElem? (i := 48) (by decide +kernel)) rfl, by decide +kernel, by decide⟩
theorem cl_L_68 : CLv RL 68 mX8_routes 4 := ⟨cb_X8_routes _, gw_of (List.mem_of_getElem? (i := 537) (by decide +kernel)) rfl, gw_of (List.mem_of_getElem? (i := 538) (by decide +kernel)) rfl, gw_of (List.mem_of_getElem? (i := 539) (by decide +kernel)) rfl⟩
theorem cb_X9_routes (own : String) : CLb own mX9_routes 4 := ⟨gw_of (List.mem_of_getElem? (i := 974) (by decide +kernel)) rfl, gw_of (List.mem_of_getElem? (i := 56) (by decide +kernel)) rfl, by decide +kernel, by decide⟩
theorem cl_L_72 : CLv RL 72 mX9_routes 4 := ⟨cb_X9_routes _, gw_of (List.mem_of_getElem? (i := 971) (by decide +kernel)) rfl, gw_of (List.mem_of_getElem? (i := 972) (by decide +kernel)) rfl, gw_of (List.mem_of_getElem? (i := 973) (by decide +kernel)) rfl⟩
theorem cb_X8_aired (own : String) : CLb own mX8_aired 1 := ⟨gw_of (List.mem_of_getElem? (i := 573) (by decide +kernel)) rfl, gw_of (List.mem_of_getElem? (i := 48) (by decide +kernel)) rfl, by decide +kernel, by decide⟩
theorem cl_L_73 : CLv RL 73 mX8_aired 1 := ⟨cb_X8_aired _, gw_of (List.mem_of_getElem? (i := 570) (by decide +kernel)) rfl, gw_of (List.mem_of_getElem? (i := 571) (by decide +kernel)) rfl, gw_of (List.mem_of_getElem? (i := 572) (by decide +kernel)) rfl⟩
theorem cb_X9_aired (own : String) : CLb own mX9_aired 1 := ⟨gw_of (List.mem_of_getElem? (i := 991) (by decide +kernel)) rfl, gw_of (List.mem_of_getElem? (i := 56) (by decide +kernel)) rfl, by decide +kernel, by decide⟩
theorem cl_L_76 : CLv RL 76 mX9_aired 1 := ⟨cb_X9_aired _, gw_of (List.mem_of_getElem? (i := 988) (by decide +kernel)) rfl, gw_of (List.mem_of_getElem? (i := 989) (by decide +kernel)) rfl, gw_of (List.mem_of_getElem? (i := 990) (by decide +kernel)) rfl⟩
theorem cb_X8_heir (own : String) : CLb own mX8_heir 1 := ⟨gw_of (List.mem_of_getElem? (i := 604) (by decide +kernel)) rfl, gw_of (List.mem_of_getElem? (i := 48) (by decide +kernel)) rfl, by decide +kernel, by decide⟩
theorem cl_L_77 : CLv RL 77 mX8_heir 1 := ⟨cb_X8_heir _, gw_of (List.mem_of_getElem? (i := 601) (by decide +kernel)) rfl, gw_of (List.mem_of_getElem? (i := 602) (by decide +kernel)) rfl, gw_of (List.mem_of_getElem? (i := 603) (by decide +kernel)) rfl⟩
theorem cb_X9_heir (own : String) : CLb own mX9_heir 1 := ⟨gw_of (List.mem_of_getElem? (i := 999) (by decide +kernel)) rfl, gw_of (List.mem_of_getElem? (i := 56) (by decide +kernel)) rfl, by decide +kernel, by decide⟩
theorem cl_L_80 : CLv RL 80 mX9_heir 1 := ⟨cb_X9_heir _, gw_of (List.mem_of_getElem? (i := 996) (by decide +kernel)) rfl, gw_of (List.mem_of_getElem? (i := 997) (by decide +kernel)) rfl, gw_of (List.mem_of_getElem? (i := 998) (by decide +kernel)) rfl⟩
theorem cb_X8_pays (own : String) : CLb own mX8_pays 2 := ⟨gw_of (List.mem_of_getElem? (i := 617) (by decide +kernel)) rfl, gw_of (List.mem_of_getElem? (i := 48) (by decide +kernel)) rfl, by decide +kernel, by decide⟩
theorem cl_L_81 : CLv RL 81 mX8_pays 2 := ⟨cb_X8_pays _, gw_of (List.mem_of_getElem? (i := 614) (by decide +kernel)) rfl, gw_of (List.mem_of_getElem? (i := 615) (by decide +kernel)) rfl, gw_of (List.mem_of_getElem? (i := 616) (by decide +kernel)) rfl⟩
theorem cb_X9_pays (own : String) : CLb own mX9_pays 2 := ⟨gw_of (List.mem_of_getElem? (i := 1003) (by decide +kernel)) rfl, gw_of (List.mem_of_getElem? (i := 56) (by decide +kernel)) rfl, by decide +kernel, by decide⟩
theorem cl_L_84 : CLv RL 84 mX9_pays 2 := ⟨cb_X9_pays _, gw_of (List.mem_of_getElem? (i := 1000) (by decide +kernel)) rfl, gw_of (List.mem_of_getElem? (i := 1001) (by decide +kernel)) rfl, gw_of (List.mem_of_getElem? (i := 1002) (by decide +kernel)) rfl⟩
theorem cb_X8_spans (own : String) : CLb own mX8_spans 3 := ⟨gw_of (List.mem_of_getElem? (i := 621) (by decide +kernel)) rfl, gw_of (List.mem_of_getElem? (i := 48) (by decide +kernel)) rfl, by decide +kernel, by decide⟩
theorem cl_L_85 : CLv RL 85 mX8_spans 3 := ⟨cb_X8_spans _, gw_of (List.mem_of_getElem? (i := 618) (by decide +kernel)) rfl, gw_of (List.mem_of_getElem? (i := 619) (by decide +kernel)) rfl, gw_of (List.mem_of_getElem? (i := 620) (by decide +kernel)) rfl⟩
theorem cb_X9_spans (own : String) : CLb own mX9_spans 3 := ⟨gw_of (List.mem_of_getElem? (i := 1008) (by decide +kernel)) rfl, gw_of (List.mem_of_getElem? (i := 56) (by decide +kernel)) rfl, by decide +kernel, by decide⟩
theorem cl_L_89 : CLv RL 89 mX9_spans 3 := ⟨cb_X9_spans _, gw_of (List.mem_of_getElem? (i := 1005) (by decide +kernel)) rfl, gw_of (List.mem_of_getElem? (i := 1006) (by decide +kernel)) rfl, gw_of (List.mem_of_getElem? (i := 1007) (by decide +kernel)) rfl⟩
theorem cb_X8_see (own : String) : CLb own mX8_see 3 := ⟨gw_of (List.mem_of_getElem? (i := 625) (by decide +kernel)) rfl, gw_of (List.mem_of_getElem? (i := 48) (by decide +kernel)) rfl, by decide +kernel, by decide⟩
theorem cl_L_90 : CLv RL 90 mX8_see 3 := ⟨cb_X8_see _, gw_of (List.mem_of_getElem? (i := 622) (by decide +kernel)) rfl, gw_of (List.mem_of_getElem? (i := 623) (by decide +kernel)) rfl, gw_of (List.mem_of_getElem? (i := 624) (by decide +kernel)) rfl⟩
theorem cb_X9_see (own : String) : CLb own mX9_see 3 := ⟨gw_of (List.mem_of_getElem? (i := 1013) (by decide +kernel)) rfl, gw_of (List.mem_of_getElem? (i := 56) (by decide +kernel)) rfl, by decide +kernel, by decide⟩
theorem cl_L_93 : CLv RL 93 mX9_see 3 := ⟨cb_X9_see _, gw_of (List.mem_of_getElem? (i := 1010) (by decide +kernel)) rfl, gw_of (List.mem_of_getElem? (i := 1011) (by decide +kernel)) rfl, gw_of (List.mem_of_getElem? (i := 1012) (by decide +kernel)) rfl⟩
theorem cb_X8_unsee (own : String) : CLb own mX8_unsee 0 := ⟨gw_of (List.mem_of_getElem? (i := 633) (by decide +kernel)) rfl, gw_of (List.mem_of_getElem? (i := 48) (by decide +kernel)) rfl, by decide +kernel, by decide⟩
theorem cl_L_94 : CLv RL 94 mX8_unsee 0 := ⟨cb_X8_unsee _, gw_of (List.mem_of_getElem? (i := 630) (by decide +kernel)) rfl, gw_of (List.mem_of_getElem? (i := 631) (by decide +kernel)) rfl, gw_of (List.mem_of_getElem? (i := 632) (by decide +kernel)) rfl⟩
theorem cb_X9_unsee (own : String) : CLb own mX9_unsee 0 := ⟨gw_of (List.mem_of_getElem? (i := 1018) (by decide +kernel)) rfl, gw_of (List.mem_of_getElem? (i := 56) (by decide +kernel)) rfl, by decide +kernel, by decide⟩
theorem cl_L_97 : CLv RL 97 mX9_unsee 0 := ⟨cb_X9_unsee _, gw_of (List.mem_of_getElem? (i := 1015) (by decide +kernel)) rfl, gw_of (List.mem_of_getElem? (i := 1016) (by decide +kernel)) rfl, gw_of (List.mem_of_getElem? (i := 1017) (by decide +kernel)) rfl⟩
theorem cb_X8_walks (own : String) : CLb own mX8_walks 0 := ⟨gw_of (List.mem_of_getElem? (i := 637) (by decide +kernel)) rfl, gw_of (List.mem_of_getElem? (i := 48) (by decide +kernel)) rfl, by decide +kernel, by decide⟩
theorem cl_L_98 : CLv RL 98 mX8_walks 0 := ⟨cb_X8_walks _, gw_of (List.mem_of_getElem? (i := 634) (by decide +kernel)) rfl, gw_of (List.mem_of_getElem? (i := 635) (by decide +kernel)) rfl, gw_of (List.mem_of_getElem? (i := 636) (by decide +kernel)) rfl⟩
theorem cb_X9_walks (own : String) : CLb own mX9_walks 0 := ⟨gw_of (List.mem_of_getElem? (i := 1022) (by decide +kernel)) rfl, gw_of (List.mem_of_getElem? (i := 56) (by decide +kernel)) rfl, by decide +kernel, by decide⟩
theorem cl_L_101 : CLv RL 101 mX9_walks 0 := ⟨cb_X9_walks _, gw_of (List.mem_of_getElem? (i := 1019) (by decide +kernel)) rfl, gw_of (List.mem_of_getElem? (i := 1020) (by decide +kernel)) rfl, gw_of (List.mem_of_getElem? (i := 1021) (by decide +kernel)) rfl⟩
theorem cb_X8_sure (own : String) : CLb own mX8_sure 1 := ⟨gw_of (List.mem_of_getElem? (i := 662) (by decide +kernel)) rfl, gw_of (List.mem_of_getElem? (i := 48) (by decide +kernel)) rfl, by decide +kernel, by decide⟩
theorem cl_L_102 : CLv RL 102 mX8_sure 1 := ⟨cb_X8_sure _, gw_of (List.mem_of_getElem? (i := 659) (by decide +kernel)) rfl, gw_of (List.mem_of_getElem? (i := 660) (by decide +kernel)) rfl, gw_of (List.mem_of_getElem? (i := 661) (by decide +kernel)) rfl⟩
theorem cb_X9_sure (own : String) : CLb own mX9_sure 1 := ⟨gw_of (List.mem_of_getElem? (i := 1038) (by decide +kernel)) rfl, gw_of (List.mem_of_getElem? (i := 56) (by decide +kernel)) rfl, by decide +kernel, by decide⟩
theorem cl_L_105 : CLv RL 105 mX9_sure 1 := ⟨cb_X9_sure _, gw_of (List.mem_of_getElem? (i := 1035) (by decide +kernel)) rfl, gw_of (List.mem_of_getElem? (i := 1036) (by decide +kernel)) rfl, gw_of (List.mem_of_getElem? (i := 1037) (by decide +kernel)) rfl⟩
theorem cb_X8_rests (own : String) : CLb own mX8_rests 2 := ⟨gw_of (List.mem_of_getElem? (i := 671) (by decide +kernel)) rfl, gw_of (List.mem_of_getElem? (i := 48) (by decide +kernel)) rfl, by decide +kernel, by decide⟩
theorem cl_L_106 : CLv RL 106 mX8_rests 2 := ⟨cb_X8_rests _, gw_of (List.mem_of_getElem? (i := 668) (by decide +kernel)) rfl, gw_of (List.mem_of_getElem? (i := 669) (by decide +kernel)) rfl, gw_of (List.mem_of_getElem? (i := 670) (by decide +kernel)) rfl⟩
theorem cb_X9_rests (own : String) : CLb own mX9_rests 2 := ⟨gw_of (List.mem_of_getElem? (i := 1042) (by decide +kernel)) rfl, gw_of (List.mem_of_getElem? (i := 56) (by decide +kernel)) rfl, by decide +kernel, by decide⟩
theorem cl_L_109 : CLv RL 109 mX9_rests 2 := ⟨cb_X9_rests _, gw_of (List.mem_of_getElem? (i := 1039) (by decide +kernel)) rfl, gw_of (List.mem_of_getElem? (i := 1040) (by decide +kernel)) rfl, gw_of (List.mem_of_getElem? (i := 1041) (by decide +kernel)) rfl⟩
theorem cb_X8_chance (own : String) : CLb own mX8_chance 3 := ⟨gw_of (List.mem_of_getElem? (i := 688) (by decide +kernel)) rfl, gw_of (List.mem_of_getElem? (i := 48) (by decide +kernel)) rfl, by decide +kernel, by decide⟩
theorem cl_L_110 : CLv RL 110 mX8_chance 3 := ⟨cb_X8_chance _, gw_of (List.mem_of_getElem? (i := 685) (by decide +kernel)) rfl, gw_of (List.mem_of_getElem? (i := 686) (by decide +kernel)) rfl, gw_of (List.mem_of_getElem? (i := 687) (by decide +kernel)) rfl⟩
theorem cb_X9_chance (own : String) : CLb own mX9_chance 3 := ⟨gw_of (List.mem_of_getElem? (i := 1050) (by decide +kernel)) rfl, gw_of (List.mem_of_getElem? (i := 56) (by decide +kernel)) rfl, by decide +kernel, by decide⟩
theorem cl_L_114 : CLv RL 114 mX9_chance 3 := ⟨cb_X9_chance _, gw_of (List.mem_of_getElem? (i := 1047) (by decide +kernel)) rfl, gw_of (List.mem_of_getElem? (i := 1048) (by decide +kernel)) rfl, gw_of (List.mem_of_getElem? (i := 1049) (by decide +kernel)) rfl⟩
theorem cb_X8_seed (own : String) : CLb own mX8_seed 1 := ⟨gw_of (List.mem_of_getElem? (i := 692) (by decide +kernel)) rfl, gw_of (List.mem_of_getElem? (i := 48) (by decide +kernel)) rfl, by decide +kernel, by decide⟩
theorem cl_L_117 : CLv RL 117 mX8_seed 1 := ⟨cb_X8_seed _, gw_of (List.mem_of_getElem? (i := 689) (by decide +kernel)) rfl, gw_of (List.mem_of_getElem? (i := 690) (by decide +kernel)) rfl, gw_of (List.mem_of_getElem? (i := 691) (by decide +kernel)) rfl⟩
theorem cb_X9_seed (own : String) : CLb own mX9_seed 1 := ⟨gw_of (List.mem_of_getElem? (i := 1054) (by decide +kernel)) rfl, gw_of (List.mem_of_getElem? (i := 56) (by decide +kernel)) rfl, by decide +kernel, by decide⟩
theorem cl_L_121 : CLv RL 121 mX9_seed 1 := ⟨cb_X9_seed _, gw_of (List.mem_of_getElem? (i := 1051) (by decide +kernel)) rfl, gw_of (List.mem_of_getElem? (i := 1052) (by decide +kernel)) rfl, gw_of (List.mem_of_getElem? (i := 1053) (by decide +kernel)) rfl⟩
theorem cb_X8_days (own : String) : CLb own mX8_days 1 := ⟨gw_of (List.mem_of_getElem? (i := 696) (by decide +kernel)) rfl, gw_of (List.mem_of_getElem? (i := 48) (by decide +kernel)) rfl, by decide +kernel, by decide⟩
theorem cl_L_122 : CLv RL 122 mX8_days 1 := ⟨cb_X8_days _, gw_of (List.mem_of_getElem? (i := 693) (by decide +kernel)) rfl, gw_of (List.mem_of_getElem? (i := 694) (by decide +kernel)) rfl, gw_of (List.mem_of_getElem? (i := 695) (by decide +kernel)) rfl⟩
theorem cb_X9_days (own : String) : CLb own mX9_days 1 := ⟨gw_of (List.mem_of_getElem? (i := 1058) (by decide +kernel)) rfl, gw_of (List.mem_of_getElem? (i := 56) (by decide +kernel)) rfl, by decide +kernel, by decide⟩
theorem cl_L_125 : CLv RL 125 mX9_days 1 := ⟨cb_X9_days _, gw_of (List.mem_of_getElem? (i := 1055) (by decide +kernel)) rfl, gw_of (List.mem_of_getElem? (i := 1056) (by decide +kernel)) rfl, gw_of (List.mem_of_getElem? (i := 1057) (by decide +kernel)) rfl⟩
theorem cb_X8_keep (own : String) : CLb own mX8_keep 1 := ⟨gw_of (List.mem_of_getElem? (i := 704) (by decide +kernel)) rfl, gw_of (List.mem_of_getElem? (i := 48) (by decide +kernel)) rfl, by decide +kernel, by decide⟩
theorem cl_L_126 : CLv RL 126 mX8_keep 1 := ⟨cb_X8_keep _, gw_of (List.mem_of_getElem? (i := 701) (by decide +kernel)) rfl, gw_of (List.mem_of_getElem? (i := 702) (by decide +kernel)) rfl, gw_of (List.mem_of_getElem? (i := 703) (by decide +kernel)) rfl⟩
theorem cb_X9_keep (own : String) : CLb own mX9_keep 1 := ⟨gw_of (List.mem_of_getElem? (i := 1065) (by decide +kernel)) rfl, gw_of (List.mem_of_getElem? (i := 56) (by decide +kernel)) rfl, by decide +kernel, by decide⟩
theorem cl_L_129 : CLv RL 129 mX9_keep 1 := ⟨cb_X9_keep _, gw_of (List.mem_of_getElem? (i := 1062) (by decide +kernel)) rfl, gw_of (List.mem_of_getElem? (i := 1063) (by decide +kernel)) rfl, gw_of (List.mem_of_getElem? (i := 1064) (by decide +kernel)) rfl⟩
theorem cb_X8_again (own : String) : CLb own mX8_again 1 := ⟨gw_of (List.mem_of_getElem? (i := 713) (by decide +kernel)) rfl, gw_of (List.mem_of_getElem? (i := 48) (by decide +kernel)) rfl, by decide +kernel, by decide⟩
theorem cl_L_130 : CLv RL 130 mX8_again 1 := ⟨cb_X8_again _, gw_of (List.mem_of_getElem? (i := 710) (by decide +kernel)) rfl, gw_of (List.mem_of_getElem? (i := 711) (by decide +kernel)) rfl, gw_of (List.mem_of_getElem? (i := 712) (by decide +kernel)) rfl⟩
theorem cb_X9_again (own : String) : CLb own mX9_again 1 := ⟨gw_of (List.mem_of_getElem? (i := 1069) (by decide +kernel)) rfl, gw_of (List.mem_of_getElem? (i := 56) (by decide +kernel)) rfl, by decide +kernel, by decide⟩
theorem cl_L_133 : CLv RL 133 mX9_again 1 := ⟨cb_X9_again _, gw_of (List.mem_of_getElem? (i := 1066) (by decide +kernel)) rfl, gw_of (List.mem_of_getElem? (i := 1067) (by decide +kernel)) rfl, gw_of (List.mem_of_getElem? (i := 1068) (by decide +kernel)) rfl⟩
theorem oi_X9_1 : Cond.methodLink RX9 1 objectInit ∈ gw := gw_of (List.mem_of_getElem? (i := 727) (by decide +kernel)) rfl
theorem cb_X9_in (own : String) : CLb own mX9_in 3 := ⟨gw_of (List.mem_of_getElem? (i := 830) (by decide +kernel)) rfl, gw_of (List.mem_of_getElem? (i := 56) (by decide +kernel)) rfl, by decide +kernel, by decide⟩
theorem cl_X9_72 : CLs RX9 72 mX9_in 3 := ⟨cb_X9_in _, gw_of (List.mem_of_getElem? (i := 828) (by decide +kernel)) rfl, gw_of (List.mem_of_getElem? (i := 829) (by decide +kernel)) rfl⟩
theorem cb_X9_has (own : String) : CLb own mX9_has 2 := ⟨gw_of (List.mem_of_getElem? (i := 874) (by decide +kernel)) rfl, gw_of (List.mem_of_getElem? (i := 56) (by decide +kernel)) rfl, by decide +kernel, by decide⟩
theorem cl_X9_89 : CLs RX9 89 mX9_has 2 := ⟨cb_X9_has _, gw_of (List.mem_of_getElem? (i := 872) (by decide +kernel)) rfl, gw_of (List.mem_of_getElem? (i := 873) (by decide +kernel)) rfl⟩
theorem cb_X9_figure (own : String) : CLb own mX9_figure 2 := ⟨gw_of (List.mem_of_getElem? (i := 850) (by decide +kernel)) rfl, gw_of (List.mem_of_getElem? (i := 56) (by decide +kernel)) rfl, by decide +kernel, by decide⟩
theorem cl_X9_93 : CLv RX9 93 mX9_figure 2 := ⟨cb_X9_figure _, gw_of (List.mem_of_getElem? (i := 847) (by decide +kernel)) rfl, gw_of (List.mem_of_getElem? (i := 849) (by decide +kernel)) rfl, gw_of (List.mem_of_getElem? (i := 23) (by decide +kernel)) rfl⟩
theorem cb_X9_rooms (own : String) : CLb own mX9_rooms 0 := ⟨gw_of (List.mem_of_getElem? (i := 866) (by decide +kernel)) rfl, gw_of (List.mem_of_getElem? (i := 56) (by decide +kernel)) rfl, by decide +kernel, by decide⟩
theorem cl_X9_106 : CLv RX9 106 mX9_rooms 0 := ⟨cb_X9_rooms _, gw_of (List.mem_of_getElem? (i := 863) (by decide +kernel)) rfl, gw_of (List.mem_of_getElem? (i := 865) (by decide +kernel)) rfl, gw_of (List.mem_of_getElem? (i := 27) (by decide +kernel)) rfl⟩
theorem cb_X9_one (own : String) : CLb own mX9_one 1 := ⟨gw_of (List.mem_of_getElem? (i := 870) (by decide +kernel)) rfl, gw_of (List.mem_of_getElem? (i := 56) (by decide +kernel)) rfl, by decide +kernel, by decide⟩
theorem cl_X9_110 : CLv RX9 110 mX9_one 1 := ⟨cb_X9_one _, gw_of (List.mem_of_getElem? (i := 867) (by decide +kernel)) rfl, gw_of (List.mem_of_getElem? (i := 869) (by decide +kernel)) rfl, gw_of (List.mem_of_getElem? (i := 28) (by decide +kernel)) rfl⟩
theorem cb_X9_comes (own : String) : CLb own mX9_comes 2 := ⟨gw_of (List.mem_of_getElem? (i := 886) (by decide +kernel)) rfl, gw_of (List.mem_of_getElem? (i := 56) (by decide +kernel)) rfl, by decide +kernel, by decide⟩
theorem cl_X9_114 : CLv RX9 114 mX9_comes 2 := ⟨cb_X9_comes _, gw_of (List.mem_of_getElem? (i := 883) (by decide +kernel)) rfl, gw_of (List.mem_of_getElem? (i := 885) (by decide +kernel)) rfl, gw_of (List.mem_of_getElem? (i := 31) (by decide +kernel)) rfl⟩
theorem cb_X9_young (own : String) : CLb own mX9_young 1 := ⟨gw_of (List.mem_of_getElem? (i := 882) (by decide +kernel)) rfl, gw_of (List.mem_of_getElem? (i := 56) (by decide +kernel)) rfl, by decide +kernel, by decide⟩
theorem cl_X9_117 : CLv RX9 117 mX9_young 1 := ⟨cb_X9_young _, gw_of (List.mem_of_getElem? (i := 879) (by decide +kernel)) rfl, gw_of (List.mem_of_getElem? (i := 881) (by decide +kernel)) rfl, gw_of (List.mem_of_getElem? (i := 30) (by decide +kernel)) rfl⟩
theorem cb_X9_parents (own : String) : CLb own mX9_parents 0 := ⟨gw_of (List.mem_of_getElem? (i := 878) (by decide +kernel)) rfl, gw_of (List.mem_of_getElem? (i := 56) (by decide +kernel)) rfl, by decide +kernel, by decide⟩
theorem cl_X9_120 : CLv RX9 120 mX9_parents 0 := ⟨cb_X9_parents _, gw_of (List.mem_of_getElem? (i := 875) (by decide +kernel)) rfl, gw_of (List.mem_of_getElem? (i := 877) (by decide +kernel)) rfl, gw_of (List.mem_of_getElem? (i := 29) (by decide +kernel)) rfl⟩
theorem cb_X9_readDog (own : String) : CLb own mX9_readDog 0 := ⟨gw_of (List.mem_of_getElem? (i := 858) (by decide +kernel)) rfl, gw_of (List.mem_of_getElem? (i := 56) (by decide +kernel)) rfl, by decide +kernel, by decide⟩
theorem cl_X9_123 : CLv RX9 123 mX9_readDog 0 := ⟨cb_X9_readDog _, gw_of (List.mem_of_getElem? (i := 855) (by decide +kernel)) rfl, gw_of (List.mem_of_getElem? (i := 857) (by decide +kernel)) rfl, gw_of (List.mem_of_getElem? (i := 25) (by decide +kernel)) rfl⟩
theorem cb_X9_readMan (own : String) : CLb own mX9_readMan 0 := ⟨gw_of (List.mem_of_getElem? (i := 862) (by decide +kernel)) rfl, gw_of (List.mem_of_getElem? (i := 56) (by decide +kernel)) rfl, by decide +kernel, by decide⟩
theorem cl_X9_126 : CLv RX9 126 mX9_readMan 0 := ⟨cb_X9_readMan _, gw_of (List.mem_of_getElem? (i := 859) (by decide +kernel)) rfl, gw_of (List.mem_of_getElem? (i := 861) (by decide +kernel)) rfl, gw_of (List.mem_of_getElem? (i := 26) (by decide +kernel)) rfl⟩
theorem cb_X9_readParent (own : String) : CLb own mX9_readParent 0 := ⟨gw_of (List.mem_of_getElem? (i := 890) (by decide +kernel)) rfl, gw_of (List.mem_of_getElem? (i := 56) (by decide +kernel)) rfl, by decide +kernel, by decide⟩
theorem cl_X9_128 : CLv RX9 128 mX9_readParent 0 := ⟨cb_X9_readParent _, gw_of (List.mem_of_getElem? (i := 887) (by decide +kernel)) rfl, gw_of (List.mem_of_getElem? (i := 889) (by decide +kernel)) rfl, gw_of (List.mem_of_getElem? (i := 32) (by decide +kernel)) rfl⟩
theorem cb_X9_readHead (own : String) : CLb own mX9_readHead 0 := ⟨gw_of (List.mem_of_getElem? (i := 846) (by decide +kernel)) rfl, gw_of (List.mem_of_getElem? (i := 56) (by decide +kernel)) rfl, by decide +kernel, by decide⟩
theorem cl_X9_131 : CLv RX9 131 mX9_readHead 0 := ⟨cb_X9_readHead _, gw_of (List.mem_of_getElem? (i := 843) (by decide +kernel)) rfl, gw_of (List.mem_of_getElem? (i := 845) (by decide +kernel)) rfl, gw_of (List.mem_of_getElem? (i := 22) (by decide +kernel)) rfl⟩
theorem cb_X9_readPart (own : String) : CLb own mX9_readPart 0 := ⟨gw_of (List.mem_of_getElem? (i := 854) (by decide +kernel)) rfl, gw_of (List.mem_of_getElem? (i := 56) (by decide +kernel)) rfl, by decide +kernel, by decide⟩
theorem cl_X9_134 : CLv RX9 134 mX9_readPart 0 := ⟨cb_X9_readPart _, gw_of (List.mem_of_getElem? (i := 851) (by decide +kernel)) rfl, gw_of (List.mem_of_getElem? (i := 853) (by decide +kernel)) rfl, gw_of (List.mem_of_getElem? (i := 24) (by decide +kernel)) rfl⟩
theorem cb_X9_readLaw (own : String) : CLb own mX9_readLaw 0 := ⟨gw_of (List.mem_of_getElem? (i := 842) (by decide +kernel)) rfl, gw_of (List.mem_of_getElem? (i := 56) (by decide +kernel)) rfl, by decide +kernel, by decide⟩
theorem cl_X9_137 : CLv RX9 137 mX9_readLaw 0 := ⟨cb_X9_readLaw _, gw_of (List.mem_of_getElem? (i := 839) (by decide +kernel)) rfl, gw_of (List.mem_of_getElem? (i := 841) (by decide +kernel)) rfl, gw_of (List.mem_of_getElem? (i := 21) (by decide +kernel)) rfl⟩
theorem cb_X9_impounded (own : String) : CLb own mX9_impounded 0 := ⟨gw_of (List.mem_of_getElem? (i := 902) (by decide +kernel)) rfl, gw_of (List.mem_of_getElem? (i := 56) (by decide +kernel)) rfl, by decide +kernel, by decide⟩
theorem cl_X9_143 : CLv RX9 143 mX9_impounded 0 := ⟨cb_X9_impounded _, gw_of (List.mem_of_getElem? (i := 899) (by decide +kernel)) rfl, gw_of (List.mem_of_getElem? (i := 901) (by decide +kernel)) rfl, gw_of (List.mem_of_getElem? (i := 33) (by decide +kernel)) rfl⟩
theorem cb_X9_bonesOf (own : String) : CLb own mX9_bonesOf 1 := ⟨gw_of (List.mem_of_getElem? (i := 905) (by decide +kernel)) rfl, gw_of (List.mem_of_getElem? (i := 56) (by decide +kernel)) rfl, by decide +kernel, by decide⟩
theorem cl_X9_146 : CLs RX9 146 mX9_bonesOf 1 := ⟨cb_X9_bonesOf _, gw_of (List.mem_of_getElem? (i := 903) (by decide +kernel)) rfl, gw_of (List.mem_of_getElem? (i := 904) (by decide +kernel)) rfl⟩
theorem cb_X9_noDog (own : String) : CLb own mX9_noDog 1 := ⟨gw_of (List.mem_of_getElem? (i := 913) (by decide +kernel)) rfl, gw_of (List.mem_of_getElem? (i := 56) (by decide +kernel)) rfl, by decide +kernel, by decide⟩
theorem cl_X9_153 : CLv RX9 153 mX9_noDog 1 := ⟨cb_X9_noDog _, gw_of (List.mem_of_getElem? (i := 910) (by decide +kernel)) rfl, gw_of (List.mem_of_getElem? (i := 912) (by decide +kernel)) rfl, gw_of (List.mem_of_getElem? (i := 34) (by decide +kernel)) rfl⟩
theorem cb_X9_keeps (own : String) : CLb own mX9_keeps 2 := ⟨gw_of (List.mem_of_getElem? (i := 917) (by decide +kernel)) rfl, gw_of (List.mem_of_getElem? (i := 56) (by decide +kernel)) rfl, by decide +kernel, by decide⟩
theorem cl_X9_157 : CLv RX9 157 mX9_keeps 2 := ⟨cb_X9_keeps _, gw_of (List.mem_of_getElem? (i := 914) (by decide +kernel)) rfl, gw_of (List.mem_of_getElem? (i := 916) (by decide +kernel)) rfl, gw_of (List.mem_of_getElem? (i := 35) (by decide +kernel)) rfl⟩
theorem cb_X9_noMan (own : String) : CLb own mX9_noMan 1 := ⟨gw_of (List.mem_of_getElem? (i := 925) (by decide +kernel)) rfl, gw_of (List.mem_of_getElem? (i := 56) (by decide +kernel)) rfl, by decide +kernel, by decide⟩
theorem cl_X9_161 : CLv RX9 161 mX9_noMan 1 := ⟨cb_X9_noMan _, gw_of (List.mem_of_getElem? (i := 922) (by decide +kernel)) rfl, gw_of (List.mem_of_getElem? (i := 924) (by decide +kernel)) rfl, gw_of (List.mem_of_getElem? (i := 36) (by decide +kernel)) rfl⟩
theorem cb_X9_note (own : String) : CLb own mX9_note 0 := ⟨gw_of (List.mem_of_getElem? (i := 934) (by decide +kernel)) rfl, gw_of (List.mem_of_getElem? (i := 56) (by decide +kernel)) rfl, by decide +kernel, by decide⟩
theorem cl_X9_166 : CLv RX9 166 mX9_note 0 := ⟨cb_X9_note _, gw_of (List.mem_of_getElem? (i := 931) (by decide +kernel)) rfl, gw_of (List.mem_of_getElem? (i := 933) (by decide +kernel)) rfl, gw_of (List.mem_of_getElem? (i := 37) (by decide +kernel)) rfl⟩
theorem cb_X9_goLead (own : String) : CLb own mX9_goLead 3 := ⟨gw_of (List.mem_of_getElem? (i := 938) (by decide +kernel)) rfl, gw_of (List.mem_of_getElem? (i := 56) (by decide +kernel)) rfl, by decide +kernel, by decide⟩
theorem cl_X9_169 : CLv RX9 169 mX9_goLead 3 := ⟨cb_X9_goLead _, gw_of (List.mem_of_getElem? (i := 935) (by decide +kernel)) rfl, gw_of (List.mem_of_getElem? (i := 937) (by decide +kernel)) rfl, gw_of (List.mem_of_getElem? (i := 38) (by decide +kernel)) rfl⟩
theorem cb_X9_many (own : String) : CLb own mX9_many 1 := ⟨gw_of (List.mem_of_getElem? (i := 949) (by decide +kernel)) rfl, gw_of (List.mem_of_getElem? (i := 56) (by decide +kernel)) rfl, by decide +kernel, by decide⟩
theorem cl_X9_173 : CLs RX9 173 mX9_many 1 := ⟨cb_X9_many _, gw_of (List.mem_of_getElem? (i := 947) (by decide +kernel)) rfl, gw_of (List.mem_of_getElem? (i := 948) (by decide +kernel)) rfl⟩
theorem cb_X9_goHour (own : String) : CLb own mX9_goHour 3 := ⟨gw_of (List.mem_of_getElem? (i := 957) (by decide +kernel)) rfl, gw_of (List.mem_of_getElem? (i := 56) (by decide +kernel)) rfl, by decide +kernel, by decide⟩
theorem cl_X9_176 : CLv RX9 176 mX9_goHour 3 := ⟨cb_X9_goHour _, gw_of (List.mem_of_getElem? (i := 954) (by decide +kernel)) rfl, gw_of (List.mem_of_getElem? (i := 956) (by decide +kernel)) rfl, gw_of (List.mem_of_getElem? (i := 39) (by decide +kernel)) rfl⟩
theorem cb_X9_begin (own : String) : CLb own mX9_begin 0 := ⟨gw_of (List.mem_of_getElem? (i := 970) (by decide +kernel)) rfl, gw_of (List.mem_of_getElem? (i := 56) (by decide +kernel)) rfl, by decide +kernel, by decide⟩
theorem cl_X9_182 : CLv RX9 182 mX9_begin 0 := ⟨cb_X9_begin _, gw_of (List.mem_of_getElem? (i := 967) (by decide +kernel)) rfl, gw_of (List.mem_of_getElem? (i := 969) (by decide +kernel)) rfl, gw_of (List.mem_of_getElem? (i := 40) (by decide +kernel)) rfl⟩
theorem cb_X9_isAlone (own : String) : CLb own mX9_isAlone 1 := ⟨gw_of (List.mem_of_getElem? (i := 987) (by decide +kernel)) rfl, gw_of (List.mem_of_getElem? (i := 56) (by decide +kernel)) rfl, by decide +kernel, by decide⟩
theorem cl_X9_185 : CLv RX9 185 mX9_isAlone 1 := ⟨cb_X9_isAlone _, gw_of (List.mem_of_getElem? (i := 984) (by decide +kernel)) rfl, gw_of (List.mem_of_getElem? (i := 986) (by decide +kernel)) rfl, gw_of (List.mem_of_getElem? (i := 42) (by decide +kernel)) rfl⟩
theorem cb_X9_power (own : String) : CLb own mX9_power 2 := ⟨gw_of (List.mem_of_getElem? (i := 979) (by decide +kernel)) rfl, gw_of (List.mem_of_getElem? (i := 56) (by decide +kernel)) rfl, by decide +kernel, by decide⟩
theorem cl_X9_188 : CLs RX9 188 mX9_power 2 := ⟨cb_X9_power _, gw_of (List.mem_of_getElem? (i := 977) (by decide +kernel)) rfl, gw_of (List.mem_of_getElem? (i := 978) (by decide +kernel)) rfl⟩
theorem cb_X9_goes (own : String) : CLb own mX9_goes 4 := ⟨gw_of (List.mem_of_getElem? (i := 983) (by decide +kernel)) rfl, gw_of (List.mem_of_getElem? (i := 56) (by decide +kernel)) rfl, by decide +kernel, by decide⟩
theorem cl_X9_198 : CLv RX9 198 mX9_goes 4 := ⟨cb_X9_goes _, gw_of (List.mem_of_getElem? (i := 980) (by decide +kernel)) rfl, gw_of (List.mem_of_getElem? (i := 982) (by decide +kernel)) rfl, gw_of (List.mem_of_getElem? (i := 41) (by decide +kernel)) rfl⟩
theorem cb_X9_streetsOf (own : String) : CLb own mX9_streetsOf 3 := ⟨gw_of (List.mem_of_getElem? (i := 995) (by decide +kernel)) rfl, gw_of (List.mem_of_getElem? (i := 56) (by decide +kernel)) rfl, by decide +kernel, by decide⟩
theorem cl_X9_202 : CLv RX9 202 mX9_streetsOf 3 := ⟨cb_X9_streetsOf _, gw_of (List.mem_of_getElem? (i := 992) (by decide +kernel)) rfl, gw_of (List.mem_of_getElem? (i := 994) (by decide +kernel)) rfl, gw_of (List.mem_of_getElem? (i := 43) (by decide +kernel)) rfl⟩
theorem cb_X9_wasAt (own : String) : CLb own mX9_wasAt 3 := ⟨gw_of (List.mem_of_getElem? (i := 1034) (by decide +kernel)) rfl, gw_of (List.mem_of_getElem? (i := 56) (by decide +kernel)) rfl, by decide +kernel, by decide⟩
theorem cl_X9_212 : CLv RX9 212 mX9_wasAt 3 := ⟨cb_X9_wasAt _, gw_of (List.mem_of_getElem? (i := 1031) (by decide +kernel)) rfl, gw_of (List.mem_of_getElem? (i := 1033) (by decide +kernel)) rfl, gw_of (List.mem_of_getElem? (i := 46) (by decide +kernel)) rfl⟩
theorem cb_X9_isWalk (own : String) : CLb own mX9_isWalk 1 := ⟨gw_of (List.mem_of_getElem? (i := 1030) (by decide +kernel)) rfl, gw_of (List.mem_of_getElem? (i := 56) (by decide +kernel)) rfl, by decide +kernel, by decide⟩
theorem cl_X9_218 : CLv RX9 218 mX9_isWalk 1 := ⟨cb_X9_isWalk _, gw_of (List.mem_of_getElem? (i := 1027) (by decide +kernel)) rfl, gw_of (List.mem_of_getElem? (i := 1029) (by decide +kernel)) rfl, gw_of (List.mem_of_getElem? (i := 45) (by decide +kernel)) rfl⟩
theorem cb_X9_findWalks (own : String) : CLb own mX9_findWalks 0 := ⟨gw_of (List.mem_of_getElem? (i := 1026) (by decide +kernel)) rfl, gw_of (List.mem_of_getElem? (i := 56) (by decide +kernel)) rfl, by decide +kernel, by decide⟩
theorem cl_X9_221 : CLv RX9 221 mX9_findWalks 0 := ⟨cb_X9_findWalks _, gw_of (List.mem_of_getElem? (i := 1023) (by decide +kernel)) rfl, gw_of (List.mem_of_getElem? (i := 1025) (by decide +kernel)) rfl, gw_of (List.mem_of_getElem? (i := 44) (by decide +kernel)) rfl⟩
theorem cb_X9_worthOf (own : String) : CLb own mX9_worthOf 2 := ⟨gw_of (List.mem_of_getElem? (i := 1046) (by decide +kernel)) rfl, gw_of (List.mem_of_getElem? (i := 56) (by decide +kernel)) rfl, by decide +kernel, by decide⟩
theorem cl_X9_226 : CLs RX9 226 mX9_worthOf 2 := ⟨cb_X9_worthOf _, gw_of (List.mem_of_getElem? (i := 1044) (by decide +kernel)) rfl, gw_of (List.mem_of_getElem? (i := 1045) (by decide +kernel)) rfl⟩
theorem ka_boolean : Cond.arrayClass .boolean ∈ gw := gw_of (List.mem_of_getElem? (i := 822) (by decide +kernel)) rfl
theorem ka_int : Cond.arrayClass .int ∈ gw := gw_of (List.mem_of_getElem? (i := 128) (by decide +kernel)) rfl
theorem kl_X8_17 : Cond.classLink RX8 17 "HoundLicence$Reader" ∈ gw := gw_of (List.mem_of_getElem? (i := 69) (by decide +kernel)) rfl
theorem kl_X8_24 : Cond.classLink RX8 24 "HoundLicence$Law" ∈ gw := gw_of (List.mem_of_getElem? (i := 187) (by decide +kernel)) rfl
theorem kl_X8_31 : Cond.classLink RX8 31 "HoundLicence$Town" ∈ gw := gw_of (List.mem_of_getElem? (i := 189) (by decide +kernel)) rfl
theorem kl_X8_41 : Cond.classLink RX8 41 "HoundLicence$Acts" ∈ gw := gw_of (List.mem_of_getElem? (i := 191) (by decide +kernel)) rfl
theorem kl_X8_48 : Cond.classLink RX8 48 "HoundLicence$Slots" ∈ gw := gw_of (List.mem_of_getElem? (i := 208) (by decide +kernel)) rfl
theorem kl_X8_55 : Cond.classLink RX8 55 "HoundLicence$Ahead" ∈ gw := gw_of (List.mem_of_getElem? (i := 223) (by decide +kernel)) rfl
theorem kl_X8_62 : Cond.classLink RX8 62 "HoundLicence$Sightings" ∈ gw := gw_of (List.mem_of_getElem? (i := 244) (by decide +kernel)) rfl
theorem kl_X0_15 : Cond.classLink RX0 15 "HoundLicence$Town" ∈ gw := gw_of (List.mem_of_getElem? (i := 197) (by decide +kernel)) rfl
theorem kl_X1_15 : Cond.classLink RX1 15 "[[I" ∈ gw := gw_of (List.mem_of_getElem? (i := 229) (by decide +kernel)) rfl
theorem kl_X3_9 : Cond.classLink RX3 9 "HoundLicence$Law" ∈ gw := gw_of (List.mem_of_getElem? (i := 75) (by decide +kernel)) rfl
theorem kl_X3_18 : Cond.classLink RX3 18 "HoundLicence$Town" ∈ gw := gw_of (List.mem_of_getElem? (i := 129) (by decide +kernel)) rfl
theorem kl_X6_9 : Cond.classLink RX6 9 "HoundLicence$Town" ∈ gw := gw_of (List.mem_of_getElem? (i := 214) (by decide +kernel)) rfl
theorem kl_L_7 : Cond.classLink RL 7 "HoundLicence" ∈ gw := gw_of (List.mem_of_getElem? (i := 61) (by decide +kernel)) rfl
theorem kl_L_10 : Cond.classLink RL 10 "HoundLicenceModel" ∈ gw := gw_of (List.mem_of_getElem? (i := 722) (by decide +kernel)) rfl
theorem kc_X8_227 : Cond.constant RX8 227 (99999) ∈ gw := gw_of (List.mem_of_getElem? (i := 672) (by decide +kernel)) rfl
theorem kc_J6_265 : Cond.constant RJ6 265 (1431655765) ∈ gw := gw_of (List.mem_of_getElem? (i := 380) (by decide +kernel)) rfl
theorem kc_J6_266 : Cond.constant RJ6 266 (858993459) ∈ gw := gw_of (List.mem_of_getElem? (i := 381) (by decide +kernel)) rfl
theorem kc_J6_267 : Cond.constant RJ6 267 (252645135) ∈ gw := gw_of (List.mem_of_getElem? (i := 382) (by decide +kernel)) rfl
theorem kc_X8_233 : Cond.constantLong RX8 233 (6364136223846793005) ∈ gw := gw_of (List.mem_of_getElem? (i := 697) (by decide +kernel)) rfl
theorem kc_X8_235 : Cond.constantLong RX8 235 (1442695040888963407) ∈ gw := gw_of (List.mem_of_getElem? (i := 698) (by decide +kernel)) rfl
theorem kc_X8_237 : Cond.constantLong RX8 237 (12) ∈ gw := gw_of (List.mem_of_getElem? (i := 699) (by decide +kernel)) rfl
theorem kc_L_115 : Cond.constantLong RL 115 (4294967295) ∈ gw := gw_of (List.mem_of_getElem? (i := 1070) (by decide +kernel)) rfl
theorem kc_X9_79 : Cond.constantLong RX9 79 (255) ∈ gw := gw_of (List.mem_of_getElem? (i := 827) (by decide +kernel)) rfl
theorem kc_X9_87 : Cond.constantLong RX9 87 (9) ∈ gw := gw_of (List.mem_of_getElem? (i := 871) (by decide +kernel)) rfl
theorem kc_X9_164 : Cond.constantLong RX9 164 (2) ∈ gw := gw_of (List.mem_of_getElem? (i := 930) (by decide +kernel)) rfl
theorem kc_X9_180 : Cond.constantLong RX9 180 (24) ∈ gw := gw_of (List.mem_of_getElem? (i := 966) (by decide +kernel)) rfl
theorem kc_X9_191 : Cond.constantLong RX9 191 (7) ∈ gw := gw_of (List.mem_of_getElem? (i := 975) (by decide +kernel)) rfl
theorem kc_X9_193 : Cond.constantLong RX9 193 (4) ∈ gw := gw_of (List.mem_of_getElem? (i := 976) (by decide +kernel)) rfl
theorem kc_X9_206 : Cond.constantLong RX9 206 (12) ∈ gw := gw_of (List.mem_of_getElem? (i := 1004) (by decide +kernel)) rfl
theorem kc_X9_208 : Cond.constantLong RX9 208 (99) ∈ gw := gw_of (List.mem_of_getElem? (i := 1009) (by decide +kernel)) rfl
theorem kc_X9_210 : Cond.constantLong RX9 210 (11) ∈ gw := gw_of (List.mem_of_getElem? (i := 1014) (by decide +kernel)) rfl
theorem kc_X9_224 : Cond.constantLong RX9 224 (99999) ∈ gw := gw_of (List.mem_of_getElem? (i := 1043) (by decide +kernel)) rfl
theorem kc_X9_233 : Cond.constantLong RX9 233 (30) ∈ gw := gw_of (List.mem_of_getElem? (i := 1059) (by decide +kernel)) rfl
theorem kc_X9_235 : Cond.constantLong RX9 235 (6364136223846793005) ∈ gw := gw_of (List.mem_of_getElem? (i := 1060) (by decide +kernel)) rfl
theorem kc_X9_237 : Cond.constantLong RX9 237 (1442695040888963407) ∈ gw := gw_of (List.mem_of_getElem? (i := 1061) (by decide +kernel)) rfl
theorem kj_X8 : Cond.initialized RX8 ∈ gw := gw_of (List.mem_of_getElem? (i := 48) (by decide +kernel)) rfl
theorem kj_X0 : Cond.initialized RX0 ∈ gw := gw_of (List.mem_of_getElem? (i := 52) (by decide +kernel)) rfl
theorem kj_X1 : Cond.initialized RX1 ∈ gw := gw_of (List.mem_of_getElem? (i := 54) (by decide +kernel)) rfl
theorem kj_X2 : Cond.initialized RX2 ∈ gw := gw_of (List.mem_of_getElem? (i := 50) (by decide +kernel)) rfl
theorem kj_X3 : Cond.initialized RX3 ∈ gw := gw_of (List.mem_of_getElem? (i := 49) (by decide +kernel)) rfl
theorem kj_X4 : Cond.initialized RX4 ∈ gw := gw_of (List.mem_of_getElem? (i := 60) (by decide +kernel)) rfl
theorem kj_X5 : Cond.initialized RX5 ∈ gw := gw_of (List.mem_of_getElem? (i := 55) (by decide +kernel)) rfl
theorem kj_X6 : Cond.initialized RX6 ∈ gw := gw_of (List.mem_of_getElem? (i := 53) (by decide +kernel)) rfl
theorem kj_X7 : Cond.initialized RX7 ∈ gw := gw_of (List.mem_of_getElem? (i := 51) (by decide +kernel)) rfl
theorem kj_L : Cond.initialized RL ∈ gw := gw_of (List.mem_of_getElem? (i := 47) (by decide +kernel)) rfl
theorem kj_X9 : Cond.initialized RX9 ∈ gw := gw_of (List.mem_of_getElem? (i := 56) (by decide +kernel)) rfl
theorem kj_J6 : Cond.initialized RJ6 ∈ gw := gw_of (List.mem_of_getElem? (i := 58) (by decide +kernel)) rfl
theorem kj_J9 : Cond.initialized RJ9 ∈ gw := gw_of (List.mem_of_getElem? (i := 57) (by decide +kernel)) rfl
theorem kj_J10 : Cond.initialized RJ10 ∈ gw := gw_of (List.mem_of_getElem? (i := 59) (by decide +kernel)) rfl
theorem ki_X8 : Cond.instantiable RX8 11 ∈ gw := gw_of (List.mem_of_getElem? (i := 62) (by decide +kernel)) rfl
theorem ki_X0 : Cond.instantiable RX0 2 ∈ gw := gw_of (List.mem_of_getElem? (i := 192) (by decide +kernel)) rfl
theorem ki_X1 : Cond.instantiable RX1 4 ∈ gw := gw_of (List.mem_of_getElem? (i := 224) (by decide +kernel)) rfl
theorem ki_X2 : Cond.instantiable RX2 8 ∈ gw := gw_of (List.mem_of_getElem? (i := 76) (by decide +kernel)) rfl
theorem ki_X3 : Cond.instantiable RX3 5 ∈ gw := gw_of (List.mem_of_getElem? (i := 70) (by decide +kernel)) rfl
theorem ki_X5 : Cond.instantiable RX5 6 ∈ gw := gw_of (List.mem_of_getElem? (i := 245) (by decide +kernel)) rfl
theorem ki_X6 : Cond.instantiable RX6 2 ∈ gw := gw_of (List.mem_of_getElem? (i := 209) (by decide +kernel)) rfl
theorem ki_X7 : Cond.instantiable RX7 7 ∈ gw := gw_of (List.mem_of_getElem? (i := 130) (by decide +kernel)) rfl
theorem ki_X9 : Cond.instantiable RX9 31 ∈ gw := gw_of (List.mem_of_getElem? (i := 723) (by decide +kernel)) rfl
