theorem zt0 {w : Cond} (h : w ∈ k2_sels lw_privs) : w ∈ lw_tbl := List.mem_append_left _ h
theorem zt1 {w : Cond} (h : w ∈ tables_1_1) : w ∈ lw_tbl := List.mem_append_right _ (List.mem_append_left _ h)
theorem zt2 {w : Cond} (h : w ∈ tables_1_2) : w ∈ lw_tbl := List.mem_append_right _ (List.mem_append_right _ (List.mem_append_left _ h))
theorem zt3 {w : Cond} (h : w ∈ tables_1_3) : w ∈ lw_tbl := List.mem_append_right _ (List.mem_append_right _ (List.mem_append_right _ (List.mem_append_left _ h)))
theorem zt4 {w : Cond} (h : w ∈ tables_1_4) : w ∈ lw_tbl := List.mem_append_right _ (List.mem_append_right _ (List.mem_append_right _ (List.mem_append_right _ (List.mem_append_left _ h))))
theorem zt5 {w : Cond} (h : w ∈ tables_1_5) : w ∈ lw_tbl := List.mem_append_right _ (List.mem_append_right _ (List.mem_append_right _ (List.mem_append_right _ (List.mem_append_right _ (List.mem_append_left _ h)))))
theorem zt6 {w : Cond} (h : w ∈ tables_1_6) : w ∈ lw_tbl := List.mem_append_right _ (List.mem_append_right _ (List.mem_append_right _ (List.mem_append_right _ (List.mem_append_right _ (List.mem_append_right _ (h))))))
abbrev mdX0_init : ZMD := (yX0_init, cX0_init, 1, none)
abbrev mdX0_become : ZMD := (yX0_become, cX0_become, 2, none)
abbrev mdX0_isAs : ZMD := (yX0_isAs, cX0_isAs, 3, (some .boolean))
abbrev mdX0_has : ZMD := (yX0_has, cX0_has, 2, (some .boolean))
abbrev mdX0_hasTwo : ZMD := (yX0_hasTwo, cX0_hasTwo, 3, (some .boolean))
abbrev mdX0_welcome : ZMD := (yX0_welcome, cX0_welcome, 4, (some .boolean))
abbrev mdX0_enrich : ZMD := (yX0_enrich, cX0_enrich, 3, (some .boolean))
abbrev mdX0_hasSigned : ZMD := (yX0_hasSigned, cX0_hasSigned, 3, (some .boolean))
abbrev mdX0_atFeud : ZMD := (yX0_atFeud, cX0_atFeud, 3, (some .boolean))
abbrev mdX0_isKin : ZMD := (yX0_isKin, cX0_isKin, 3, (some .boolean))
abbrev mdX0_kinOf : ZMD := (yX0_kinOf, cX0_kinOf, 4, (some .int))
abbrev mdX0_turnSigning : ZMD := (yX0_turnSigning, cX0_turnSigning, 3, (some .boolean))
abbrev mdX0_setSigning : ZMD := (yX0_setSigning, cX0_setSigning, 4, (some .boolean))
abbrev mdX0_signBoth : ZMD := (yX0_signBoth, cX0_signBoth, 3, (some .boolean))
abbrev mdX0_turnFeud : ZMD := (yX0_turnFeud, cX0_turnFeud, 3, (some .boolean))
abbrev mdX0_setFeud : ZMD := (yX0_setFeud, cX0_setFeud, 4, (some .boolean))
abbrev mdX0_withBit : ZMD := (yX0_withBit, cX0_withBit, 3, (some .int))
abbrev mdX0_changePlaces : ZMD := (yX0_changePlaces, cX0_changePlaces, 3, none)
abbrev mdX0_changeIn : ZMD := (yX0_changeIn, cX0_changeIn, 7, none)
abbrev mdX0_dues : ZMD := (yX0_dues, cX0_dues, 5, (some .int))
abbrev mdX0_mayPass : ZMD := (yX0_mayPass, cX0_mayPass, 2, (some .boolean))
abbrev mdX0_passYears : ZMD := (yX0_passYears, cX0_passYears, 3, (some .boolean))
abbrev mdX0_passYear : ZMD := (yX0_passYear, cX0_passYear, 5, none)
abbrev mdX0_pay : ZMD := (yX0_pay, cX0_pay, 4, none)
abbrev mdX0_wealth : ZMD := (yX0_wealth, cX0_wealth, 3, (some .int))
abbrev mdX0_signings : ZMD := (yX0_signings, cX0_signings, 3, (some .int))
abbrev mdX0_feudTwos : ZMD := (yX0_feudTwos, cX0_feudTwos, 3, (some .int))
abbrev mdX0_kinTwos : ZMD := (yX0_kinTwos, cX0_kinTwos, 3, (some .int))
abbrev mdX1_init : ZMD := (yX1_init, cX1_init, 1, none)
abbrev mdX1_isFull : ZMD := (yX1_isFull, cX1_isFull, 1, (some .boolean))
abbrev mdX1_add : ZMD := (yX1_add, cX1_add, 2, none)
abbrev mdX1_drop : ZMD := (yX1_drop, cX1_drop, 1, none)
abbrev mdX1_at : ZMD := (yX1_at, cX1_at, 2, (some .int))
abbrev mdX1_badForm : ZMD := (yX1_badForm, cX1_badForm, 4, (some .int))
abbrev mdX1_lengthFrom : ZMD := (yX1_lengthFrom, cX1_lengthFrom, 2, (some .int))
abbrev mdX1_badWithin : ZMD := (yX1_badWithin, cX1_badWithin, 6, (some .int))
abbrev mdX1_kindAt : ZMD := (yX1_kindAt, cX1_kindAt, 3, (some .int))
abbrev mdX1_isDigit : ZMD := (yX1_isDigit, cX1_isDigit, 1, (some .boolean))
abbrev mdX1_digitAt : ZMD := (yX1_digitAt, cX1_digitAt, 2, (some .int))
abbrev mdX1_numberAt : ZMD := (yX1_numberAt, cX1_numberAt, 2, (some .int))
abbrev mdX1_tellAll : ZMD := (yX1_tellAll, cX1_tellAll, 5, (some .int))
abbrev mdX1_tellOne : ZMD := (yX1_tellOne, cX1_tellOne, 5, (some .boolean))
abbrev mdX2_init : ZMD := (yX2_init, cX2_init, 2, none)
abbrev mdX2_goodWays : ZMD := (yX2_goodWays, cX2_goodWays, 7, (some .long))
abbrev mdX2_allWays : ZMD := (yX2_allWays, cX2_allWays, 5, (some .long))
abbrev mdX2_waysFrom : ZMD := (yX2_waysFrom, cX2_waysFrom, 6, (some .long))
abbrev mdX3_init : ZMD := (yX3_init, cX3_init, 1, none)
abbrev mdX3_pairAll : ZMD := (yX3_pairAll, cX3_pairAll, 5, (some .int))
abbrev mdX3_fitting : ZMD := (yX3_fitting, cX3_fitting, 6, (some .int))
abbrev mdX3_mostOf : ZMD := (yX3_mostOf, cX3_mostOf, 6, (some .int))
abbrev mdX3_leastIn : ZMD := (yX3_leastIn, cX3_leastIn, 3, (some .int))
abbrev mdX3_choose : ZMD := (yX3_choose, cX3_choose, 5, none)
abbrev mdX3_leastPartner : ZMD := (yX3_leastPartner, cX3_leastPartner, 5, (some .int))
abbrev mdX3_partnerOf : ZMD := (yX3_partnerOf, cX3_partnerOf, 2, (some .int))
abbrev mdX4_init : ZMD := (yX4_init, cX4_init, 1, none)
abbrev mdX4_seatAll : ZMD := (yX4_seatAll, cX4_seatAll, 3, (some .int))
abbrev mdX4_seatFrom : ZMD := (yX4_seatFrom, cX4_seatFrom, 5, (some .boolean))
abbrev mdX4_roomOf : ZMD := (yX4_roomOf, cX4_roomOf, 3, (some .int))
abbrev mdX5_init : ZMD := (yX5_init, cX5_init, 1, none)
abbrev mdX5_read : ZMD := (yX5_read, cX5_read, 3, none)
abbrev mdX5_spread : ZMD := (yX5_spread, cX5_spread, 4, (some .int))
abbrev mdX5_steps : ZMD := (yX5_steps, cX5_steps, 5, (some .int))
abbrev mdX5_reachOf : ZMD := (yX5_reachOf, cX5_reachOf, 4, (some .int))
abbrev mdX5_howManyGroups : ZMD := (yX5_howManyGroups, cX5_howManyGroups, 4, (some .int))
abbrev mdX5_mostInGroup : ZMD := (yX5_mostInGroup, cX5_mostInGroup, 3, (some .int))
abbrev mdX5_threes : ZMD := (yX5_threes, cX5_threes, 4, (some .int))
abbrev mdX5_greatestClan : ZMD := (yX5_greatestClan, cX5_greatestClan, 4, (some .int))
abbrev mdX5_isClan : ZMD := (yX5_isClan, cX5_isClan, 3, (some .boolean))
abbrev mdX6_init : ZMD := (yX6_init, cX6_init, 1, none)
abbrev mdX6_letter : ZMD := (yX6_letter, cX6_letter, 3, (some .int))
abbrev mdX6_county : ZMD := (yX6_county, cX6_county, 3, (some .int))
abbrev mdX6_person : ZMD := (yX6_person, cX6_person, 4, (some .int))
abbrev mdX6_tie : ZMD := (yX6_tie, cX6_tie, 5, (some .int))
abbrev mdX6_signs : ZMD := (yX6_signs, cX6_signs, 4, (some .int))
abbrev mdX6_feuds : ZMD := (yX6_feuds, cX6_feuds, 4, (some .int))
abbrev mdX6_gets : ZMD := (yX6_gets, cX6_gets, 5, (some .int))
abbrev mdX6_turn : ZMD := (yX6_turn, cX6_turn, 6, (some .int))
abbrev mdX6_years : ZMD := (yX6_years, cX6_years, 3, (some .int))
abbrev mdX6_hasThen : ZMD := (yX6_hasThen, cX6_hasThen, 5, (some .int))
abbrev mdX6_areKin : ZMD := (yX6_areKin, cX6_areKin, 5, (some .int))
abbrev mdX6_allMoney : ZMD := (yX6_allMoney, cX6_allMoney, 3, (some .int))
abbrev mdX6_ruined : ZMD := (yX6_ruined, cX6_ruined, 4, (some .int))
abbrev mdX6_first : ZMD := (yX6_first, cX6_first, 3, (some .int))
abbrev mdX6_richest : ZMD := (yX6_richest, cX6_richest, 6, (some .int))
abbrev mdX6_kin : ZMD := (yX6_kin, cX6_kin, 4, (some .int))
abbrev mdX6_removed : ZMD := (yX6_removed, cX6_removed, 4, (some .int))
abbrev mdX6_farthest : ZMD := (yX6_farthest, cX6_farthest, 8, (some .int))
abbrev mdX6_groups : ZMD := (yX6_groups, cX6_groups, 3, (some .int))
abbrev mdX6_clan : ZMD := (yX6_clan, cX6_clan, 4, (some .int))
abbrev mdX6_bestSign : ZMD := (yX6_bestSign, cX6_bestSign, 3, (some .int))
abbrev mdX6_bestCut : ZMD := (yX6_bestCut, cX6_bestCut, 3, (some .int))
abbrev mdX6_feudCosts : ZMD := (yX6_feudCosts, cX6_feudCosts, 5, (some .int))
abbrev mdX6_peace : ZMD := (yX6_peace, cX6_peace, 3, (some .int))
abbrev mdX6_will : ZMD := (yX6_will, cX6_will, 7, (some .int))
abbrev mdX6_rooms : ZMD := (yX6_rooms, cX6_rooms, 4, (some .int))
abbrev mdX6_couples : ZMD := (yX6_couples, cX6_couples, 5, (some .int))
abbrev mdX6_buys : ZMD := (yX6_buys, cX6_buys, 3, (some .int))
abbrev mdX6_matters : ZMD := (yX6_matters, cX6_matters, 8, (some .int))
abbrev mdX6_deaths : ZMD := (yX6_deaths, cX6_deaths, 10, (some .long))
abbrev mdX6_mean : ZMD := (yX6_mean, cX6_mean, 3, (some .long))
abbrev mdX6_two : ZMD := (yX6_two, cX6_two, 6, (some .int))
abbrev mdX6_whatIs : ZMD := (yX6_whatIs, cX6_whatIs, 7, (some .int))
abbrev mdX6_row : ZMD := (yX6_row, cX6_row, 3, (some .int))
abbrev mdX6_judge : ZMD := (yX6_judge, cX6_judge, 3, (some .int))
abbrev mdX6_clear : ZMD := (yX6_clear, cX6_clear, 2, (some .int))
abbrev mdX6_lots : ZMD := (yX6_lots, cX6_lots, 8, (some .int))
abbrev mdX6_image : ZMD := (yX6_image, cX6_image, 1, (some .int))
abbrev mdX6_on : ZMD := (yX6_on, cX6_on, 1, (some .int))
abbrev mdX6_count : ZMD := (yX6_count, cX6_count, 2, (some .int))
abbrev mdX6_refuse : ZMD := (yX6_refuse, cX6_refuse, 2, (some .int))
abbrev mdX6_firstOf : ZMD := (yX6_firstOf, cX6_firstOf, 3, (some .int))
abbrev mdX6_outside : ZMD := (yX6_outside, cX6_outside, 3, (some .int))
abbrev mdX6_otherThan : ZMD := (yX6_otherThan, cX6_otherThan, 2, (some .int))
abbrev mdX6_nobody : ZMD := (yX6_nobody, cX6_nobody, 2, (some .int))
abbrev mdX6_notTwo : ZMD := (yX6_notTwo, cX6_notTwo, 3, (some .int))
abbrev mdX6_notOdds : ZMD := (yX6_notOdds, cX6_notOdds, 3, (some .int))
abbrev mdX6_bit : ZMD := (yX6_bit, cX6_bit, 1, (some .int))
abbrev mdX6_isIn : ZMD := (yX6_isIn, cX6_isIn, 2, (some .boolean))
abbrev mdX6_thinkAhead : ZMD := (yX6_thinkAhead, cX6_thinkAhead, 2, none)
abbrev mdX6_steadyAfter : ZMD := (yX6_steadyAfter, cX6_steadyAfter, 2, (some .int))
abbrev mdX6_firstRuin : ZMD := (yX6_firstRuin, cX6_firstRuin, 4, (some .int))
abbrev mdX6_bestChange : ZMD := (yX6_bestChange, cX6_bestChange, 8, (some .int))
abbrev mdX6_mayChange : ZMD := (yX6_mayChange, cX6_mayChange, 4, (some .boolean))
abbrev mdX6_makeChange : ZMD := (yX6_makeChange, cX6_makeChange, 4, none)
abbrev mdX6_wealthWithFeud : ZMD := (yX6_wealthWithFeud, cX6_wealthWithFeud, 5, (some .int))
abbrev mdX6_goesAsTold : ZMD := (yX6_goesAsTold, cX6_goesAsTold, 3, (some .boolean))
abbrev mdX6_drawSignings : ZMD := (yX6_drawSignings, cX6_drawSignings, 6, (some .int))
abbrev mdX6_partOf : ZMD := (yX6_partOf, cX6_partOf, 7, (some .long))
abbrev mdX6_commonDivisor : ZMD := (yX6_commonDivisor, cX6_commonDivisor, 11, (some .long))
abbrev mdX7_init : ZMD := (yX7_init, cX7_init, 1, none)
abbrev mdX7_no : ZMD := (yX7_no, cX7_no, 2, (some .int))
abbrev mdX7_lower : ZMD := (yX7_lower, cX7_lower, 2, (some .int))
abbrev mdX7_lowestOf : ZMD := (yX7_lowestOf, cX7_lowestOf, 2, (some .long))
abbrev mdX7_isIn : ZMD := (yX7_isIn, cX7_isIn, 3, (some .boolean))
abbrev mdX7_bound : ZMD := (yX7_bound, cX7_bound, 3, (some .int))
abbrev mdX7_has : ZMD := (yX7_has, cX7_has, 2, (some .boolean))
abbrev mdX7_bits : ZMD := (yX7_bits, cX7_bits, 3, (some .int))
abbrev mdX7_isOne : ZMD := (yX7_isOne, cX7_isOne, 2, (some .boolean))
abbrev mdX7_areTwo : ZMD := (yX7_areTwo, cX7_areTwo, 3, (some .boolean))
abbrev mdX7_isKin : ZMD := (yX7_isKin, cX7_isKin, 3, (some .boolean))
abbrev mdX7_kinOf : ZMD := (yX7_kinOf, cX7_kinOf, 4, (some .int))
abbrev mdX7_letter : ZMD := (yX7_letter, cX7_letter, 3, (some .int))
abbrev mdX7_next : ZMD := (yX7_next, cX7_next, 1, (some .int))
abbrev mdX7_readsDigits : ZMD := (yX7_readsDigits, cX7_readsDigits, 5, (some .boolean))
abbrev mdX7_kindOf : ZMD := (yX7_kindOf, cX7_kindOf, 1, (some .int))
abbrev mdX7_readsOne : ZMD := (yX7_readsOne, cX7_readsOne, 2, (some .boolean))
abbrev mdX7_readsAll : ZMD := (yX7_readsAll, cX7_readsAll, 3, (some .boolean))
abbrev mdX7_statement : ZMD := (yX7_statement, cX7_statement, 2, (some .boolean))
abbrev mdX7_comesTie : ZMD := (yX7_comesTie, cX7_comesTie, 4, (some .boolean))
abbrev mdX7_comesYears : ZMD := (yX7_comesYears, cX7_comesYears, 2, (some .boolean))
abbrev mdX7_comes : ZMD := (yX7_comes, cX7_comes, 3, (some .boolean))
abbrev mdX7_county : ZMD := (yX7_county, cX7_county, 3, (some .int))
abbrev mdX7_passes : ZMD := (yX7_passes, cX7_passes, 3, none)
abbrev mdX7_passOne : ZMD := (yX7_passOne, cX7_passOne, 3, (some .int))
abbrev mdX7_passesAll : ZMD := (yX7_passesAll, cX7_passesAll, 3, none)
abbrev mdX7_thinks : ZMD := (yX7_thinks, cX7_thinks, 1, none)
abbrev mdX7_forgets : ZMD := (yX7_forgets, cX7_forgets, 1, none)
abbrev mdX7_changes : ZMD := (yX7_changes, cX7_changes, 1, none)
abbrev mdX7_changesBack : ZMD := (yX7_changesBack, cX7_changesBack, 1, none)
abbrev mdX7_image : ZMD := (yX7_image, cX7_image, 1, (some .int))
abbrev mdX7_on : ZMD := (yX7_on, cX7_on, 1, (some .int))
abbrev mdX7_adds : ZMD := (yX7_adds, cX7_adds, 4, none)
abbrev mdX7_turnsFeud : ZMD := (yX7_turnsFeud, cX7_turnsFeud, 3, none)
abbrev mdX7_paysOf : ZMD := (yX7_paysOf, cX7_paysOf, 5, (some .int))
abbrev mdX7_pays : ZMD := (yX7_pays, cX7_pays, 4, none)
abbrev mdX7_goesYear : ZMD := (yX7_goesYear, cX7_goesYear, 3, none)
abbrev mdX7_goes : ZMD := (yX7_goes, cX7_goes, 3, none)
abbrev mdX7_wealth : ZMD := (yX7_wealth, cX7_wealth, 3, (some .int))
abbrev mdX7_twosOfKin : ZMD := (yX7_twosOfKin, cX7_twosOfKin, 3, (some .int))
abbrev mdX7_person : ZMD := (yX7_person, cX7_person, 3, (some .int))
abbrev mdX7_tie : ZMD := (yX7_tie, cX7_tie, 4, (some .int))
abbrev mdX7_signs : ZMD := (yX7_signs, cX7_signs, 3, (some .int))
abbrev mdX7_feuds : ZMD := (yX7_feuds, cX7_feuds, 3, (some .int))
abbrev mdX7_gets : ZMD := (yX7_gets, cX7_gets, 5, (some .int))
abbrev mdX7_turn : ZMD := (yX7_turn, cX7_turn, 6, (some .int))
abbrev mdX7_years : ZMD := (yX7_years, cX7_years, 3, (some .int))
abbrev mdX7_notYears : ZMD := (yX7_notYears, cX7_notYears, 1, (some .int))
abbrev mdX7_moneyIn : ZMD := (yX7_moneyIn, cX7_moneyIn, 4, (some .int))
abbrev mdX7_wealthIn : ZMD := (yX7_wealthIn, cX7_wealthIn, 3, (some .int))
abbrev mdX7_hasThen : ZMD := (yX7_hasThen, cX7_hasThen, 6, (some .int))
abbrev mdX7_areKin : ZMD := (yX7_areKin, cX7_areKin, 6, (some .int))
abbrev mdX7_allMoney : ZMD := (yX7_allMoney, cX7_allMoney, 3, (some .int))
abbrev mdX7_ruinOf : ZMD := (yX7_ruinOf, cX7_ruinOf, 4, (some .int))
abbrev mdX7_ruined : ZMD := (yX7_ruined, cX7_ruined, 2, (some .int))
abbrev mdX7_isSteady : ZMD := (yX7_isSteady, cX7_isSteady, 2, (some .boolean))
abbrev mdX7_steadyAt : ZMD := (yX7_steadyAt, cX7_steadyAt, 3, (some .int))
abbrev mdX7_first : ZMD := (yX7_first, cX7_first, 6, (some .int))
abbrev mdX7_richest : ZMD := (yX7_richest, cX7_richest, 5, (some .int))
abbrev mdX7_findSteps : ZMD := (yX7_findSteps, cX7_findSteps, 5, none)
abbrev mdX7_reached : ZMD := (yX7_reached, cX7_reached, 4, (some .int))
abbrev mdX7_kin : ZMD := (yX7_kin, cX7_kin, 4, (some .int))
abbrev mdX7_removed : ZMD := (yX7_removed, cX7_removed, 3, (some .int))
abbrev mdX7_farthest : ZMD := (yX7_farthest, cX7_farthest, 6, (some .int))
abbrev mdX7_threes : ZMD := (yX7_threes, cX7_threes, 5, (some .int))
abbrev mdX7_groups : ZMD := (yX7_groups, cX7_groups, 6, (some .int))
abbrev mdX7_areAllKin : ZMD := (yX7_areAllKin, cX7_areAllKin, 3, (some .boolean))
abbrev mdX7_clan : ZMD := (yX7_clan, cX7_clan, 4, (some .int))
abbrev mdX7_notShort : ZMD := (yX7_notShort, cX7_notShort, 1, (some .int))
abbrev mdX7_moneySigning : ZMD := (yX7_moneySigning, cX7_moneySigning, 6, (some .int))
abbrev mdX7_bestTurn : ZMD := (yX7_bestTurn, cX7_bestTurn, 9, (some .int))
abbrev mdX7_bestSign : ZMD := (yX7_bestSign, cX7_bestSign, 4, (some .int))
abbrev mdX7_bestCut : ZMD := (yX7_bestCut, cX7_bestCut, 4, (some .int))
abbrev mdX7_feudCosts : ZMD := (yX7_feudCosts, cX7_feudCosts, 7, (some .int))
abbrev mdX7_peace : ZMD := (yX7_peace, cX7_peace, 4, (some .int))
abbrev mdX7_will : ZMD := (yX7_will, cX7_will, 5, (some .int))
abbrev mdX7_leastRoom : ZMD := (yX7_leastRoom, cX7_leastRoom, 5, (some .int))
abbrev mdX7_findRooms : ZMD := (yX7_findRooms, cX7_findRooms, 5, (some .boolean))
abbrev mdX7_rooms : ZMD := (yX7_rooms, cX7_rooms, 3, (some .int))
abbrev mdX7_isCouple : ZMD := (yX7_isCouple, cX7_isCouple, 5, (some .boolean))
abbrev mdX7_lowest : ZMD := (yX7_lowest, cX7_lowest, 2, (some .int))
abbrev mdX7_findCouples : ZMD := (yX7_findCouples, cX7_findCouples, 8, none)
abbrev mdX7_partnerIn : ZMD := (yX7_partnerIn, cX7_partnerIn, 6, (some .int))
abbrev mdX7_partnerOf : ZMD := (yX7_partnerOf, cX7_partnerOf, 6, (some .int))
abbrev mdX7_couples : ZMD := (yX7_couples, cX7_couples, 4, (some .int))
abbrev mdX7_turned : ZMD := (yX7_turned, cX7_turned, 4, (some .int))
abbrev mdX7_exchanges : ZMD := (yX7_exchanges, cX7_exchanges, 6, none)
abbrev mdX7_moneyChanged : ZMD := (yX7_moneyChanged, cX7_moneyChanged, 5, (some .int))
abbrev mdX7_buys : ZMD := (yX7_buys, cX7_buys, 8, (some .int))
abbrev mdX7_matters : ZMD := (yX7_matters, cX7_matters, 6, (some .int))
abbrev mdX7_divisor : ZMD := (yX7_divisor, cX7_divisor, 10, (some .long))
abbrev mdX7_partOf : ZMD := (yX7_partOf, cX7_partOf, 5, (some .long))
abbrev mdX7_deaths : ZMD := (yX7_deaths, cX7_deaths, 16, (some .long))
abbrev mdX7_mean : ZMD := (yX7_mean, cX7_mean, 2, (some .long))
abbrev mdX7_with : ZMD := (yX7_with, cX7_with, 3, (some .int))
abbrev mdX7_findTwo : ZMD := (yX7_findTwo, cX7_findTwo, 5, none)
abbrev mdX7_two : ZMD := (yX7_two, cX7_two, 6, (some .int))
abbrev mdX7_isSo : ZMD := (yX7_isSo, cX7_isSo, 4, (some .boolean))
abbrev mdX7_bitsFor : ZMD := (yX7_bitsFor, cX7_bitsFor, 7, (some .int))
abbrev mdX7_whatIs : ZMD := (yX7_whatIs, cX7_whatIs, 4, (some .int))
abbrev mdX7_row : ZMD := (yX7_row, cX7_row, 3, (some .int))
abbrev mdX7_judge : ZMD := (yX7_judge, cX7_judge, 3, (some .int))
abbrev mdX7_clear : ZMD := (yX7_clear, cX7_clear, 2, (some .int))
abbrev mdX7_draw : ZMD := (yX7_draw, cX7_draw, 2, (some .int))
abbrev mdX7_lots : ZMD := (yX7_lots, cX7_lots, 10, (some .int))
abbrev mdX7_count : ZMD := (yX7_count, cX7_count, 4, (some .int))
abbrev mdJ11_isValidCodePoint_9a6ad : ZMD := (yJ11_isValidCodePoint_9a6ad, cJ11_isValidCodePoint_9a6ad, 2, (some .boolean))
abbrev mdJ11_highSurrogate_5068e : ZMD := (yJ11_highSurrogate_5068e, cJ11_highSurrogate_5068e, 1, (some .char))
abbrev mdJ11_lowSurrogate_5068e : ZMD := (yJ11_lowSurrogate_5068e, cJ11_lowSurrogate_5068e, 1, (some .char))
abbrev mdJ6_bitCount_0f7a4 : ZMD := (yJ6_bitCount_0f7a4, cJ6_bitCount_0f7a4, 1, (some .int))
abbrev mdJ9_abs_0f7a4 : ZMD := (yJ9_abs_0f7a4, cJ9_abs_0f7a4, 1, (some .int))
abbrev mdJ9_max_7cf53 : ZMD := (yJ9_max_7cf53, cJ9_max_7cf53, 2, (some .int))
abbrev mdJ9_min_7cf53 : ZMD := (yJ9_min_7cf53, cJ9_min_7cf53, 2, (some .int))
abbrev mdJ0_length_8abf5 : ZMD := (yJ0_length_8abf5, cJ0_length_8abf5, 1, (some .int))
abbrev mdJ0_indexOf_0f7a4 : ZMD := (yJ0_indexOf_0f7a4, cJ0_indexOf_0f7a4, 2, (some .int))
abbrev mdJ0_indexOf_7cf53 : ZMD := (yJ0_indexOf_7cf53, cJ0_indexOf_7cf53, 3, (some .int))
abbrev mdJ0_coder_7d493 : ZMD := (yJ0_coder_7d493, cJ0_coder_7d493, 1, (some .byte))
abbrev mdJ0_isLatin1_aae02 : ZMD := (yJ0_isLatin1_aae02, cJ0_isLatin1_aae02, 1, (some .boolean))
abbrev mdJ0_checkBoundsBeginEnd_23922 : ZMD := (yJ0_checkBoundsBeginEnd_23922, cJ0_checkBoundsBeginEnd_23922, 3, none)
abbrev mdJ1_canEncode_9a6ad : ZMD := (yJ1_canEncode_9a6ad, cJ1_canEncode_9a6ad, 1, (some .boolean))
abbrev mdJ1_indexOf_4cfef : ZMD := (yJ1_indexOf_4cfef, cJ1_indexOf_4cfef, 4, (some .int))
abbrev mdJ1_indexOfChar_4cfef : ZMD := (yJ1_indexOfChar_4cfef, cJ1_indexOfChar_4cfef, 6, (some .int))
abbrev mdJ2_getChar_3b067 : ZMD := (yJ2_getChar_3b067, cJ2_getChar_3b067, 2, (some .char))
abbrev mdJ2_length_9d52b : ZMD := (yJ2_length_9d52b, cJ2_length_9d52b, 1, (some .int))
abbrev mdJ2_indexOf_4cfef : ZMD := (yJ2_indexOf_4cfef, cJ2_indexOf_4cfef, 4, (some .int))
abbrev mdJ2_indexOfChar_4cfef : ZMD := (yJ2_indexOfChar_4cfef, cJ2_indexOfChar_4cfef, 4, (some .int))
abbrev mdJ2_indexOfCharUnsafe_4cfef : ZMD := (yJ2_indexOfCharUnsafe_4cfef, cJ2_indexOfCharUnsafe_4cfef, 5, (some .int))
abbrev mdJ2_indexOfSupplementary_4cfef : ZMD := (yJ2_indexOfSupplementary_4cfef, cJ2_indexOfSupplementary_4cfef, 7, (some .int))
abbrev mdJ2_checkBoundsBeginEnd_d044e : ZMD := (yJ2_checkBoundsBeginEnd_d044e, cJ2_checkBoundsBeginEnd_d044e, 3, none)
abbrev mdJ7_fill_53178 : ZMD := (yJ7_fill_53178, cJ7_fill_53178, 4, none)
abbrev mdJ3_checkFromToIndex_8c36e : ZMD := (yJ3_checkFromToIndex_8c36e, cJ3_checkFromToIndex_8c36e, 4, (some .int))
set_option maxRecDepth 100000 in
theorem niRL : Cond.initialized RL ∈ zgt := zgt_in (zt1 (List.mem_of_getElem? (i := 0) rfl)) rfl
set_option maxRecDepth 100000 in
theorem niRX6 : Cond.initialized RX6 ∈ zgt := zgt_in (zt1 (List.mem_of_getElem? (i := 1) rfl)) rfl
set_option maxRecDepth 100000 in
theorem niRX0 : Cond.initialized RX0 ∈ zgt := zgt_in (zt1 (List.mem_of_getElem? (i := 2) rfl)) rfl
set_option maxRecDepth 100000 in
theorem niRX1 : Cond.initialized RX1 ∈ zgt := zgt_in (zt1 (List.mem_of_getElem? (i := 3) rfl)) rfl
set_option maxRecDepth 100000 in
theorem niRX5 : Cond.initialized RX5 ∈ zgt := zgt_in (zt1 (List.mem_of_getElem? (i := 4) rfl)) rfl
set_option maxRecDepth 100000 in
theorem niRX4 : Cond.initialized RX4 ∈ zgt := zgt_in (zt1 (List.mem_of_getElem? (i := 5) rfl)) rfl
set_option maxRecDepth 100000 in
theorem niRX3 : Cond.initialized RX3 ∈ zgt := zgt_in (zt1 (List.mem_of_getElem? (i := 6) rfl)) rfl
set_option maxRecDepth 100000 in
theorem niRX2 : Cond.initialized RX2 ∈ zgt := zgt_in (zt1 (List.mem_of_getElem? (i := 7) rfl)) rfl
set_option maxRecDepth 100000 in
theorem niRX7 : Cond.initialized RX7 ∈ zgt := zgt_in (zt1 (List.mem_of_getElem? (i := 8) rfl)) rfl
set_option maxRecDepth 100000 in
theorem niRJ0 : Cond.initialized RJ0 ∈ zgt := zgt_in (zt1 (List.mem_of_getElem? (i := 9) rfl)) rfl
set_option maxRecDepth 100000 in
theorem niRJ1 : Cond.initialized RJ1 ∈ zgt := zgt_in (zt1 (List.mem_of_getElem? (i := 10) rfl)) rfl
set_option maxRecDepth 100000 in
theorem niRJ9 : Cond.initialized RJ9 ∈ zgt := zgt_in (zt1 (List.mem_of_getElem? (i := 11) rfl)) rfl
set_option maxRecDepth 100000 in
theorem niRJ2 : Cond.initialized RJ2 ∈ zgt := zgt_in (zt1 (List.mem_of_getElem? (i := 12) rfl)) rfl
set_option maxRecDepth 100000 in
theorem niRJ3 : Cond.initialized RJ3 ∈ zgt := zgt_in (zt1 (List.mem_of_getElem? (i := 13) rfl)) rfl
set_option maxRecDepth 100000 in
theorem niRJ11 : Cond.initialized RJ11 ∈ zgt := zgt_in (zt1 (List.mem_of_getElem? (i := 14) rfl)) rfl
set_option maxRecDepth 100000 in
theorem niRJ10 : Cond.initialized RJ10 ∈ zgt := zgt_in (zt1 (List.mem_of_getElem? (i := 15) rfl)) rfl
set_option maxRecDepth 100000 in
theorem niRJ6 : Cond.initialized RJ6 ∈ zgt := zgt_in (zt1 (List.mem_of_getElem? (i := 16) rfl)) rfl
set_option maxRecDepth 100000 in
theorem niRJ7 : Cond.initialized RJ7 ∈ zgt := zgt_in (zt1 (List.mem_of_getElem? (i := 17) rfl)) rfl
set_option maxRecDepth 100000 in
theorem kcX0_init : Cond.code yX0_init cX0_init 1 none ∈ zgt := zgt_in (zt1 (List.mem_of_getElem? (i := 30) rfl)) rfl
set_option maxRecDepth 100000 in
theorem knX0_init : Cond.instanceMethod yX0_init ∈ zgt := zgt_in (zt1 (List.mem_of_getElem? (i := 29) rfl)) rfl
set_option maxRecDepth 100000 in
theorem kcX0_become : Cond.code yX0_become cX0_become 2 none ∈ zgt := zgt_in (zt2 (List.mem_of_getElem? (i := 103) rfl)) rfl
set_option maxRecDepth 100000 in
theorem knX0_become : Cond.instanceMethod yX0_become ∈ zgt := zgt_in (zt2 (List.mem_of_getElem? (i := 101) rfl)) rfl
set_option maxRecDepth 100000 in
theorem ksX0_become : Cond.selects RX0 yX0_become yX0_become ∈ zgt := zgt_in (zt2 (List.mem_of_getElem? (i := 102) rfl)) rfl
set_option maxRecDepth 100000 in
theorem kcX0_isAs : Cond.code yX0_isAs cX0_isAs 3 (some .boolean) ∈ zgt := zgt_in (zt3 (List.mem_of_getElem? (i := 61) rfl)) rfl
set_option maxRecDepth 100000 in
theorem knX0_isAs : Cond.instanceMethod yX0_isAs ∈ zgt := zgt_in (zt3 (List.mem_of_getElem? (i := 59) rfl)) rfl
set_option maxRecDepth 100000 in
theorem ksX0_isAs : Cond.selects RX0 yX0_isAs yX0_isAs ∈ zgt := zgt_in (zt3 (List.mem_of_getElem? (i := 60) rfl)) rfl
set_option maxRecDepth 100000 in
theorem kcX0_has : Cond.code yX0_has cX0_has 2 (some .boolean) ∈ zgt := zgt_in (zt2 (List.mem_of_getElem? (i := 142) rfl)) rfl
set_option maxRecDepth 100000 in
theorem knX0_has : Cond.instanceMethod yX0_has ∈ zgt := zgt_in (zt2 (List.mem_of_getElem? (i := 140) rfl)) rfl
set_option maxRecDepth 100000 in
theorem ksX0_has : Cond.selects RX0 yX0_has yX0_has ∈ zgt := zgt_in (zt2 (List.mem_of_getElem? (i := 141) rfl)) rfl
set_option maxRecDepth 100000 in
theorem kcX0_hasTwo : Cond.code yX0_hasTwo cX0_hasTwo 3 (some .boolean) ∈ zgt := zgt_in (zt2 (List.mem_of_getElem? (i := 138) rfl)) rfl
set_option maxRecDepth 100000 in
theorem knX0_hasTwo : Cond.instanceMethod yX0_hasTwo ∈ zgt := zgt_in (zt2 (List.mem_of_getElem? (i := 136) rfl)) rfl
set_option maxRecDepth 100000 in
theorem ksX0_hasTwo : Cond.selects RX0 yX0_hasTwo yX0_hasTwo ∈ zgt := zgt_in (zt2 (List.mem_of_getElem? (i := 137) rfl)) rfl
set_option maxRecDepth 100000 in
theorem kcX0_welcome : Cond.code yX0_welcome cX0_welcome 4 (some .boolean) ∈ zgt := zgt_in (zt2 (List.mem_of_getElem? (i := 126) rfl)) rfl
set_option maxRecDepth 100000 in
theorem knX0_welcome : Cond.instanceMethod yX0_welcome ∈ zgt := zgt_in (zt2 (List.mem_of_getElem? (i := 124) rfl)) rfl
set_option maxRecDepth 100000 in
theorem ksX0_welcome : Cond.selects RX0 yX0_welcome yX0_welcome ∈ zgt := zgt_in (zt2 (List.mem_of_getElem? (i := 125) rfl)) rfl
set_option maxRecDepth 100000 in
theorem kcX0_enrich : Cond.code yX0_enrich cX0_enrich 3 (some .boolean) ∈ zgt := zgt_in (zt2 (List.mem_of_getElem? (i := 172) rfl)) rfl
set_option maxRecDepth 100000 in
theorem knX0_enrich : Cond.instanceMethod yX0_enrich ∈ zgt := zgt_in (zt2 (List.mem_of_getElem? (i := 170) rfl)) rfl
set_option maxRecDepth 100000 in
theorem ksX0_enrich : Cond.selects RX0 yX0_enrich yX0_enrich ∈ zgt := zgt_in (zt2 (List.mem_of_getElem? (i := 171) rfl)) rfl
set_option maxRecDepth 100000 in
theorem kcX0_hasSigned : Cond.code yX0_hasSigned cX0_hasSigned 3 (some .boolean) ∈ zgt := zgt_in (zt2 (List.mem_of_getElem? (i := 134) rfl)) rfl
set_option maxRecDepth 100000 in
theorem knX0_hasSigned : Cond.instanceMethod yX0_hasSigned ∈ zgt := zgt_in (zt2 (List.mem_of_getElem? (i := 132) rfl)) rfl
set_option maxRecDepth 100000 in
theorem ksX0_hasSigned : Cond.selects RX0 yX0_hasSigned yX0_hasSigned ∈ zgt := zgt_in (zt2 (List.mem_of_getElem? (i := 133) rfl)) rfl
set_option maxRecDepth 100000 in
theorem kcX0_atFeud : Cond.code yX0_atFeud cX0_atFeud 3 (some .boolean) ∈ zgt := zgt_in (zt2 (List.mem_of_getElem? (i := 164) rfl)) rfl
set_option maxRecDepth 100000 in
theorem knX0_atFeud : Cond.instanceMethod yX0_atFeud ∈ zgt := zgt_in (zt2 (List.mem_of_getElem? (i := 162) rfl)) rfl
set_option maxRecDepth 100000 in
theorem ksX0_atFeud : Cond.selects RX0 yX0_atFeud yX0_atFeud ∈ zgt := zgt_in (zt2 (List.mem_of_getElem? (i := 163) rfl)) rfl
set_option maxRecDepth 100000 in
theorem kcX0_isKin : Cond.code yX0_isKin cX0_isKin 3 (some .boolean) ∈ zgt := zgt_in (zt2 (List.mem_of_getElem? (i := 239) rfl)) rfl
set_option maxRecDepth 100000 in
theorem knX0_isKin : Cond.instanceMethod yX0_isKin ∈ zgt := zgt_in (zt2 (List.mem_of_getElem? (i := 237) rfl)) rfl
set_option maxRecDepth 100000 in
theorem ksX0_isKin : Cond.selects RX0 yX0_isKin yX0_isKin ∈ zgt := zgt_in (zt2 (List.mem_of_getElem? (i := 238) rfl)) rfl
set_option maxRecDepth 100000 in
theorem kcX0_kinOf : Cond.code yX0_kinOf cX0_kinOf 4 (some .int) ∈ zgt := zgt_in (zt2 (List.mem_of_getElem? (i := 188) rfl)) rfl
set_option maxRecDepth 100000 in
theorem knX0_kinOf : Cond.instanceMethod yX0_kinOf ∈ zgt := zgt_in (zt2 (List.mem_of_getElem? (i := 186) rfl)) rfl
set_option maxRecDepth 100000 in
theorem ksX0_kinOf : Cond.selects RX0 yX0_kinOf yX0_kinOf ∈ zgt := zgt_in (zt2 (List.mem_of_getElem? (i := 187) rfl)) rfl
set_option maxRecDepth 100000 in
theorem kcX0_turnSigning : Cond.code yX0_turnSigning cX0_turnSigning 3 (some .boolean) ∈ zgt := zgt_in (zt2 (List.mem_of_getElem? (i := 130) rfl)) rfl
set_option maxRecDepth 100000 in
theorem knX0_turnSigning : Cond.instanceMethod yX0_turnSigning ∈ zgt := zgt_in (zt2 (List.mem_of_getElem? (i := 128) rfl)) rfl
set_option maxRecDepth 100000 in
theorem ksX0_turnSigning : Cond.selects RX0 yX0_turnSigning yX0_turnSigning ∈ zgt := zgt_in (zt2 (List.mem_of_getElem? (i := 129) rfl)) rfl
set_option maxRecDepth 100000 in
theorem kcX0_setSigning : Cond.code yX0_setSigning cX0_setSigning 4 (some .boolean) ∈ zgt := zgt_in (zt2 (List.mem_of_getElem? (i := 149) rfl)) rfl
set_option maxRecDepth 100000 in
theorem knX0_setSigning : Cond.instanceMethod yX0_setSigning ∈ zgt := zgt_in (zt2 (List.mem_of_getElem? (i := 147) rfl)) rfl
set_option maxRecDepth 100000 in
theorem ksX0_setSigning : Cond.selects RX0 yX0_setSigning yX0_setSigning ∈ zgt := zgt_in (zt2 (List.mem_of_getElem? (i := 148) rfl)) rfl
set_option maxRecDepth 100000 in
theorem kcX0_signBoth : Cond.code yX0_signBoth cX0_signBoth 3 (some .boolean) ∈ zgt := zgt_in (zt2 (List.mem_of_getElem? (i := 156) rfl)) rfl
set_option maxRecDepth 100000 in
theorem knX0_signBoth : Cond.instanceMethod yX0_signBoth ∈ zgt := zgt_in (zt2 (List.mem_of_getElem? (i := 154) rfl)) rfl
set_option maxRecDepth 100000 in
theorem ksX0_signBoth : Cond.selects RX0 yX0_signBoth yX0_signBoth ∈ zgt := zgt_in (zt2 (List.mem_of_getElem? (i := 155) rfl)) rfl
set_option maxRecDepth 100000 in
theorem kcX0_turnFeud : Cond.code yX0_turnFeud cX0_turnFeud 3 (some .boolean) ∈ zgt := zgt_in (zt2 (List.mem_of_getElem? (i := 160) rfl)) rfl
set_option maxRecDepth 100000 in
theorem knX0_turnFeud : Cond.instanceMethod yX0_turnFeud ∈ zgt := zgt_in (zt2 (List.mem_of_getElem? (i := 158) rfl)) rfl
set_option maxRecDepth 100000 in
theorem ksX0_turnFeud : Cond.selects RX0 yX0_turnFeud yX0_turnFeud ∈ zgt := zgt_in (zt2 (List.mem_of_getElem? (i := 159) rfl)) rfl
set_option maxRecDepth 100000 in
theorem kcX0_setFeud : Cond.code yX0_setFeud cX0_setFeud 4 (some .boolean) ∈ zgt := zgt_in (zt2 (List.mem_of_getElem? (i := 168) rfl)) rfl
set_option maxRecDepth 100000 in
theorem knX0_setFeud : Cond.instanceMethod yX0_setFeud ∈ zgt := zgt_in (zt2 (List.mem_of_getElem? (i := 166) rfl)) rfl
set_option maxRecDepth 100000 in
theorem ksX0_setFeud : Cond.selects RX0 yX0_setFeud yX0_setFeud ∈ zgt := zgt_in (zt2 (List.mem_of_getElem? (i := 167) rfl)) rfl
set_option maxRecDepth 100000 in
theorem kcX0_withBit : Cond.code yX0_withBit cX0_withBit 3 (some .int) ∈ zgt := zgt_in (zt2 (List.mem_of_getElem? (i := 152) rfl)) rfl
set_option maxRecDepth 100000 in
theorem ktX0_withBit : Cond.static yX0_withBit ∈ zgt := zgt_in (zt2 (List.mem_of_getElem? (i := 151) rfl)) rfl
set_option maxRecDepth 100000 in
theorem kcX0_changePlaces : Cond.code yX0_changePlaces cX0_changePlaces 3 none ∈ zgt := zgt_in (zt3 (List.mem_of_getElem? (i := 150) rfl)) rfl
set_option maxRecDepth 100000 in
theorem knX0_changePlaces : Cond.instanceMethod yX0_changePlaces ∈ zgt := zgt_in (zt3 (List.mem_of_getElem? (i := 148) rfl)) rfl
set_option maxRecDepth 100000 in
theorem ksX0_changePlaces : Cond.selects RX0 yX0_changePlaces yX0_changePlaces ∈ zgt := zgt_in (zt3 (List.mem_of_getElem? (i := 149) rfl)) rfl
set_option maxRecDepth 100000 in
theorem kcX0_changeIn : Cond.code yX0_changeIn cX0_changeIn 7 none ∈ zgt := zgt_in (zt3 (List.mem_of_getElem? (i := 154) rfl)) rfl
set_option maxRecDepth 100000 in
theorem knX0_changeIn : Cond.instanceMethod yX0_changeIn ∈ zgt := zgt_in (zt3 (List.mem_of_getElem? (i := 153) rfl)) rfl
set_option maxRecDepth 100000 in
theorem ksX0_changeIn : Cond.selects RX0 yX0_changeIn yX0_changeIn ∈ zgt := zgt_in (zt0 (List.mem_of_getElem? (i := 19) rfl)) rfl
set_option maxRecDepth 100000 in
theorem kcX0_dues : Cond.code yX0_dues cX0_dues 5 (some .int) ∈ zgt := zgt_in (zt2 (List.mem_of_getElem? (i := 196) rfl)) rfl
set_option maxRecDepth 100000 in
theorem knX0_dues : Cond.instanceMethod yX0_dues ∈ zgt := zgt_in (zt2 (List.mem_of_getElem? (i := 194) rfl)) rfl
set_option maxRecDepth 100000 in
theorem ksX0_dues : Cond.selects RX0 yX0_dues yX0_dues ∈ zgt := zgt_in (zt2 (List.mem_of_getElem? (i := 195) rfl)) rfl
set_option maxRecDepth 100000 in
theorem kcX0_mayPass : Cond.code yX0_mayPass cX0_mayPass 2 (some .boolean) ∈ zgt := zgt_in (zt2 (List.mem_of_getElem? (i := 176) rfl)) rfl
set_option maxRecDepth 100000 in
theorem knX0_mayPass : Cond.instanceMethod yX0_mayPass ∈ zgt := zgt_in (zt2 (List.mem_of_getElem? (i := 174) rfl)) rfl
set_option maxRecDepth 100000 in
theorem ksX0_mayPass : Cond.selects RX0 yX0_mayPass yX0_mayPass ∈ zgt := zgt_in (zt2 (List.mem_of_getElem? (i := 175) rfl)) rfl
set_option maxRecDepth 100000 in
theorem kcX0_passYears : Cond.code yX0_passYears cX0_passYears 3 (some .boolean) ∈ zgt := zgt_in (zt2 (List.mem_of_getElem? (i := 180) rfl)) rfl
set_option maxRecDepth 100000 in
theorem knX0_passYears : Cond.instanceMethod yX0_passYears ∈ zgt := zgt_in (zt2 (List.mem_of_getElem? (i := 178) rfl)) rfl
set_option maxRecDepth 100000 in
theorem ksX0_passYears : Cond.selects RX0 yX0_passYears yX0_passYears ∈ zgt := zgt_in (zt2 (List.mem_of_getElem? (i := 179) rfl)) rfl
set_option maxRecDepth 100000 in
theorem kcX0_passYear : Cond.code yX0_passYear cX0_passYear 5 none ∈ zgt := zgt_in (zt2 (List.mem_of_getElem? (i := 184) rfl)) rfl
set_option maxRecDepth 100000 in
theorem knX0_passYear : Cond.instanceMethod yX0_passYear ∈ zgt := zgt_in (zt2 (List.mem_of_getElem? (i := 182) rfl)) rfl
set_option maxRecDepth 100000 in
theorem ksX0_passYear : Cond.selects RX0 yX0_passYear yX0_passYear ∈ zgt := zgt_in (zt2 (List.mem_of_getElem? (i := 183) rfl)) rfl
set_option maxRecDepth 100000 in
theorem kcX0_pay : Cond.code yX0_pay cX0_pay 4 none ∈ zgt := zgt_in (zt2 (List.mem_of_getElem? (i := 192) rfl)) rfl
set_option maxRecDepth 100000 in
theorem knX0_pay : Cond.instanceMethod yX0_pay ∈ zgt := zgt_in (zt2 (List.mem_of_getElem? (i := 191) rfl)) rfl
set_option maxRecDepth 100000 in
theorem ksX0_pay : Cond.selects RX0 yX0_pay yX0_pay ∈ zgt := zgt_in (zt0 (List.mem_of_getElem? (i := 8) rfl)) rfl
set_option maxRecDepth 100000 in
theorem kcX0_wealth : Cond.code yX0_wealth cX0_wealth 3 (some .int) ∈ zgt := zgt_in (zt3 (List.mem_of_getElem? (i := 28) rfl)) rfl
set_option maxRecDepth 100000 in
theorem knX0_wealth : Cond.instanceMethod yX0_wealth ∈ zgt := zgt_in (zt3 (List.mem_of_getElem? (i := 26) rfl)) rfl
set_option maxRecDepth 100000 in
theorem ksX0_wealth : Cond.selects RX0 yX0_wealth yX0_wealth ∈ zgt := zgt_in (zt3 (List.mem_of_getElem? (i := 27) rfl)) rfl
set_option maxRecDepth 100000 in
theorem kcX0_signings : Cond.code yX0_signings cX0_signings 3 (some .int) ∈ zgt := zgt_in (zt4 (List.mem_of_getElem? (i := 95) rfl)) rfl
set_option maxRecDepth 100000 in
theorem knX0_signings : Cond.instanceMethod yX0_signings ∈ zgt := zgt_in (zt4 (List.mem_of_getElem? (i := 93) rfl)) rfl
set_option maxRecDepth 100000 in
theorem ksX0_signings : Cond.selects RX0 yX0_signings yX0_signings ∈ zgt := zgt_in (zt4 (List.mem_of_getElem? (i := 94) rfl)) rfl
set_option maxRecDepth 100000 in
theorem kcX0_feudTwos : Cond.code yX0_feudTwos cX0_feudTwos 3 (some .int) ∈ zgt := zgt_in (zt4 (List.mem_of_getElem? (i := 99) rfl)) rfl
set_option maxRecDepth 100000 in
theorem knX0_feudTwos : Cond.instanceMethod yX0_feudTwos ∈ zgt := zgt_in (zt4 (List.mem_of_getElem? (i := 97) rfl)) rfl
set_option maxRecDepth 100000 in
theorem ksX0_feudTwos : Cond.selects RX0 yX0_feudTwos yX0_feudTwos ∈ zgt := zgt_in (zt4 (List.mem_of_getElem? (i := 98) rfl)) rfl
set_option maxRecDepth 100000 in
theorem kcX0_kinTwos : Cond.code yX0_kinTwos cX0_kinTwos 3 (some .int) ∈ zgt := zgt_in (zt4 (List.mem_of_getElem? (i := 10) rfl)) rfl
set_option maxRecDepth 100000 in
theorem knX0_kinTwos : Cond.instanceMethod yX0_kinTwos ∈ zgt := zgt_in (zt4 (List.mem_of_getElem? (i := 8) rfl)) rfl
set_option maxRecDepth 100000 in
theorem ksX0_kinTwos : Cond.selects RX0 yX0_kinTwos yX0_kinTwos ∈ zgt := zgt_in (zt4 (List.mem_of_getElem? (i := 9) rfl)) rfl
set_option maxRecDepth 100000 in
theorem kcX1_init : Cond.code yX1_init cX1_init 1 none ∈ zgt := zgt_in (zt1 (List.mem_of_getElem? (i := 71) rfl)) rfl
set_option maxRecDepth 100000 in
theorem knX1_init : Cond.instanceMethod yX1_init ∈ zgt := zgt_in (zt1 (List.mem_of_getElem? (i := 70) rfl)) rfl
set_option maxRecDepth 100000 in
theorem kcX1_isFull : Cond.code yX1_isFull cX1_isFull 1 (some .boolean) ∈ zgt := zgt_in (zt1 (List.mem_of_getElem? (i := 213) rfl)) rfl
set_option maxRecDepth 100000 in
theorem knX1_isFull : Cond.instanceMethod yX1_isFull ∈ zgt := zgt_in (zt1 (List.mem_of_getElem? (i := 211) rfl)) rfl
set_option maxRecDepth 100000 in
theorem ksX1_isFull : Cond.selects RX1 yX1_isFull yX1_isFull ∈ zgt := zgt_in (zt1 (List.mem_of_getElem? (i := 212) rfl)) rfl
set_option maxRecDepth 100000 in
theorem kcX1_add : Cond.code yX1_add cX1_add 2 none ∈ zgt := zgt_in (zt1 (List.mem_of_getElem? (i := 224) rfl)) rfl
set_option maxRecDepth 100000 in
theorem knX1_add : Cond.instanceMethod yX1_add ∈ zgt := zgt_in (zt1 (List.mem_of_getElem? (i := 222) rfl)) rfl
set_option maxRecDepth 100000 in
theorem ksX1_add : Cond.selects RX1 yX1_add yX1_add ∈ zgt := zgt_in (zt1 (List.mem_of_getElem? (i := 223) rfl)) rfl
set_option maxRecDepth 100000 in
theorem kcX1_drop : Cond.code yX1_drop cX1_drop 1 none ∈ zgt := zgt_in (zt2 (List.mem_of_getElem? (i := 201) rfl)) rfl
set_option maxRecDepth 100000 in
theorem knX1_drop : Cond.instanceMethod yX1_drop ∈ zgt := zgt_in (zt2 (List.mem_of_getElem? (i := 199) rfl)) rfl
set_option maxRecDepth 100000 in
theorem ksX1_drop : Cond.selects RX1 yX1_drop yX1_drop ∈ zgt := zgt_in (zt2 (List.mem_of_getElem? (i := 200) rfl)) rfl
set_option maxRecDepth 100000 in
theorem kcX1_at : Cond.code yX1_at cX1_at 2 (some .int) ∈ zgt := zgt_in (zt2 (List.mem_of_getElem? (i := 1) rfl)) rfl
set_option maxRecDepth 100000 in
theorem knX1_at : Cond.instanceMethod yX1_at ∈ zgt := zgt_in (zt2 (List.mem_of_getElem? (i := 0) rfl)) rfl
set_option maxRecDepth 100000 in
theorem ksX1_at : Cond.selects RX1 yX1_at yX1_at ∈ zgt := zgt_in (zt0 (List.mem_of_getElem? (i := 2) rfl)) rfl
set_option maxRecDepth 100000 in
theorem kcX1_badForm : Cond.code yX1_badForm cX1_badForm 4 (some .int) ∈ zgt := zgt_in (zt1 (List.mem_of_getElem? (i := 233) rfl)) rfl
set_option maxRecDepth 100000 in
theorem knX1_badForm : Cond.instanceMethod yX1_badForm ∈ zgt := zgt_in (zt1 (List.mem_of_getElem? (i := 231) rfl)) rfl
set_option maxRecDepth 100000 in
theorem ksX1_badForm : Cond.selects RX1 yX1_badForm yX1_badForm ∈ zgt := zgt_in (zt1 (List.mem_of_getElem? (i := 232) rfl)) rfl
set_option maxRecDepth 100000 in
theorem kcX1_lengthFrom : Cond.code yX1_lengthFrom cX1_lengthFrom 2 (some .int) ∈ zgt := zgt_in (zt1 (List.mem_of_getElem? (i := 237) rfl)) rfl
set_option maxRecDepth 100000 in
theorem knX1_lengthFrom : Cond.instanceMethod yX1_lengthFrom ∈ zgt := zgt_in (zt1 (List.mem_of_getElem? (i := 236) rfl)) rfl
set_option maxRecDepth 100000 in
theorem ksX1_lengthFrom : Cond.selects RX1 yX1_lengthFrom yX1_lengthFrom ∈ zgt := zgt_in (zt0 (List.mem_of_getElem? (i := 1) rfl)) rfl
set_option maxRecDepth 100000 in
theorem kcX1_badWithin : Cond.code yX1_badWithin cX1_badWithin 6 (some .int) ∈ zgt := zgt_in (zt2 (List.mem_of_getElem? (i := 5) rfl)) rfl
set_option maxRecDepth 100000 in
theorem knX1_badWithin : Cond.instanceMethod yX1_badWithin ∈ zgt := zgt_in (zt2 (List.mem_of_getElem? (i := 4) rfl)) rfl
set_option maxRecDepth 100000 in
theorem ksX1_badWithin : Cond.selects RX1 yX1_badWithin yX1_badWithin ∈ zgt := zgt_in (zt0 (List.mem_of_getElem? (i := 3) rfl)) rfl
set_option maxRecDepth 100000 in
theorem kcX1_kindAt : Cond.code yX1_kindAt cX1_kindAt 3 (some .int) ∈ zgt := zgt_in (zt2 (List.mem_of_getElem? (i := 9) rfl)) rfl
set_option maxRecDepth 100000 in
theorem knX1_kindAt : Cond.instanceMethod yX1_kindAt ∈ zgt := zgt_in (zt2 (List.mem_of_getElem? (i := 8) rfl)) rfl
set_option maxRecDepth 100000 in
theorem ksX1_kindAt : Cond.selects RX1 yX1_kindAt yX1_kindAt ∈ zgt := zgt_in (zt0 (List.mem_of_getElem? (i := 4) rfl)) rfl
set_option maxRecDepth 100000 in
theorem kcX1_isDigit : Cond.code yX1_isDigit cX1_isDigit 1 (some .boolean) ∈ zgt := zgt_in (zt2 (List.mem_of_getElem? (i := 99) rfl)) rfl
set_option maxRecDepth 100000 in
theorem ktX1_isDigit : Cond.static yX1_isDigit ∈ zgt := zgt_in (zt2 (List.mem_of_getElem? (i := 98) rfl)) rfl
set_option maxRecDepth 100000 in
theorem kcX1_digitAt : Cond.code yX1_digitAt cX1_digitAt 2 (some .int) ∈ zgt := zgt_in (zt2 (List.mem_of_getElem? (i := 118) rfl)) rfl
set_option maxRecDepth 100000 in
theorem knX1_digitAt : Cond.instanceMethod yX1_digitAt ∈ zgt := zgt_in (zt2 (List.mem_of_getElem? (i := 117) rfl)) rfl
set_option maxRecDepth 100000 in
theorem ksX1_digitAt : Cond.selects RX1 yX1_digitAt yX1_digitAt ∈ zgt := zgt_in (zt0 (List.mem_of_getElem? (i := 6) rfl)) rfl
set_option maxRecDepth 100000 in
theorem kcX1_numberAt : Cond.code yX1_numberAt cX1_numberAt 2 (some .int) ∈ zgt := zgt_in (zt2 (List.mem_of_getElem? (i := 122) rfl)) rfl
set_option maxRecDepth 100000 in
theorem knX1_numberAt : Cond.instanceMethod yX1_numberAt ∈ zgt := zgt_in (zt2 (List.mem_of_getElem? (i := 121) rfl)) rfl
set_option maxRecDepth 100000 in
theorem ksX1_numberAt : Cond.selects RX1 yX1_numberAt yX1_numberAt ∈ zgt := zgt_in (zt0 (List.mem_of_getElem? (i := 7) rfl)) rfl
set_option maxRecDepth 100000 in
theorem kcX1_tellAll : Cond.code yX1_tellAll cX1_tellAll 5 (some .int) ∈ zgt := zgt_in (zt2 (List.mem_of_getElem? (i := 110) rfl)) rfl
set_option maxRecDepth 100000 in
theorem knX1_tellAll : Cond.instanceMethod yX1_tellAll ∈ zgt := zgt_in (zt2 (List.mem_of_getElem? (i := 108) rfl)) rfl
set_option maxRecDepth 100000 in
theorem ksX1_tellAll : Cond.selects RX1 yX1_tellAll yX1_tellAll ∈ zgt := zgt_in (zt2 (List.mem_of_getElem? (i := 109) rfl)) rfl
set_option maxRecDepth 100000 in
theorem kcX1_tellOne : Cond.code yX1_tellOne cX1_tellOne 5 (some .boolean) ∈ zgt := zgt_in (zt2 (List.mem_of_getElem? (i := 114) rfl)) rfl
set_option maxRecDepth 100000 in
theorem knX1_tellOne : Cond.instanceMethod yX1_tellOne ∈ zgt := zgt_in (zt2 (List.mem_of_getElem? (i := 113) rfl)) rfl
set_option maxRecDepth 100000 in
theorem ksX1_tellOne : Cond.selects RX1 yX1_tellOne yX1_tellOne ∈ zgt := zgt_in (zt0 (List.mem_of_getElem? (i := 5) rfl)) rfl
set_option maxRecDepth 100000 in
theorem kcX2_init : Cond.code yX2_init cX2_init 2 none ∈ zgt := zgt_in (zt1 (List.mem_of_getElem? (i := 133) rfl)) rfl
set_option maxRecDepth 100000 in
theorem knX2_init : Cond.instanceMethod yX2_init ∈ zgt := zgt_in (zt1 (List.mem_of_getElem? (i := 132) rfl)) rfl
set_option maxRecDepth 100000 in
theorem kcX2_goodWays : Cond.code yX2_goodWays cX2_goodWays 7 (some .long) ∈ zgt := zgt_in (zt4 (List.mem_of_getElem? (i := 23) rfl)) rfl
set_option maxRecDepth 100000 in
theorem knX2_goodWays : Cond.instanceMethod yX2_goodWays ∈ zgt := zgt_in (zt4 (List.mem_of_getElem? (i := 21) rfl)) rfl
set_option maxRecDepth 100000 in
theorem ksX2_goodWays : Cond.selects RX2 yX2_goodWays yX2_goodWays ∈ zgt := zgt_in (zt4 (List.mem_of_getElem? (i := 22) rfl)) rfl
set_option maxRecDepth 100000 in
theorem kcX2_allWays : Cond.code yX2_allWays cX2_allWays 5 (some .long) ∈ zgt := zgt_in (zt4 (List.mem_of_getElem? (i := 33) rfl)) rfl
set_option maxRecDepth 100000 in
theorem ktX2_allWays : Cond.static yX2_allWays ∈ zgt := zgt_in (zt4 (List.mem_of_getElem? (i := 32) rfl)) rfl
set_option maxRecDepth 100000 in
theorem kcX2_waysFrom : Cond.code yX2_waysFrom cX2_waysFrom 6 (some .long) ∈ zgt := zgt_in (zt4 (List.mem_of_getElem? (i := 28) rfl)) rfl
set_option maxRecDepth 100000 in
theorem knX2_waysFrom : Cond.instanceMethod yX2_waysFrom ∈ zgt := zgt_in (zt4 (List.mem_of_getElem? (i := 27) rfl)) rfl
set_option maxRecDepth 100000 in
theorem ksX2_waysFrom : Cond.selects RX2 yX2_waysFrom yX2_waysFrom ∈ zgt := zgt_in (zt0 (List.mem_of_getElem? (i := 26) rfl)) rfl
set_option maxRecDepth 100000 in
theorem kcX3_init : Cond.code yX3_init cX3_init 1 none ∈ zgt := zgt_in (zt1 (List.mem_of_getElem? (i := 114) rfl)) rfl
set_option maxRecDepth 100000 in
theorem knX3_init : Cond.instanceMethod yX3_init ∈ zgt := zgt_in (zt1 (List.mem_of_getElem? (i := 113) rfl)) rfl
set_option maxRecDepth 100000 in
theorem kcX3_pairAll : Cond.code yX3_pairAll cX3_pairAll 5 (some .int) ∈ zgt := zgt_in (zt3 (List.mem_of_getElem? (i := 208) rfl)) rfl
set_option maxRecDepth 100000 in
theorem knX3_pairAll : Cond.instanceMethod yX3_pairAll ∈ zgt := zgt_in (zt3 (List.mem_of_getElem? (i := 206) rfl)) rfl
set_option maxRecDepth 100000 in
theorem ksX3_pairAll : Cond.selects RX3 yX3_pairAll yX3_pairAll ∈ zgt := zgt_in (zt3 (List.mem_of_getElem? (i := 207) rfl)) rfl
set_option maxRecDepth 100000 in
theorem kcX3_fitting : Cond.code yX3_fitting cX3_fitting 6 (some .int) ∈ zgt := zgt_in (zt3 (List.mem_of_getElem? (i := 211) rfl)) rfl
set_option maxRecDepth 100000 in
theorem ktX3_fitting : Cond.static yX3_fitting ∈ zgt := zgt_in (zt3 (List.mem_of_getElem? (i := 210) rfl)) rfl
set_option maxRecDepth 100000 in
theorem kcX3_mostOf : Cond.code yX3_mostOf cX3_mostOf 6 (some .int) ∈ zgt := zgt_in (zt3 (List.mem_of_getElem? (i := 219) rfl)) rfl
set_option maxRecDepth 100000 in
theorem knX3_mostOf : Cond.instanceMethod yX3_mostOf ∈ zgt := zgt_in (zt3 (List.mem_of_getElem? (i := 218) rfl)) rfl
set_option maxRecDepth 100000 in
theorem ksX3_mostOf : Cond.selects RX3 yX3_mostOf yX3_mostOf ∈ zgt := zgt_in (zt0 (List.mem_of_getElem? (i := 22) rfl)) rfl
set_option maxRecDepth 100000 in
theorem kcX3_leastIn : Cond.code yX3_leastIn cX3_leastIn 3 (some .int) ∈ zgt := zgt_in (zt3 (List.mem_of_getElem? (i := 223) rfl)) rfl
set_option maxRecDepth 100000 in
theorem knX3_leastIn : Cond.instanceMethod yX3_leastIn ∈ zgt := zgt_in (zt3 (List.mem_of_getElem? (i := 222) rfl)) rfl
set_option maxRecDepth 100000 in
theorem ksX3_leastIn : Cond.selects RX3 yX3_leastIn yX3_leastIn ∈ zgt := zgt_in (zt0 (List.mem_of_getElem? (i := 23) rfl)) rfl
set_option maxRecDepth 100000 in
theorem kcX3_choose : Cond.code yX3_choose cX3_choose 5 none ∈ zgt := zgt_in (zt3 (List.mem_of_getElem? (i := 229) rfl)) rfl
set_option maxRecDepth 100000 in
theorem knX3_choose : Cond.instanceMethod yX3_choose ∈ zgt := zgt_in (zt3 (List.mem_of_getElem? (i := 228) rfl)) rfl
set_option maxRecDepth 100000 in
theorem ksX3_choose : Cond.selects RX3 yX3_choose yX3_choose ∈ zgt := zgt_in (zt0 (List.mem_of_getElem? (i := 24) rfl)) rfl
set_option maxRecDepth 100000 in
theorem kcX3_leastPartner : Cond.code yX3_leastPartner cX3_leastPartner 5 (some .int) ∈ zgt := zgt_in (zt3 (List.mem_of_getElem? (i := 234) rfl)) rfl
set_option maxRecDepth 100000 in
theorem knX3_leastPartner : Cond.instanceMethod yX3_leastPartner ∈ zgt := zgt_in (zt3 (List.mem_of_getElem? (i := 233) rfl)) rfl
set_option maxRecDepth 100000 in
theorem ksX3_leastPartner : Cond.selects RX3 yX3_leastPartner yX3_leastPartner ∈ zgt := zgt_in (zt0 (List.mem_of_getElem? (i := 25) rfl)) rfl
set_option maxRecDepth 100000 in
theorem kcX3_partnerOf : Cond.code yX3_partnerOf cX3_partnerOf 2 (some .int) ∈ zgt := zgt_in (zt3 (List.mem_of_getElem? (i := 238) rfl)) rfl
set_option maxRecDepth 100000 in
theorem knX3_partnerOf : Cond.instanceMethod yX3_partnerOf ∈ zgt := zgt_in (zt3 (List.mem_of_getElem? (i := 236) rfl)) rfl
set_option maxRecDepth 100000 in
theorem ksX3_partnerOf : Cond.selects RX3 yX3_partnerOf yX3_partnerOf ∈ zgt := zgt_in (zt3 (List.mem_of_getElem? (i := 237) rfl)) rfl
set_option maxRecDepth 100000 in
theorem kcX4_init : Cond.code yX4_init cX4_init 1 none ∈ zgt := zgt_in (zt1 (List.mem_of_getElem? (i := 98) rfl)) rfl
set_option maxRecDepth 100000 in
theorem knX4_init : Cond.instanceMethod yX4_init ∈ zgt := zgt_in (zt1 (List.mem_of_getElem? (i := 97) rfl)) rfl
set_option maxRecDepth 100000 in
theorem kcX4_seatAll : Cond.code yX4_seatAll cX4_seatAll 3 (some .int) ∈ zgt := zgt_in (zt3 (List.mem_of_getElem? (i := 186) rfl)) rfl
set_option maxRecDepth 100000 in
theorem knX4_seatAll : Cond.instanceMethod yX4_seatAll ∈ zgt := zgt_in (zt3 (List.mem_of_getElem? (i := 184) rfl)) rfl
set_option maxRecDepth 100000 in
theorem ksX4_seatAll : Cond.selects RX4 yX4_seatAll yX4_seatAll ∈ zgt := zgt_in (zt3 (List.mem_of_getElem? (i := 185) rfl)) rfl
set_option maxRecDepth 100000 in
theorem kcX4_seatFrom : Cond.code yX4_seatFrom cX4_seatFrom 5 (some .boolean) ∈ zgt := zgt_in (zt3 (List.mem_of_getElem? (i := 194) rfl)) rfl
set_option maxRecDepth 100000 in
theorem knX4_seatFrom : Cond.instanceMethod yX4_seatFrom ∈ zgt := zgt_in (zt3 (List.mem_of_getElem? (i := 193) rfl)) rfl
set_option maxRecDepth 100000 in
theorem ksX4_seatFrom : Cond.selects RX4 yX4_seatFrom yX4_seatFrom ∈ zgt := zgt_in (zt0 (List.mem_of_getElem? (i := 21) rfl)) rfl
set_option maxRecDepth 100000 in
theorem kcX4_roomOf : Cond.code yX4_roomOf cX4_roomOf 3 (some .int) ∈ zgt := zgt_in (zt3 (List.mem_of_getElem? (i := 199) rfl)) rfl
set_option maxRecDepth 100000 in
theorem knX4_roomOf : Cond.instanceMethod yX4_roomOf ∈ zgt := zgt_in (zt3 (List.mem_of_getElem? (i := 197) rfl)) rfl
set_option maxRecDepth 100000 in
theorem ksX4_roomOf : Cond.selects RX4 yX4_roomOf yX4_roomOf ∈ zgt := zgt_in (zt3 (List.mem_of_getElem? (i := 198) rfl)) rfl
set_option maxRecDepth 100000 in
theorem kcX5_init : Cond.code yX5_init cX5_init 1 none ∈ zgt := zgt_in (zt1 (List.mem_of_getElem? (i := 85) rfl)) rfl
set_option maxRecDepth 100000 in
theorem knX5_init : Cond.instanceMethod yX5_init ∈ zgt := zgt_in (zt1 (List.mem_of_getElem? (i := 84) rfl)) rfl
set_option maxRecDepth 100000 in
theorem kcX5_read : Cond.code yX5_read cX5_read 3 none ∈ zgt := zgt_in (zt3 (List.mem_of_getElem? (i := 77) rfl)) rfl
set_option maxRecDepth 100000 in
theorem knX5_read : Cond.instanceMethod yX5_read ∈ zgt := zgt_in (zt3 (List.mem_of_getElem? (i := 75) rfl)) rfl
set_option maxRecDepth 100000 in
theorem ksX5_read : Cond.selects RX5 yX5_read yX5_read ∈ zgt := zgt_in (zt3 (List.mem_of_getElem? (i := 76) rfl)) rfl
set_option maxRecDepth 100000 in
theorem kcX5_spread : Cond.code yX5_spread cX5_spread 4 (some .int) ∈ zgt := zgt_in (zt3 (List.mem_of_getElem? (i := 86) rfl)) rfl
set_option maxRecDepth 100000 in
theorem knX5_spread : Cond.instanceMethod yX5_spread ∈ zgt := zgt_in (zt3 (List.mem_of_getElem? (i := 85) rfl)) rfl
set_option maxRecDepth 100000 in
theorem ksX5_spread : Cond.selects RX5 yX5_spread yX5_spread ∈ zgt := zgt_in (zt0 (List.mem_of_getElem? (i := 14) rfl)) rfl
set_option maxRecDepth 100000 in
theorem kcX5_steps : Cond.code yX5_steps cX5_steps 5 (some .int) ∈ zgt := zgt_in (zt3 (List.mem_of_getElem? (i := 95) rfl)) rfl
set_option maxRecDepth 100000 in
theorem knX5_steps : Cond.instanceMethod yX5_steps ∈ zgt := zgt_in (zt3 (List.mem_of_getElem? (i := 93) rfl)) rfl
set_option maxRecDepth 100000 in
theorem ksX5_steps : Cond.selects RX5 yX5_steps yX5_steps ∈ zgt := zgt_in (zt3 (List.mem_of_getElem? (i := 94) rfl)) rfl
set_option maxRecDepth 100000 in
theorem kcX5_reachOf : Cond.code yX5_reachOf cX5_reachOf 4 (some .int) ∈ zgt := zgt_in (zt3 (List.mem_of_getElem? (i := 82) rfl)) rfl
set_option maxRecDepth 100000 in
theorem knX5_reachOf : Cond.instanceMethod yX5_reachOf ∈ zgt := zgt_in (zt3 (List.mem_of_getElem? (i := 80) rfl)) rfl
set_option maxRecDepth 100000 in
theorem ksX5_reachOf : Cond.selects RX5 yX5_reachOf yX5_reachOf ∈ zgt := zgt_in (zt3 (List.mem_of_getElem? (i := 81) rfl)) rfl
set_option maxRecDepth 100000 in
theorem kcX5_howManyGroups : Cond.code yX5_howManyGroups cX5_howManyGroups 4 (some .int) ∈ zgt := zgt_in (zt3 (List.mem_of_getElem? (i := 107) rfl)) rfl
set_option maxRecDepth 100000 in
theorem knX5_howManyGroups : Cond.instanceMethod yX5_howManyGroups ∈ zgt := zgt_in (zt3 (List.mem_of_getElem? (i := 105) rfl)) rfl
set_option maxRecDepth 100000 in
theorem ksX5_howManyGroups : Cond.selects RX5 yX5_howManyGroups yX5_howManyGroups ∈ zgt := zgt_in (zt3 (List.mem_of_getElem? (i := 106) rfl)) rfl
set_option maxRecDepth 100000 in
theorem kcX5_mostInGroup : Cond.code yX5_mostInGroup cX5_mostInGroup 3 (some .int) ∈ zgt := zgt_in (zt3 (List.mem_of_getElem? (i := 112) rfl)) rfl
set_option maxRecDepth 100000 in
theorem knX5_mostInGroup : Cond.instanceMethod yX5_mostInGroup ∈ zgt := zgt_in (zt3 (List.mem_of_getElem? (i := 110) rfl)) rfl
set_option maxRecDepth 100000 in
theorem ksX5_mostInGroup : Cond.selects RX5 yX5_mostInGroup yX5_mostInGroup ∈ zgt := zgt_in (zt3 (List.mem_of_getElem? (i := 111) rfl)) rfl
set_option maxRecDepth 100000 in
theorem kcX5_threes : Cond.code yX5_threes cX5_threes 4 (some .int) ∈ zgt := zgt_in (zt3 (List.mem_of_getElem? (i := 118) rfl)) rfl
set_option maxRecDepth 100000 in
theorem knX5_threes : Cond.instanceMethod yX5_threes ∈ zgt := zgt_in (zt3 (List.mem_of_getElem? (i := 116) rfl)) rfl
set_option maxRecDepth 100000 in
theorem ksX5_threes : Cond.selects RX5 yX5_threes yX5_threes ∈ zgt := zgt_in (zt3 (List.mem_of_getElem? (i := 117) rfl)) rfl
set_option maxRecDepth 100000 in
theorem kcX5_greatestClan : Cond.code yX5_greatestClan cX5_greatestClan 4 (some .int) ∈ zgt := zgt_in (zt3 (List.mem_of_getElem? (i := 126) rfl)) rfl
set_option maxRecDepth 100000 in
theorem knX5_greatestClan : Cond.instanceMethod yX5_greatestClan ∈ zgt := zgt_in (zt3 (List.mem_of_getElem? (i := 124) rfl)) rfl
set_option maxRecDepth 100000 in
theorem ksX5_greatestClan : Cond.selects RX5 yX5_greatestClan yX5_greatestClan ∈ zgt := zgt_in (zt3 (List.mem_of_getElem? (i := 125) rfl)) rfl
set_option maxRecDepth 100000 in
theorem kcX5_isClan : Cond.code yX5_isClan cX5_isClan 3 (some .boolean) ∈ zgt := zgt_in (zt3 (List.mem_of_getElem? (i := 130) rfl)) rfl
set_option maxRecDepth 100000 in
theorem knX5_isClan : Cond.instanceMethod yX5_isClan ∈ zgt := zgt_in (zt3 (List.mem_of_getElem? (i := 129) rfl)) rfl
set_option maxRecDepth 100000 in
theorem ksX5_isClan : Cond.selects RX5 yX5_isClan yX5_isClan ∈ zgt := zgt_in (zt0 (List.mem_of_getElem? (i := 15) rfl)) rfl
set_option maxRecDepth 100000 in
theorem kcX6_init : Cond.code yX6_init cX6_init 1 none ∈ zgt := zgt_in (zt1 (List.mem_of_getElem? (i := 22) rfl)) rfl
set_option maxRecDepth 100000 in
theorem knX6_init : Cond.instanceMethod yX6_init ∈ zgt := zgt_in (zt1 (List.mem_of_getElem? (i := 21) rfl)) rfl
set_option maxRecDepth 100000 in
theorem kcX6_letter : Cond.code yX6_letter cX6_letter 3 (some .int) ∈ zgt := zgt_in (zt1 (List.mem_of_getElem? (i := 206) rfl)) rfl
set_option maxRecDepth 100000 in
theorem knX6_letter : Cond.instanceMethod yX6_letter ∈ zgt := zgt_in (zt1 (List.mem_of_getElem? (i := 204) rfl)) rfl
set_option maxRecDepth 100000 in
theorem ksX6_letter : Cond.selects RX6 yX6_letter yX6_letter ∈ zgt := zgt_in (zt1 (List.mem_of_getElem? (i := 205) rfl)) rfl
set_option maxRecDepth 100000 in
theorem kcX6_county : Cond.code yX6_county cX6_county 3 (some .int) ∈ zgt := zgt_in (zt1 (List.mem_of_getElem? (i := 229) rfl)) rfl
set_option maxRecDepth 100000 in
theorem knX6_county : Cond.instanceMethod yX6_county ∈ zgt := zgt_in (zt1 (List.mem_of_getElem? (i := 227) rfl)) rfl
set_option maxRecDepth 100000 in
theorem ksX6_county : Cond.selects RX6 yX6_county yX6_county ∈ zgt := zgt_in (zt1 (List.mem_of_getElem? (i := 228) rfl)) rfl
set_option maxRecDepth 100000 in
theorem kcX6_person : Cond.code yX6_person cX6_person 4 (some .int) ∈ zgt := zgt_in (zt2 (List.mem_of_getElem? (i := 206) rfl)) rfl
set_option maxRecDepth 100000 in
theorem knX6_person : Cond.instanceMethod yX6_person ∈ zgt := zgt_in (zt2 (List.mem_of_getElem? (i := 204) rfl)) rfl
set_option maxRecDepth 100000 in
theorem ksX6_person : Cond.selects RX6 yX6_person yX6_person ∈ zgt := zgt_in (zt2 (List.mem_of_getElem? (i := 205) rfl)) rfl
set_option maxRecDepth 100000 in
theorem kcX6_tie : Cond.code yX6_tie cX6_tie 5 (some .int) ∈ zgt := zgt_in (zt2 (List.mem_of_getElem? (i := 225) rfl)) rfl
set_option maxRecDepth 100000 in
theorem knX6_tie : Cond.instanceMethod yX6_tie ∈ zgt := zgt_in (zt2 (List.mem_of_getElem? (i := 223) rfl)) rfl
set_option maxRecDepth 100000 in
theorem ksX6_tie : Cond.selects RX6 yX6_tie yX6_tie ∈ zgt := zgt_in (zt2 (List.mem_of_getElem? (i := 224) rfl)) rfl
set_option maxRecDepth 100000 in
theorem kcX6_signs : Cond.code yX6_signs cX6_signs 4 (some .int) ∈ zgt := zgt_in (zt3 (List.mem_of_getElem? (i := 4) rfl)) rfl
set_option maxRecDepth 100000 in
theorem knX6_signs : Cond.instanceMethod yX6_signs ∈ zgt := zgt_in (zt3 (List.mem_of_getElem? (i := 2) rfl)) rfl
set_option maxRecDepth 100000 in
theorem ksX6_signs : Cond.selects RX6 yX6_signs yX6_signs ∈ zgt := zgt_in (zt3 (List.mem_of_getElem? (i := 3) rfl)) rfl
set_option maxRecDepth 100000 in
theorem kcX6_feuds : Cond.code yX6_feuds cX6_feuds 4 (some .int) ∈ zgt := zgt_in (zt3 (List.mem_of_getElem? (i := 9) rfl)) rfl
set_option maxRecDepth 100000 in
theorem knX6_feuds : Cond.instanceMethod yX6_feuds ∈ zgt := zgt_in (zt3 (List.mem_of_getElem? (i := 7) rfl)) rfl
set_option maxRecDepth 100000 in
theorem ksX6_feuds : Cond.selects RX6 yX6_feuds yX6_feuds ∈ zgt := zgt_in (zt3 (List.mem_of_getElem? (i := 8) rfl)) rfl
set_option maxRecDepth 100000 in
theorem kcX6_gets : Cond.code yX6_gets cX6_gets 5 (some .int) ∈ zgt := zgt_in (zt3 (List.mem_of_getElem? (i := 14) rfl)) rfl
set_option maxRecDepth 100000 in
theorem knX6_gets : Cond.instanceMethod yX6_gets ∈ zgt := zgt_in (zt3 (List.mem_of_getElem? (i := 12) rfl)) rfl
set_option maxRecDepth 100000 in
theorem ksX6_gets : Cond.selects RX6 yX6_gets yX6_gets ∈ zgt := zgt_in (zt3 (List.mem_of_getElem? (i := 13) rfl)) rfl
set_option maxRecDepth 100000 in
theorem kcX6_turn : Cond.code yX6_turn cX6_turn 6 (some .int) ∈ zgt := zgt_in (zt3 (List.mem_of_getElem? (i := 18) rfl)) rfl
set_option maxRecDepth 100000 in
theorem knX6_turn : Cond.instanceMethod yX6_turn ∈ zgt := zgt_in (zt3 (List.mem_of_getElem? (i := 16) rfl)) rfl
set_option maxRecDepth 100000 in
theorem ksX6_turn : Cond.selects RX6 yX6_turn yX6_turn ∈ zgt := zgt_in (zt3 (List.mem_of_getElem? (i := 17) rfl)) rfl
set_option maxRecDepth 100000 in
theorem kcX6_years : Cond.code yX6_years cX6_years 3 (some .int) ∈ zgt := zgt_in (zt3 (List.mem_of_getElem? (i := 22) rfl)) rfl
set_option maxRecDepth 100000 in
theorem knX6_years : Cond.instanceMethod yX6_years ∈ zgt := zgt_in (zt3 (List.mem_of_getElem? (i := 20) rfl)) rfl
set_option maxRecDepth 100000 in
theorem ksX6_years : Cond.selects RX6 yX6_years yX6_years ∈ zgt := zgt_in (zt3 (List.mem_of_getElem? (i := 21) rfl)) rfl
set_option maxRecDepth 100000 in
theorem kcX6_hasThen : Cond.code yX6_hasThen cX6_hasThen 5 (some .int) ∈ zgt := zgt_in (zt3 (List.mem_of_getElem? (i := 32) rfl)) rfl
set_option maxRecDepth 100000 in
theorem knX6_hasThen : Cond.instanceMethod yX6_hasThen ∈ zgt := zgt_in (zt3 (List.mem_of_getElem? (i := 30) rfl)) rfl
set_option maxRecDepth 100000 in
theorem ksX6_hasThen : Cond.selects RX6 yX6_hasThen yX6_hasThen ∈ zgt := zgt_in (zt3 (List.mem_of_getElem? (i := 31) rfl)) rfl
set_option maxRecDepth 100000 in
theorem kcX6_areKin : Cond.code yX6_areKin cX6_areKin 5 (some .int) ∈ zgt := zgt_in (zt3 (List.mem_of_getElem? (i := 40) rfl)) rfl
set_option maxRecDepth 100000 in
theorem knX6_areKin : Cond.instanceMethod yX6_areKin ∈ zgt := zgt_in (zt3 (List.mem_of_getElem? (i := 38) rfl)) rfl
set_option maxRecDepth 100000 in
theorem ksX6_areKin : Cond.selects RX6 yX6_areKin yX6_areKin ∈ zgt := zgt_in (zt3 (List.mem_of_getElem? (i := 39) rfl)) rfl
set_option maxRecDepth 100000 in
theorem kcX6_allMoney : Cond.code yX6_allMoney cX6_allMoney 3 (some .int) ∈ zgt := zgt_in (zt3 (List.mem_of_getElem? (i := 44) rfl)) rfl
set_option maxRecDepth 100000 in
theorem knX6_allMoney : Cond.instanceMethod yX6_allMoney ∈ zgt := zgt_in (zt3 (List.mem_of_getElem? (i := 42) rfl)) rfl
set_option maxRecDepth 100000 in
theorem ksX6_allMoney : Cond.selects RX6 yX6_allMoney yX6_allMoney ∈ zgt := zgt_in (zt3 (List.mem_of_getElem? (i := 43) rfl)) rfl
set_option maxRecDepth 100000 in
theorem kcX6_ruined : Cond.code yX6_ruined cX6_ruined 4 (some .int) ∈ zgt := zgt_in (zt3 (List.mem_of_getElem? (i := 48) rfl)) rfl
set_option maxRecDepth 100000 in
theorem knX6_ruined : Cond.instanceMethod yX6_ruined ∈ zgt := zgt_in (zt3 (List.mem_of_getElem? (i := 46) rfl)) rfl
set_option maxRecDepth 100000 in
theorem ksX6_ruined : Cond.selects RX6 yX6_ruined yX6_ruined ∈ zgt := zgt_in (zt3 (List.mem_of_getElem? (i := 47) rfl)) rfl
set_option maxRecDepth 100000 in
theorem kcX6_first : Cond.code yX6_first cX6_first 3 (some .int) ∈ zgt := zgt_in (zt3 (List.mem_of_getElem? (i := 53) rfl)) rfl
set_option maxRecDepth 100000 in
theorem knX6_first : Cond.instanceMethod yX6_first ∈ zgt := zgt_in (zt3 (List.mem_of_getElem? (i := 51) rfl)) rfl
set_option maxRecDepth 100000 in
theorem ksX6_first : Cond.selects RX6 yX6_first yX6_first ∈ zgt := zgt_in (zt3 (List.mem_of_getElem? (i := 52) rfl)) rfl
set_option maxRecDepth 100000 in
theorem kcX6_richest : Cond.code yX6_richest cX6_richest 6 (some .int) ∈ zgt := zgt_in (zt3 (List.mem_of_getElem? (i := 69) rfl)) rfl
set_option maxRecDepth 100000 in
theorem knX6_richest : Cond.instanceMethod yX6_richest ∈ zgt := zgt_in (zt3 (List.mem_of_getElem? (i := 67) rfl)) rfl
set_option maxRecDepth 100000 in
theorem ksX6_richest : Cond.selects RX6 yX6_richest yX6_richest ∈ zgt := zgt_in (zt3 (List.mem_of_getElem? (i := 68) rfl)) rfl
set_option maxRecDepth 100000 in
theorem kcX6_kin : Cond.code yX6_kin cX6_kin 4 (some .int) ∈ zgt := zgt_in (zt3 (List.mem_of_getElem? (i := 73) rfl)) rfl
set_option maxRecDepth 100000 in
theorem knX6_kin : Cond.instanceMethod yX6_kin ∈ zgt := zgt_in (zt3 (List.mem_of_getElem? (i := 71) rfl)) rfl
set_option maxRecDepth 100000 in
theorem ksX6_kin : Cond.selects RX6 yX6_kin yX6_kin ∈ zgt := zgt_in (zt3 (List.mem_of_getElem? (i := 72) rfl)) rfl
set_option maxRecDepth 100000 in
theorem kcX6_removed : Cond.code yX6_removed cX6_removed 4 (some .int) ∈ zgt := zgt_in (zt3 (List.mem_of_getElem? (i := 91) rfl)) rfl
set_option maxRecDepth 100000 in
theorem knX6_removed : Cond.instanceMethod yX6_removed ∈ zgt := zgt_in (zt3 (List.mem_of_getElem? (i := 89) rfl)) rfl
set_option maxRecDepth 100000 in
theorem ksX6_removed : Cond.selects RX6 yX6_removed yX6_removed ∈ zgt := zgt_in (zt3 (List.mem_of_getElem? (i := 90) rfl)) rfl
set_option maxRecDepth 100000 in
theorem kcX6_farthest : Cond.code yX6_farthest cX6_farthest 8 (some .int) ∈ zgt := zgt_in (zt3 (List.mem_of_getElem? (i := 99) rfl)) rfl
set_option maxRecDepth 100000 in
theorem knX6_farthest : Cond.instanceMethod yX6_farthest ∈ zgt := zgt_in (zt3 (List.mem_of_getElem? (i := 97) rfl)) rfl
set_option maxRecDepth 100000 in
theorem ksX6_farthest : Cond.selects RX6 yX6_farthest yX6_farthest ∈ zgt := zgt_in (zt3 (List.mem_of_getElem? (i := 98) rfl)) rfl
set_option maxRecDepth 100000 in
theorem kcX6_groups : Cond.code yX6_groups cX6_groups 3 (some .int) ∈ zgt := zgt_in (zt3 (List.mem_of_getElem? (i := 103) rfl)) rfl
set_option maxRecDepth 100000 in
theorem knX6_groups : Cond.instanceMethod yX6_groups ∈ zgt := zgt_in (zt3 (List.mem_of_getElem? (i := 101) rfl)) rfl
set_option maxRecDepth 100000 in
theorem ksX6_groups : Cond.selects RX6 yX6_groups yX6_groups ∈ zgt := zgt_in (zt3 (List.mem_of_getElem? (i := 102) rfl)) rfl
set_option maxRecDepth 100000 in
theorem kcX6_clan : Cond.code yX6_clan cX6_clan 4 (some .int) ∈ zgt := zgt_in (zt3 (List.mem_of_getElem? (i := 122) rfl)) rfl
set_option maxRecDepth 100000 in
theorem knX6_clan : Cond.instanceMethod yX6_clan ∈ zgt := zgt_in (zt3 (List.mem_of_getElem? (i := 120) rfl)) rfl
set_option maxRecDepth 100000 in
theorem ksX6_clan : Cond.selects RX6 yX6_clan yX6_clan ∈ zgt := zgt_in (zt3 (List.mem_of_getElem? (i := 121) rfl)) rfl
set_option maxRecDepth 100000 in
theorem kcX6_bestSign : Cond.code yX6_bestSign cX6_bestSign 3 (some .int) ∈ zgt := zgt_in (zt3 (List.mem_of_getElem? (i := 134) rfl)) rfl
set_option maxRecDepth 100000 in
theorem knX6_bestSign : Cond.instanceMethod yX6_bestSign ∈ zgt := zgt_in (zt3 (List.mem_of_getElem? (i := 132) rfl)) rfl
set_option maxRecDepth 100000 in
theorem ksX6_bestSign : Cond.selects RX6 yX6_bestSign yX6_bestSign ∈ zgt := zgt_in (zt3 (List.mem_of_getElem? (i := 133) rfl)) rfl
set_option maxRecDepth 100000 in
theorem kcX6_bestCut : Cond.code yX6_bestCut cX6_bestCut 3 (some .int) ∈ zgt := zgt_in (zt3 (List.mem_of_getElem? (i := 159) rfl)) rfl
set_option maxRecDepth 100000 in
theorem knX6_bestCut : Cond.instanceMethod yX6_bestCut ∈ zgt := zgt_in (zt3 (List.mem_of_getElem? (i := 157) rfl)) rfl
set_option maxRecDepth 100000 in
theorem ksX6_bestCut : Cond.selects RX6 yX6_bestCut yX6_bestCut ∈ zgt := zgt_in (zt3 (List.mem_of_getElem? (i := 158) rfl)) rfl
set_option maxRecDepth 100000 in
theorem kcX6_feudCosts : Cond.code yX6_feudCosts cX6_feudCosts 5 (some .int) ∈ zgt := zgt_in (zt3 (List.mem_of_getElem? (i := 163) rfl)) rfl
set_option maxRecDepth 100000 in
theorem knX6_feudCosts : Cond.instanceMethod yX6_feudCosts ∈ zgt := zgt_in (zt3 (List.mem_of_getElem? (i := 161) rfl)) rfl
set_option maxRecDepth 100000 in
theorem ksX6_feudCosts : Cond.selects RX6 yX6_feudCosts yX6_feudCosts ∈ zgt := zgt_in (zt3 (List.mem_of_getElem? (i := 162) rfl)) rfl
set_option maxRecDepth 100000 in
theorem kcX6_peace : Cond.code yX6_peace cX6_peace 3 (some .int) ∈ zgt := zgt_in (zt3 (List.mem_of_getElem? (i := 173) rfl)) rfl
set_option maxRecDepth 100000 in
theorem knX6_peace : Cond.instanceMethod yX6_peace ∈ zgt := zgt_in (zt3 (List.mem_of_getElem? (i := 171) rfl)) rfl
set_option maxRecDepth 100000 in
theorem ksX6_peace : Cond.selects RX6 yX6_peace yX6_peace ∈ zgt := zgt_in (zt3 (List.mem_of_getElem? (i := 172) rfl)) rfl
set_option maxRecDepth 100000 in
theorem kcX6_will : Cond.code yX6_will cX6_will 7 (some .int) ∈ zgt := zgt_in (zt3 (List.mem_of_getElem? (i := 177) rfl)) rfl
set_option maxRecDepth 100000 in
theorem knX6_will : Cond.instanceMethod yX6_will ∈ zgt := zgt_in (zt3 (List.mem_of_getElem? (i := 175) rfl)) rfl
set_option maxRecDepth 100000 in
theorem ksX6_will : Cond.selects RX6 yX6_will yX6_will ∈ zgt := zgt_in (zt3 (List.mem_of_getElem? (i := 176) rfl)) rfl
set_option maxRecDepth 100000 in
theorem kcX6_rooms : Cond.code yX6_rooms cX6_rooms 4 (some .int) ∈ zgt := zgt_in (zt3 (List.mem_of_getElem? (i := 182) rfl)) rfl
set_option maxRecDepth 100000 in
theorem knX6_rooms : Cond.instanceMethod yX6_rooms ∈ zgt := zgt_in (zt3 (List.mem_of_getElem? (i := 180) rfl)) rfl
set_option maxRecDepth 100000 in
theorem ksX6_rooms : Cond.selects RX6 yX6_rooms yX6_rooms ∈ zgt := zgt_in (zt3 (List.mem_of_getElem? (i := 181) rfl)) rfl
set_option maxRecDepth 100000 in
theorem kcX6_couples : Cond.code yX6_couples cX6_couples 5 (some .int) ∈ zgt := zgt_in (zt3 (List.mem_of_getElem? (i := 204) rfl)) rfl
set_option maxRecDepth 100000 in
theorem knX6_couples : Cond.instanceMethod yX6_couples ∈ zgt := zgt_in (zt3 (List.mem_of_getElem? (i := 202) rfl)) rfl
set_option maxRecDepth 100000 in
theorem ksX6_couples : Cond.selects RX6 yX6_couples yX6_couples ∈ zgt := zgt_in (zt3 (List.mem_of_getElem? (i := 203) rfl)) rfl
set_option maxRecDepth 100000 in
theorem kcX6_buys : Cond.code yX6_buys cX6_buys 3 (some .int) ∈ zgt := zgt_in (zt4 (List.mem_of_getElem? (i := 2) rfl)) rfl
set_option maxRecDepth 100000 in
theorem knX6_buys : Cond.instanceMethod yX6_buys ∈ zgt := zgt_in (zt4 (List.mem_of_getElem? (i := 0) rfl)) rfl
set_option maxRecDepth 100000 in
theorem ksX6_buys : Cond.selects RX6 yX6_buys yX6_buys ∈ zgt := zgt_in (zt4 (List.mem_of_getElem? (i := 1) rfl)) rfl
set_option maxRecDepth 100000 in
theorem kcX6_matters : Cond.code yX6_matters cX6_matters 8 (some .int) ∈ zgt := zgt_in (zt4 (List.mem_of_getElem? (i := 6) rfl)) rfl
set_option maxRecDepth 100000 in
theorem knX6_matters : Cond.instanceMethod yX6_matters ∈ zgt := zgt_in (zt4 (List.mem_of_getElem? (i := 4) rfl)) rfl
set_option maxRecDepth 100000 in
theorem ksX6_matters : Cond.selects RX6 yX6_matters yX6_matters ∈ zgt := zgt_in (zt4 (List.mem_of_getElem? (i := 5) rfl)) rfl
set_option maxRecDepth 100000 in
theorem kcX6_deaths : Cond.code yX6_deaths cX6_deaths 10 (some .long) ∈ zgt := zgt_in (zt4 (List.mem_of_getElem? (i := 15) rfl)) rfl
set_option maxRecDepth 100000 in
theorem knX6_deaths : Cond.instanceMethod yX6_deaths ∈ zgt := zgt_in (zt4 (List.mem_of_getElem? (i := 13) rfl)) rfl
set_option maxRecDepth 100000 in
theorem ksX6_deaths : Cond.selects RX6 yX6_deaths yX6_deaths ∈ zgt := zgt_in (zt4 (List.mem_of_getElem? (i := 14) rfl)) rfl
set_option maxRecDepth 100000 in
theorem kcX6_mean : Cond.code yX6_mean cX6_mean 3 (some .long) ∈ zgt := zgt_in (zt4 (List.mem_of_getElem? (i := 43) rfl)) rfl
set_option maxRecDepth 100000 in
theorem knX6_mean : Cond.instanceMethod yX6_mean ∈ zgt := zgt_in (zt4 (List.mem_of_getElem? (i := 41) rfl)) rfl
set_option maxRecDepth 100000 in
theorem ksX6_mean : Cond.selects RX6 yX6_mean yX6_mean ∈ zgt := zgt_in (zt4 (List.mem_of_getElem? (i := 42) rfl)) rfl
set_option maxRecDepth 100000 in
theorem kcX6_two : Cond.code yX6_two cX6_two 6 (some .int) ∈ zgt := zgt_in (zt4 (List.mem_of_getElem? (i := 48) rfl)) rfl
set_option maxRecDepth 100000 in
theorem knX6_two : Cond.instanceMethod yX6_two ∈ zgt := zgt_in (zt4 (List.mem_of_getElem? (i := 46) rfl)) rfl
set_option maxRecDepth 100000 in
theorem ksX6_two : Cond.selects RX6 yX6_two yX6_two ∈ zgt := zgt_in (zt4 (List.mem_of_getElem? (i := 47) rfl)) rfl
set_option maxRecDepth 100000 in
theorem kcX6_whatIs : Cond.code yX6_whatIs cX6_whatIs 7 (some .int) ∈ zgt := zgt_in (zt4 (List.mem_of_getElem? (i := 52) rfl)) rfl
set_option maxRecDepth 100000 in
theorem knX6_whatIs : Cond.instanceMethod yX6_whatIs ∈ zgt := zgt_in (zt4 (List.mem_of_getElem? (i := 50) rfl)) rfl
set_option maxRecDepth 100000 in
theorem ksX6_whatIs : Cond.selects RX6 yX6_whatIs yX6_whatIs ∈ zgt := zgt_in (zt4 (List.mem_of_getElem? (i := 51) rfl)) rfl
set_option maxRecDepth 100000 in
theorem kcX6_row : Cond.code yX6_row cX6_row 3 (some .int) ∈ zgt := zgt_in (zt4 (List.mem_of_getElem? (i := 60) rfl)) rfl
set_option maxRecDepth 100000 in
theorem knX6_row : Cond.instanceMethod yX6_row ∈ zgt := zgt_in (zt4 (List.mem_of_getElem? (i := 58) rfl)) rfl
set_option maxRecDepth 100000 in
theorem ksX6_row : Cond.selects RX6 yX6_row yX6_row ∈ zgt := zgt_in (zt4 (List.mem_of_getElem? (i := 59) rfl)) rfl
set_option maxRecDepth 100000 in
theorem kcX6_judge : Cond.code yX6_judge cX6_judge 3 (some .int) ∈ zgt := zgt_in (zt4 (List.mem_of_getElem? (i := 64) rfl)) rfl
set_option maxRecDepth 100000 in
theorem knX6_judge : Cond.instanceMethod yX6_judge ∈ zgt := zgt_in (zt4 (List.mem_of_getElem? (i := 62) rfl)) rfl
set_option maxRecDepth 100000 in
theorem ksX6_judge : Cond.selects RX6 yX6_judge yX6_judge ∈ zgt := zgt_in (zt4 (List.mem_of_getElem? (i := 63) rfl)) rfl
set_option maxRecDepth 100000 in
theorem kcX6_clear : Cond.code yX6_clear cX6_clear 2 (some .int) ∈ zgt := zgt_in (zt4 (List.mem_of_getElem? (i := 68) rfl)) rfl
set_option maxRecDepth 100000 in
theorem knX6_clear : Cond.instanceMethod yX6_clear ∈ zgt := zgt_in (zt4 (List.mem_of_getElem? (i := 66) rfl)) rfl
set_option maxRecDepth 100000 in
theorem ksX6_clear : Cond.selects RX6 yX6_clear yX6_clear ∈ zgt := zgt_in (zt4 (List.mem_of_getElem? (i := 67) rfl)) rfl
set_option maxRecDepth 100000 in
theorem kcX6_lots : Cond.code yX6_lots cX6_lots 8 (some .int) ∈ zgt := zgt_in (zt4 (List.mem_of_getElem? (i := 72) rfl)) rfl
set_option maxRecDepth 100000 in
theorem knX6_lots : Cond.instanceMethod yX6_lots ∈ zgt := zgt_in (zt4 (List.mem_of_getElem? (i := 70) rfl)) rfl
set_option maxRecDepth 100000 in
theorem ksX6_lots : Cond.selects RX6 yX6_lots yX6_lots ∈ zgt := zgt_in (zt4 (List.mem_of_getElem? (i := 71) rfl)) rfl
set_option maxRecDepth 100000 in
theorem kcX6_image : Cond.code yX6_image cX6_image 1 (some .int) ∈ zgt := zgt_in (zt4 (List.mem_of_getElem? (i := 83) rfl)) rfl
set_option maxRecDepth 100000 in
theorem knX6_image : Cond.instanceMethod yX6_image ∈ zgt := zgt_in (zt4 (List.mem_of_getElem? (i := 81) rfl)) rfl
set_option maxRecDepth 100000 in
theorem ksX6_image : Cond.selects RX6 yX6_image yX6_image ∈ zgt := zgt_in (zt4 (List.mem_of_getElem? (i := 82) rfl)) rfl
set_option maxRecDepth 100000 in
theorem kcX6_on : Cond.code yX6_on cX6_on 1 (some .int) ∈ zgt := zgt_in (zt4 (List.mem_of_getElem? (i := 87) rfl)) rfl
set_option maxRecDepth 100000 in
theorem knX6_on : Cond.instanceMethod yX6_on ∈ zgt := zgt_in (zt4 (List.mem_of_getElem? (i := 85) rfl)) rfl
set_option maxRecDepth 100000 in
theorem ksX6_on : Cond.selects RX6 yX6_on yX6_on ∈ zgt := zgt_in (zt4 (List.mem_of_getElem? (i := 86) rfl)) rfl
set_option maxRecDepth 100000 in
theorem kcX6_count : Cond.code yX6_count cX6_count 2 (some .int) ∈ zgt := zgt_in (zt4 (List.mem_of_getElem? (i := 91) rfl)) rfl
set_option maxRecDepth 100000 in
theorem knX6_count : Cond.instanceMethod yX6_count ∈ zgt := zgt_in (zt4 (List.mem_of_getElem? (i := 89) rfl)) rfl
set_option maxRecDepth 100000 in
theorem ksX6_count : Cond.selects RX6 yX6_count yX6_count ∈ zgt := zgt_in (zt4 (List.mem_of_getElem? (i := 90) rfl)) rfl
set_option maxRecDepth 100000 in
theorem kcX6_refuse : Cond.code yX6_refuse cX6_refuse 2 (some .int) ∈ zgt := zgt_in (zt1 (List.mem_of_getElem? (i := 220) rfl)) rfl
set_option maxRecDepth 100000 in
theorem knX6_refuse : Cond.instanceMethod yX6_refuse ∈ zgt := zgt_in (zt1 (List.mem_of_getElem? (i := 219) rfl)) rfl
set_option maxRecDepth 100000 in
theorem ksX6_refuse : Cond.selects RX6 yX6_refuse yX6_refuse ∈ zgt := zgt_in (zt0 (List.mem_of_getElem? (i := 0) rfl)) rfl
set_option maxRecDepth 100000 in
theorem kcX6_firstOf : Cond.code yX6_firstOf cX6_firstOf 3 (some .int) ∈ zgt := zgt_in (zt1 (List.mem_of_getElem? (i := 216) rfl)) rfl
set_option maxRecDepth 100000 in
theorem ktX6_firstOf : Cond.static yX6_firstOf ∈ zgt := zgt_in (zt1 (List.mem_of_getElem? (i := 215) rfl)) rfl
set_option maxRecDepth 100000 in
theorem kcX6_outside : Cond.code yX6_outside cX6_outside 3 (some .int) ∈ zgt := zgt_in (zt1 (List.mem_of_getElem? (i := 209) rfl)) rfl
set_option maxRecDepth 100000 in
theorem ktX6_outside : Cond.static yX6_outside ∈ zgt := zgt_in (zt1 (List.mem_of_getElem? (i := 208) rfl)) rfl
set_option maxRecDepth 100000 in
theorem kcX6_otherThan : Cond.code yX6_otherThan cX6_otherThan 2 (some .int) ∈ zgt := zgt_in (zt2 (List.mem_of_getElem? (i := 214) rfl)) rfl
set_option maxRecDepth 100000 in
theorem ktX6_otherThan : Cond.static yX6_otherThan ∈ zgt := zgt_in (zt2 (List.mem_of_getElem? (i := 213) rfl)) rfl
set_option maxRecDepth 100000 in
theorem kcX6_nobody : Cond.code yX6_nobody cX6_nobody 2 (some .int) ∈ zgt := zgt_in (zt2 (List.mem_of_getElem? (i := 210) rfl)) rfl
set_option maxRecDepth 100000 in
theorem knX6_nobody : Cond.instanceMethod yX6_nobody ∈ zgt := zgt_in (zt2 (List.mem_of_getElem? (i := 209) rfl)) rfl
set_option maxRecDepth 100000 in
theorem ksX6_nobody : Cond.selects RX6 yX6_nobody yX6_nobody ∈ zgt := zgt_in (zt0 (List.mem_of_getElem? (i := 9) rfl)) rfl
set_option maxRecDepth 100000 in
theorem kcX6_notTwo : Cond.code yX6_notTwo cX6_notTwo 3 (some .int) ∈ zgt := zgt_in (zt2 (List.mem_of_getElem? (i := 229) rfl)) rfl
set_option maxRecDepth 100000 in
theorem knX6_notTwo : Cond.instanceMethod yX6_notTwo ∈ zgt := zgt_in (zt2 (List.mem_of_getElem? (i := 228) rfl)) rfl
set_option maxRecDepth 100000 in
theorem ksX6_notTwo : Cond.selects RX6 yX6_notTwo yX6_notTwo ∈ zgt := zgt_in (zt0 (List.mem_of_getElem? (i := 10) rfl)) rfl
set_option maxRecDepth 100000 in
theorem kcX6_notOdds : Cond.code yX6_notOdds cX6_notOdds 3 (some .int) ∈ zgt := zgt_in (zt4 (List.mem_of_getElem? (i := 18) rfl)) rfl
set_option maxRecDepth 100000 in
theorem ktX6_notOdds : Cond.static yX6_notOdds ∈ zgt := zgt_in (zt4 (List.mem_of_getElem? (i := 17) rfl)) rfl
set_option maxRecDepth 100000 in
theorem kcX6_bit : Cond.code yX6_bit cX6_bit 1 (some .int) ∈ zgt := zgt_in (zt2 (List.mem_of_getElem? (i := 234) rfl)) rfl
set_option maxRecDepth 100000 in
theorem ktX6_bit : Cond.static yX6_bit ∈ zgt := zgt_in (zt2 (List.mem_of_getElem? (i := 233) rfl)) rfl
set_option maxRecDepth 100000 in
theorem kcX6_isIn : Cond.code yX6_isIn cX6_isIn 2 (some .boolean) ∈ zgt := zgt_in (zt2 (List.mem_of_getElem? (i := 145) rfl)) rfl
set_option maxRecDepth 100000 in
theorem ktX6_isIn : Cond.static yX6_isIn ∈ zgt := zgt_in (zt2 (List.mem_of_getElem? (i := 144) rfl)) rfl
set_option maxRecDepth 100000 in
theorem kcX6_thinkAhead : Cond.code yX6_thinkAhead cX6_thinkAhead 2 none ∈ zgt := zgt_in (zt3 (List.mem_of_getElem? (i := 36) rfl)) rfl
set_option maxRecDepth 100000 in
theorem knX6_thinkAhead : Cond.instanceMethod yX6_thinkAhead ∈ zgt := zgt_in (zt3 (List.mem_of_getElem? (i := 35) rfl)) rfl
set_option maxRecDepth 100000 in
theorem ksX6_thinkAhead : Cond.selects RX6 yX6_thinkAhead yX6_thinkAhead ∈ zgt := zgt_in (zt0 (List.mem_of_getElem? (i := 11) rfl)) rfl
set_option maxRecDepth 100000 in
theorem kcX6_steadyAfter : Cond.code yX6_steadyAfter cX6_steadyAfter 2 (some .int) ∈ zgt := zgt_in (zt3 (List.mem_of_getElem? (i := 57) rfl)) rfl
set_option maxRecDepth 100000 in
theorem knX6_steadyAfter : Cond.instanceMethod yX6_steadyAfter ∈ zgt := zgt_in (zt3 (List.mem_of_getElem? (i := 56) rfl)) rfl
set_option maxRecDepth 100000 in
theorem ksX6_steadyAfter : Cond.selects RX6 yX6_steadyAfter yX6_steadyAfter ∈ zgt := zgt_in (zt0 (List.mem_of_getElem? (i := 12) rfl)) rfl
set_option maxRecDepth 100000 in
theorem kcX6_firstRuin : Cond.code yX6_firstRuin cX6_firstRuin 4 (some .int) ∈ zgt := zgt_in (zt3 (List.mem_of_getElem? (i := 65) rfl)) rfl
set_option maxRecDepth 100000 in
theorem knX6_firstRuin : Cond.instanceMethod yX6_firstRuin ∈ zgt := zgt_in (zt3 (List.mem_of_getElem? (i := 64) rfl)) rfl
set_option maxRecDepth 100000 in
theorem ksX6_firstRuin : Cond.selects RX6 yX6_firstRuin yX6_firstRuin ∈ zgt := zgt_in (zt0 (List.mem_of_getElem? (i := 13) rfl)) rfl
set_option maxRecDepth 100000 in
theorem kcX6_bestChange : Cond.code yX6_bestChange cX6_bestChange 8 (some .int) ∈ zgt := zgt_in (zt3 (List.mem_of_getElem? (i := 138) rfl)) rfl
set_option maxRecDepth 100000 in
theorem knX6_bestChange : Cond.instanceMethod yX6_bestChange ∈ zgt := zgt_in (zt3 (List.mem_of_getElem? (i := 137) rfl)) rfl
set_option maxRecDepth 100000 in
theorem ksX6_bestChange : Cond.selects RX6 yX6_bestChange yX6_bestChange ∈ zgt := zgt_in (zt0 (List.mem_of_getElem? (i := 16) rfl)) rfl
set_option maxRecDepth 100000 in
theorem kcX6_mayChange : Cond.code yX6_mayChange cX6_mayChange 4 (some .boolean) ∈ zgt := zgt_in (zt3 (List.mem_of_getElem? (i := 142) rfl)) rfl
set_option maxRecDepth 100000 in
theorem knX6_mayChange : Cond.instanceMethod yX6_mayChange ∈ zgt := zgt_in (zt3 (List.mem_of_getElem? (i := 141) rfl)) rfl
set_option maxRecDepth 100000 in
theorem ksX6_mayChange : Cond.selects RX6 yX6_mayChange yX6_mayChange ∈ zgt := zgt_in (zt0 (List.mem_of_getElem? (i := 17) rfl)) rfl
set_option maxRecDepth 100000 in
theorem kcX6_makeChange : Cond.code yX6_makeChange cX6_makeChange 4 none ∈ zgt := zgt_in (zt3 (List.mem_of_getElem? (i := 146) rfl)) rfl
set_option maxRecDepth 100000 in
theorem knX6_makeChange : Cond.instanceMethod yX6_makeChange ∈ zgt := zgt_in (zt3 (List.mem_of_getElem? (i := 145) rfl)) rfl
set_option maxRecDepth 100000 in
theorem ksX6_makeChange : Cond.selects RX6 yX6_makeChange yX6_makeChange ∈ zgt := zgt_in (zt0 (List.mem_of_getElem? (i := 18) rfl)) rfl
set_option maxRecDepth 100000 in
theorem kcX6_wealthWithFeud : Cond.code yX6_wealthWithFeud cX6_wealthWithFeud 5 (some .int) ∈ zgt := zgt_in (zt3 (List.mem_of_getElem? (i := 168) rfl)) rfl
set_option maxRecDepth 100000 in
theorem knX6_wealthWithFeud : Cond.instanceMethod yX6_wealthWithFeud ∈ zgt := zgt_in (zt3 (List.mem_of_getElem? (i := 167) rfl)) rfl
set_option maxRecDepth 100000 in
theorem ksX6_wealthWithFeud : Cond.selects RX6 yX6_wealthWithFeud yX6_wealthWithFeud ∈ zgt := zgt_in (zt0 (List.mem_of_getElem? (i := 20) rfl)) rfl
set_option maxRecDepth 100000 in
theorem kcX6_goesAsTold : Cond.code yX6_goesAsTold cX6_goesAsTold 3 (some .boolean) ∈ zgt := zgt_in (zt4 (List.mem_of_getElem? (i := 56) rfl)) rfl
set_option maxRecDepth 100000 in
theorem knX6_goesAsTold : Cond.instanceMethod yX6_goesAsTold ∈ zgt := zgt_in (zt4 (List.mem_of_getElem? (i := 55) rfl)) rfl
set_option maxRecDepth 100000 in
theorem ksX6_goesAsTold : Cond.selects RX6 yX6_goesAsTold yX6_goesAsTold ∈ zgt := zgt_in (zt0 (List.mem_of_getElem? (i := 27) rfl)) rfl
set_option maxRecDepth 100000 in
theorem kcX6_drawSignings : Cond.code yX6_drawSignings cX6_drawSignings 6 (some .int) ∈ zgt := zgt_in (zt4 (List.mem_of_getElem? (i := 76) rfl)) rfl
set_option maxRecDepth 100000 in
theorem knX6_drawSignings : Cond.instanceMethod yX6_drawSignings ∈ zgt := zgt_in (zt4 (List.mem_of_getElem? (i := 75) rfl)) rfl
set_option maxRecDepth 100000 in
theorem ksX6_drawSignings : Cond.selects RX6 yX6_drawSignings yX6_drawSignings ∈ zgt := zgt_in (zt0 (List.mem_of_getElem? (i := 28) rfl)) rfl
set_option maxRecDepth 100000 in
theorem kcX6_partOf : Cond.code yX6_partOf cX6_partOf 7 (some .long) ∈ zgt := zgt_in (zt4 (List.mem_of_getElem? (i := 36) rfl)) rfl
set_option maxRecDepth 100000 in
theorem ktX6_partOf : Cond.static yX6_partOf ∈ zgt := zgt_in (zt4 (List.mem_of_getElem? (i := 35) rfl)) rfl
set_option maxRecDepth 100000 in
theorem kcX6_commonDivisor : Cond.code yX6_commonDivisor cX6_commonDivisor 11 (some .long) ∈ zgt := zgt_in (zt4 (List.mem_of_getElem? (i := 39) rfl)) rfl
set_option maxRecDepth 100000 in
theorem ktX6_commonDivisor : Cond.static yX6_commonDivisor ∈ zgt := zgt_in (zt4 (List.mem_of_getElem? (i := 38) rfl)) rfl
set_option maxRecDepth 100000 in
theorem kcX7_init : Cond.code yX7_init cX7_init 1 none ∈ zgt := zgt_in (zt4 (List.mem_of_getElem? (i := 104) rfl)) rfl
set_option maxRecDepth 100000 in
theorem knX7_init : Cond.instanceMethod yX7_init ∈ zgt := zgt_in (zt4 (List.mem_of_getElem? (i := 103) rfl)) rfl
set_option maxRecDepth 100000 in
theorem kcX7_no : Cond.code yX7_no cX7_no 2 (some .int) ∈ zgt := zgt_in (zt4 (List.mem_of_getElem? (i := 201) rfl)) rfl
set_option maxRecDepth 100000 in
theorem knX7_no : Cond.instanceMethod yX7_no ∈ zgt := zgt_in (zt4 (List.mem_of_getElem? (i := 200) rfl)) rfl
set_option maxRecDepth 100000 in
theorem ksX7_no : Cond.selects RX7 yX7_no yX7_no ∈ zgt := zgt_in (zt0 (List.mem_of_getElem? (i := 29) rfl)) rfl
set_option maxRecDepth 100000 in
theorem kcX7_lower : Cond.code yX7_lower cX7_lower 2 (some .int) ∈ zgt := zgt_in (zt5 (List.mem_of_getElem? (i := 219) rfl)) rfl
set_option maxRecDepth 100000 in
theorem knX7_lower : Cond.instanceMethod yX7_lower ∈ zgt := zgt_in (zt5 (List.mem_of_getElem? (i := 218) rfl)) rfl
set_option maxRecDepth 100000 in
theorem ksX7_lower : Cond.selects RX7 yX7_lower yX7_lower ∈ zgt := zgt_in (zt0 (List.mem_of_getElem? (i := 65) rfl)) rfl
set_option maxRecDepth 100000 in
theorem kcX7_lowestOf : Cond.code yX7_lowestOf cX7_lowestOf 2 (some .long) ∈ zgt := zgt_in (zt6 (List.mem_of_getElem? (i := 62) rfl)) rfl
set_option maxRecDepth 100000 in
theorem knX7_lowestOf : Cond.instanceMethod yX7_lowestOf ∈ zgt := zgt_in (zt6 (List.mem_of_getElem? (i := 61) rfl)) rfl
set_option maxRecDepth 100000 in
theorem ksX7_lowestOf : Cond.selects RX7 yX7_lowestOf yX7_lowestOf ∈ zgt := zgt_in (zt0 (List.mem_of_getElem? (i := 77) rfl)) rfl
set_option maxRecDepth 100000 in
theorem kcX7_isIn : Cond.code yX7_isIn cX7_isIn 3 (some .boolean) ∈ zgt := zgt_in (zt4 (List.mem_of_getElem? (i := 231) rfl)) rfl
set_option maxRecDepth 100000 in
theorem ktX7_isIn : Cond.static yX7_isIn ∈ zgt := zgt_in (zt4 (List.mem_of_getElem? (i := 230) rfl)) rfl
set_option maxRecDepth 100000 in
theorem kcX7_bound : Cond.code yX7_bound cX7_bound 3 (some .int) ∈ zgt := zgt_in (zt4 (List.mem_of_getElem? (i := 197) rfl)) rfl
set_option maxRecDepth 100000 in
theorem ktX7_bound : Cond.static yX7_bound ∈ zgt := zgt_in (zt4 (List.mem_of_getElem? (i := 196) rfl)) rfl
set_option maxRecDepth 100000 in
theorem kcX7_has : Cond.code yX7_has cX7_has 2 (some .boolean) ∈ zgt := zgt_in (zt5 (List.mem_of_getElem? (i := 34) rfl)) rfl
set_option maxRecDepth 100000 in
theorem ktX7_has : Cond.static yX7_has ∈ zgt := zgt_in (zt5 (List.mem_of_getElem? (i := 33) rfl)) rfl
set_option maxRecDepth 100000 in
theorem kcX7_bits : Cond.code yX7_bits cX7_bits 3 (some .int) ∈ zgt := zgt_in (zt5 (List.mem_of_getElem? (i := 73) rfl)) rfl
set_option maxRecDepth 100000 in
theorem ktX7_bits : Cond.static yX7_bits ∈ zgt := zgt_in (zt5 (List.mem_of_getElem? (i := 72) rfl)) rfl
set_option maxRecDepth 100000 in
theorem kcX7_isOne : Cond.code yX7_isOne cX7_isOne 2 (some .boolean) ∈ zgt := zgt_in (zt5 (List.mem_of_getElem? (i := 15) rfl)) rfl
set_option maxRecDepth 100000 in
theorem knX7_isOne : Cond.instanceMethod yX7_isOne ∈ zgt := zgt_in (zt5 (List.mem_of_getElem? (i := 14) rfl)) rfl
set_option maxRecDepth 100000 in
theorem ksX7_isOne : Cond.selects RX7 yX7_isOne yX7_isOne ∈ zgt := zgt_in (zt0 (List.mem_of_getElem? (i := 40) rfl)) rfl
set_option maxRecDepth 100000 in
theorem kcX7_areTwo : Cond.code yX7_areTwo cX7_areTwo 3 (some .boolean) ∈ zgt := zgt_in (zt5 (List.mem_of_getElem? (i := 50) rfl)) rfl
set_option maxRecDepth 100000 in
theorem knX7_areTwo : Cond.instanceMethod yX7_areTwo ∈ zgt := zgt_in (zt5 (List.mem_of_getElem? (i := 49) rfl)) rfl
set_option maxRecDepth 100000 in
theorem ksX7_areTwo : Cond.selects RX7 yX7_areTwo yX7_areTwo ∈ zgt := zgt_in (zt0 (List.mem_of_getElem? (i := 48) rfl)) rfl
set_option maxRecDepth 100000 in
theorem kcX7_isKin : Cond.code yX7_isKin cX7_isKin 3 (some .boolean) ∈ zgt := zgt_in (zt5 (List.mem_of_getElem? (i := 31) rfl)) rfl
set_option maxRecDepth 100000 in
theorem knX7_isKin : Cond.instanceMethod yX7_isKin ∈ zgt := zgt_in (zt5 (List.mem_of_getElem? (i := 30) rfl)) rfl
set_option maxRecDepth 100000 in
theorem ksX7_isKin : Cond.selects RX7 yX7_isKin yX7_isKin ∈ zgt := zgt_in (zt0 (List.mem_of_getElem? (i := 44) rfl)) rfl
set_option maxRecDepth 100000 in
theorem kcX7_kinOf : Cond.code yX7_kinOf cX7_kinOf 4 (some .int) ∈ zgt := zgt_in (zt5 (List.mem_of_getElem? (i := 70) rfl)) rfl
set_option maxRecDepth 100000 in
theorem knX7_kinOf : Cond.instanceMethod yX7_kinOf ∈ zgt := zgt_in (zt5 (List.mem_of_getElem? (i := 69) rfl)) rfl
set_option maxRecDepth 100000 in
theorem ksX7_kinOf : Cond.selects RX7 yX7_kinOf yX7_kinOf ∈ zgt := zgt_in (zt0 (List.mem_of_getElem? (i := 50) rfl)) rfl
set_option maxRecDepth 100000 in
theorem kcX7_letter : Cond.code yX7_letter cX7_letter 3 (some .int) ∈ zgt := zgt_in (zt4 (List.mem_of_getElem? (i := 194) rfl)) rfl
set_option maxRecDepth 100000 in
theorem knX7_letter : Cond.instanceMethod yX7_letter ∈ zgt := zgt_in (zt4 (List.mem_of_getElem? (i := 192) rfl)) rfl
set_option maxRecDepth 100000 in
theorem ksX7_letter : Cond.selects RX7 yX7_letter yX7_letter ∈ zgt := zgt_in (zt4 (List.mem_of_getElem? (i := 193) rfl)) rfl
set_option maxRecDepth 100000 in
theorem kcX7_next : Cond.code yX7_next cX7_next 1 (some .int) ∈ zgt := zgt_in (zt4 (List.mem_of_getElem? (i := 213) rfl)) rfl
set_option maxRecDepth 100000 in
theorem knX7_next : Cond.instanceMethod yX7_next ∈ zgt := zgt_in (zt4 (List.mem_of_getElem? (i := 212) rfl)) rfl
set_option maxRecDepth 100000 in
theorem ksX7_next : Cond.selects RX7 yX7_next yX7_next ∈ zgt := zgt_in (zt0 (List.mem_of_getElem? (i := 31) rfl)) rfl
set_option maxRecDepth 100000 in
theorem kcX7_readsDigits : Cond.code yX7_readsDigits cX7_readsDigits 5 (some .boolean) ∈ zgt := zgt_in (zt4 (List.mem_of_getElem? (i := 228) rfl)) rfl
set_option maxRecDepth 100000 in
theorem knX7_readsDigits : Cond.instanceMethod yX7_readsDigits ∈ zgt := zgt_in (zt4 (List.mem_of_getElem? (i := 227) rfl)) rfl
set_option maxRecDepth 100000 in
theorem ksX7_readsDigits : Cond.selects RX7 yX7_readsDigits yX7_readsDigits ∈ zgt := zgt_in (zt0 (List.mem_of_getElem? (i := 34) rfl)) rfl
set_option maxRecDepth 100000 in
theorem kcX7_kindOf : Cond.code yX7_kindOf cX7_kindOf 1 (some .int) ∈ zgt := zgt_in (zt4 (List.mem_of_getElem? (i := 224) rfl)) rfl
set_option maxRecDepth 100000 in
theorem ktX7_kindOf : Cond.static yX7_kindOf ∈ zgt := zgt_in (zt4 (List.mem_of_getElem? (i := 223) rfl)) rfl
set_option maxRecDepth 100000 in
theorem kcX7_readsOne : Cond.code yX7_readsOne cX7_readsOne 2 (some .boolean) ∈ zgt := zgt_in (zt4 (List.mem_of_getElem? (i := 221) rfl)) rfl
set_option maxRecDepth 100000 in
theorem knX7_readsOne : Cond.instanceMethod yX7_readsOne ∈ zgt := zgt_in (zt4 (List.mem_of_getElem? (i := 220) rfl)) rfl
set_option maxRecDepth 100000 in
theorem ksX7_readsOne : Cond.selects RX7 yX7_readsOne yX7_readsOne ∈ zgt := zgt_in (zt0 (List.mem_of_getElem? (i := 33) rfl)) rfl
set_option maxRecDepth 100000 in
theorem kcX7_readsAll : Cond.code yX7_readsAll cX7_readsAll 3 (some .boolean) ∈ zgt := zgt_in (zt4 (List.mem_of_getElem? (i := 217) rfl)) rfl
set_option maxRecDepth 100000 in
theorem knX7_readsAll : Cond.instanceMethod yX7_readsAll ∈ zgt := zgt_in (zt4 (List.mem_of_getElem? (i := 216) rfl)) rfl
set_option maxRecDepth 100000 in
theorem ksX7_readsAll : Cond.selects RX7 yX7_readsAll yX7_readsAll ∈ zgt := zgt_in (zt0 (List.mem_of_getElem? (i := 32) rfl)) rfl
set_option maxRecDepth 100000 in
theorem kcX7_statement : Cond.code yX7_statement cX7_statement 2 (some .boolean) ∈ zgt := zgt_in (zt4 (List.mem_of_getElem? (i := 209) rfl)) rfl
set_option maxRecDepth 100000 in
theorem knX7_statement : Cond.instanceMethod yX7_statement ∈ zgt := zgt_in (zt4 (List.mem_of_getElem? (i := 208) rfl)) rfl
set_option maxRecDepth 100000 in
theorem ksX7_statement : Cond.selects RX7 yX7_statement yX7_statement ∈ zgt := zgt_in (zt0 (List.mem_of_getElem? (i := 30) rfl)) rfl
set_option maxRecDepth 100000 in
theorem kcX7_comesTie : Cond.code yX7_comesTie cX7_comesTie 4 (some .boolean) ∈ zgt := zgt_in (zt5 (List.mem_of_getElem? (i := 46) rfl)) rfl
set_option maxRecDepth 100000 in
theorem knX7_comesTie : Cond.instanceMethod yX7_comesTie ∈ zgt := zgt_in (zt5 (List.mem_of_getElem? (i := 45) rfl)) rfl
set_option maxRecDepth 100000 in
theorem ksX7_comesTie : Cond.selects RX7 yX7_comesTie yX7_comesTie ∈ zgt := zgt_in (zt0 (List.mem_of_getElem? (i := 47) rfl)) rfl
set_option maxRecDepth 100000 in
theorem kcX7_comesYears : Cond.code yX7_comesYears cX7_comesYears 2 (some .boolean) ∈ zgt := zgt_in (zt5 (List.mem_of_getElem? (i := 19) rfl)) rfl
set_option maxRecDepth 100000 in
theorem knX7_comesYears : Cond.instanceMethod yX7_comesYears ∈ zgt := zgt_in (zt5 (List.mem_of_getElem? (i := 18) rfl)) rfl
set_option maxRecDepth 100000 in
theorem ksX7_comesYears : Cond.selects RX7 yX7_comesYears yX7_comesYears ∈ zgt := zgt_in (zt0 (List.mem_of_getElem? (i := 41) rfl)) rfl
set_option maxRecDepth 100000 in
theorem kcX7_comes : Cond.code yX7_comes cX7_comes 3 (some .boolean) ∈ zgt := zgt_in (zt5 (List.mem_of_getElem? (i := 7) rfl)) rfl
set_option maxRecDepth 100000 in
theorem knX7_comes : Cond.instanceMethod yX7_comes ∈ zgt := zgt_in (zt5 (List.mem_of_getElem? (i := 6) rfl)) rfl
set_option maxRecDepth 100000 in
theorem ksX7_comes : Cond.selects RX7 yX7_comes yX7_comes ∈ zgt := zgt_in (zt0 (List.mem_of_getElem? (i := 38) rfl)) rfl
set_option maxRecDepth 100000 in
theorem kcX7_county : Cond.code yX7_county cX7_county 3 (some .int) ∈ zgt := zgt_in (zt4 (List.mem_of_getElem? (i := 205) rfl)) rfl
set_option maxRecDepth 100000 in
theorem knX7_county : Cond.instanceMethod yX7_county ∈ zgt := zgt_in (zt4 (List.mem_of_getElem? (i := 203) rfl)) rfl
set_option maxRecDepth 100000 in
theorem ksX7_county : Cond.selects RX7 yX7_county yX7_county ∈ zgt := zgt_in (zt4 (List.mem_of_getElem? (i := 204) rfl)) rfl
set_option maxRecDepth 100000 in
theorem kcX7_passes : Cond.code yX7_passes cX7_passes 3 none ∈ zgt := zgt_in (zt4 (List.mem_of_getElem? (i := 239) rfl)) rfl
set_option maxRecDepth 100000 in
theorem knX7_passes : Cond.instanceMethod yX7_passes ∈ zgt := zgt_in (zt4 (List.mem_of_getElem? (i := 238) rfl)) rfl
set_option maxRecDepth 100000 in
theorem ksX7_passes : Cond.selects RX7 yX7_passes yX7_passes ∈ zgt := zgt_in (zt0 (List.mem_of_getElem? (i := 36) rfl)) rfl
set_option maxRecDepth 100000 in
theorem kcX7_passOne : Cond.code yX7_passOne cX7_passOne 3 (some .int) ∈ zgt := zgt_in (zt5 (List.mem_of_getElem? (i := 3) rfl)) rfl
set_option maxRecDepth 100000 in
theorem knX7_passOne : Cond.instanceMethod yX7_passOne ∈ zgt := zgt_in (zt5 (List.mem_of_getElem? (i := 2) rfl)) rfl
set_option maxRecDepth 100000 in
theorem ksX7_passOne : Cond.selects RX7 yX7_passOne yX7_passOne ∈ zgt := zgt_in (zt0 (List.mem_of_getElem? (i := 37) rfl)) rfl
set_option maxRecDepth 100000 in
theorem kcX7_passesAll : Cond.code yX7_passesAll cX7_passesAll 3 none ∈ zgt := zgt_in (zt4 (List.mem_of_getElem? (i := 235) rfl)) rfl
set_option maxRecDepth 100000 in
theorem knX7_passesAll : Cond.instanceMethod yX7_passesAll ∈ zgt := zgt_in (zt4 (List.mem_of_getElem? (i := 234) rfl)) rfl
set_option maxRecDepth 100000 in
theorem ksX7_passesAll : Cond.selects RX7 yX7_passesAll yX7_passesAll ∈ zgt := zgt_in (zt0 (List.mem_of_getElem? (i := 35) rfl)) rfl
set_option maxRecDepth 100000 in
theorem kcX7_thinks : Cond.code yX7_thinks cX7_thinks 1 none ∈ zgt := zgt_in (zt5 (List.mem_of_getElem? (i := 116) rfl)) rfl
set_option maxRecDepth 100000 in
theorem knX7_thinks : Cond.instanceMethod yX7_thinks ∈ zgt := zgt_in (zt5 (List.mem_of_getElem? (i := 115) rfl)) rfl
set_option maxRecDepth 100000 in
theorem ksX7_thinks : Cond.selects RX7 yX7_thinks yX7_thinks ∈ zgt := zgt_in (zt0 (List.mem_of_getElem? (i := 53) rfl)) rfl
set_option maxRecDepth 100000 in
theorem kcX7_forgets : Cond.code yX7_forgets cX7_forgets 1 none ∈ zgt := zgt_in (zt5 (List.mem_of_getElem? (i := 120) rfl)) rfl
set_option maxRecDepth 100000 in
theorem knX7_forgets : Cond.instanceMethod yX7_forgets ∈ zgt := zgt_in (zt5 (List.mem_of_getElem? (i := 119) rfl)) rfl
set_option maxRecDepth 100000 in
theorem ksX7_forgets : Cond.selects RX7 yX7_forgets yX7_forgets ∈ zgt := zgt_in (zt0 (List.mem_of_getElem? (i := 54) rfl)) rfl
set_option maxRecDepth 100000 in
theorem kcX7_changes : Cond.code yX7_changes cX7_changes 1 none ∈ zgt := zgt_in (zt6 (List.mem_of_getElem? (i := 35) rfl)) rfl
set_option maxRecDepth 100000 in
theorem knX7_changes : Cond.instanceMethod yX7_changes ∈ zgt := zgt_in (zt6 (List.mem_of_getElem? (i := 34) rfl)) rfl
set_option maxRecDepth 100000 in
theorem ksX7_changes : Cond.selects RX7 yX7_changes yX7_changes ∈ zgt := zgt_in (zt0 (List.mem_of_getElem? (i := 73) rfl)) rfl
set_option maxRecDepth 100000 in
theorem kcX7_changesBack : Cond.code yX7_changesBack cX7_changesBack 1 none ∈ zgt := zgt_in (zt6 (List.mem_of_getElem? (i := 46) rfl)) rfl
set_option maxRecDepth 100000 in
theorem knX7_changesBack : Cond.instanceMethod yX7_changesBack ∈ zgt := zgt_in (zt6 (List.mem_of_getElem? (i := 45) rfl)) rfl
set_option maxRecDepth 100000 in
theorem ksX7_changesBack : Cond.selects RX7 yX7_changesBack yX7_changesBack ∈ zgt := zgt_in (zt0 (List.mem_of_getElem? (i := 75) rfl)) rfl
set_option maxRecDepth 100000 in
theorem kcX7_image : Cond.code yX7_image cX7_image 1 (some .int) ∈ zgt := zgt_in (zt5 (List.mem_of_getElem? (i := 58) rfl)) rfl
set_option maxRecDepth 100000 in
theorem knX7_image : Cond.instanceMethod yX7_image ∈ zgt := zgt_in (zt5 (List.mem_of_getElem? (i := 56) rfl)) rfl
set_option maxRecDepth 100000 in
theorem ksX7_image : Cond.selects RX7 yX7_image yX7_image ∈ zgt := zgt_in (zt5 (List.mem_of_getElem? (i := 57) rfl)) rfl
set_option maxRecDepth 100000 in
theorem kcX7_on : Cond.code yX7_on cX7_on 1 (some .int) ∈ zgt := zgt_in (zt5 (List.mem_of_getElem? (i := 62) rfl)) rfl
set_option maxRecDepth 100000 in
theorem knX7_on : Cond.instanceMethod yX7_on ∈ zgt := zgt_in (zt5 (List.mem_of_getElem? (i := 60) rfl)) rfl
set_option maxRecDepth 100000 in
theorem ksX7_on : Cond.selects RX7 yX7_on yX7_on ∈ zgt := zgt_in (zt5 (List.mem_of_getElem? (i := 61) rfl)) rfl
set_option maxRecDepth 100000 in
theorem kcX7_adds : Cond.code yX7_adds cX7_adds 4 none ∈ zgt := zgt_in (zt5 (List.mem_of_getElem? (i := 11) rfl)) rfl
set_option maxRecDepth 100000 in
theorem knX7_adds : Cond.instanceMethod yX7_adds ∈ zgt := zgt_in (zt5 (List.mem_of_getElem? (i := 10) rfl)) rfl
set_option maxRecDepth 100000 in
theorem ksX7_adds : Cond.selects RX7 yX7_adds yX7_adds ∈ zgt := zgt_in (zt0 (List.mem_of_getElem? (i := 39) rfl)) rfl
set_option maxRecDepth 100000 in
theorem kcX7_turnsFeud : Cond.code yX7_turnsFeud cX7_turnsFeud 3 none ∈ zgt := zgt_in (zt5 (List.mem_of_getElem? (i := 54) rfl)) rfl
set_option maxRecDepth 100000 in
theorem knX7_turnsFeud : Cond.instanceMethod yX7_turnsFeud ∈ zgt := zgt_in (zt5 (List.mem_of_getElem? (i := 53) rfl)) rfl
set_option maxRecDepth 100000 in
theorem ksX7_turnsFeud : Cond.selects RX7 yX7_turnsFeud yX7_turnsFeud ∈ zgt := zgt_in (zt0 (List.mem_of_getElem? (i := 49) rfl)) rfl
set_option maxRecDepth 100000 in
theorem kcX7_paysOf : Cond.code yX7_paysOf cX7_paysOf 5 (some .int) ∈ zgt := zgt_in (zt5 (List.mem_of_getElem? (i := 42) rfl)) rfl
set_option maxRecDepth 100000 in
theorem knX7_paysOf : Cond.instanceMethod yX7_paysOf ∈ zgt := zgt_in (zt5 (List.mem_of_getElem? (i := 41) rfl)) rfl
set_option maxRecDepth 100000 in
theorem ksX7_paysOf : Cond.selects RX7 yX7_paysOf yX7_paysOf ∈ zgt := zgt_in (zt0 (List.mem_of_getElem? (i := 46) rfl)) rfl
set_option maxRecDepth 100000 in
theorem kcX7_pays : Cond.code yX7_pays cX7_pays 4 none ∈ zgt := zgt_in (zt5 (List.mem_of_getElem? (i := 38) rfl)) rfl
set_option maxRecDepth 100000 in
theorem knX7_pays : Cond.instanceMethod yX7_pays ∈ zgt := zgt_in (zt5 (List.mem_of_getElem? (i := 37) rfl)) rfl
set_option maxRecDepth 100000 in
theorem ksX7_pays : Cond.selects RX7 yX7_pays yX7_pays ∈ zgt := zgt_in (zt0 (List.mem_of_getElem? (i := 45) rfl)) rfl
set_option maxRecDepth 100000 in
theorem kcX7_goesYear : Cond.code yX7_goesYear cX7_goesYear 3 none ∈ zgt := zgt_in (zt5 (List.mem_of_getElem? (i := 27) rfl)) rfl
set_option maxRecDepth 100000 in
theorem knX7_goesYear : Cond.instanceMethod yX7_goesYear ∈ zgt := zgt_in (zt5 (List.mem_of_getElem? (i := 26) rfl)) rfl
set_option maxRecDepth 100000 in
theorem ksX7_goesYear : Cond.selects RX7 yX7_goesYear yX7_goesYear ∈ zgt := zgt_in (zt0 (List.mem_of_getElem? (i := 43) rfl)) rfl
set_option maxRecDepth 100000 in
theorem kcX7_goes : Cond.code yX7_goes cX7_goes 3 none ∈ zgt := zgt_in (zt5 (List.mem_of_getElem? (i := 23) rfl)) rfl
set_option maxRecDepth 100000 in
theorem knX7_goes : Cond.instanceMethod yX7_goes ∈ zgt := zgt_in (zt5 (List.mem_of_getElem? (i := 22) rfl)) rfl
set_option maxRecDepth 100000 in
theorem ksX7_goes : Cond.selects RX7 yX7_goes yX7_goes ∈ zgt := zgt_in (zt0 (List.mem_of_getElem? (i := 42) rfl)) rfl
set_option maxRecDepth 100000 in
theorem kcX7_wealth : Cond.code yX7_wealth cX7_wealth 3 (some .int) ∈ zgt := zgt_in (zt5 (List.mem_of_getElem? (i := 101) rfl)) rfl
set_option maxRecDepth 100000 in
theorem knX7_wealth : Cond.instanceMethod yX7_wealth ∈ zgt := zgt_in (zt5 (List.mem_of_getElem? (i := 100) rfl)) rfl
set_option maxRecDepth 100000 in
theorem ksX7_wealth : Cond.selects RX7 yX7_wealth yX7_wealth ∈ zgt := zgt_in (zt0 (List.mem_of_getElem? (i := 51) rfl)) rfl
set_option maxRecDepth 100000 in
theorem kcX7_twosOfKin : Cond.code yX7_twosOfKin cX7_twosOfKin 3 (some .int) ∈ zgt := zgt_in (zt6 (List.mem_of_getElem? (i := 54) rfl)) rfl
set_option maxRecDepth 100000 in
theorem knX7_twosOfKin : Cond.instanceMethod yX7_twosOfKin ∈ zgt := zgt_in (zt6 (List.mem_of_getElem? (i := 53) rfl)) rfl
set_option maxRecDepth 100000 in
theorem ksX7_twosOfKin : Cond.selects RX7 yX7_twosOfKin yX7_twosOfKin ∈ zgt := zgt_in (zt0 (List.mem_of_getElem? (i := 76) rfl)) rfl
set_option maxRecDepth 100000 in
theorem kcX7_person : Cond.code yX7_person cX7_person 3 (some .int) ∈ zgt := zgt_in (zt5 (List.mem_of_getElem? (i := 66) rfl)) rfl
set_option maxRecDepth 100000 in
theorem knX7_person : Cond.instanceMethod yX7_person ∈ zgt := zgt_in (zt5 (List.mem_of_getElem? (i := 64) rfl)) rfl
set_option maxRecDepth 100000 in
theorem ksX7_person : Cond.selects RX7 yX7_person yX7_person ∈ zgt := zgt_in (zt5 (List.mem_of_getElem? (i := 65) rfl)) rfl
set_option maxRecDepth 100000 in
theorem kcX7_tie : Cond.code yX7_tie cX7_tie 4 (some .int) ∈ zgt := zgt_in (zt5 (List.mem_of_getElem? (i := 77) rfl)) rfl
set_option maxRecDepth 100000 in
theorem knX7_tie : Cond.instanceMethod yX7_tie ∈ zgt := zgt_in (zt5 (List.mem_of_getElem? (i := 75) rfl)) rfl
set_option maxRecDepth 100000 in
theorem ksX7_tie : Cond.selects RX7 yX7_tie yX7_tie ∈ zgt := zgt_in (zt5 (List.mem_of_getElem? (i := 76) rfl)) rfl
set_option maxRecDepth 100000 in
theorem kcX7_signs : Cond.code yX7_signs cX7_signs 3 (some .int) ∈ zgt := zgt_in (zt5 (List.mem_of_getElem? (i := 81) rfl)) rfl
set_option maxRecDepth 100000 in
theorem knX7_signs : Cond.instanceMethod yX7_signs ∈ zgt := zgt_in (zt5 (List.mem_of_getElem? (i := 79) rfl)) rfl
set_option maxRecDepth 100000 in
theorem ksX7_signs : Cond.selects RX7 yX7_signs yX7_signs ∈ zgt := zgt_in (zt5 (List.mem_of_getElem? (i := 80) rfl)) rfl
set_option maxRecDepth 100000 in
theorem kcX7_feuds : Cond.code yX7_feuds cX7_feuds 3 (some .int) ∈ zgt := zgt_in (zt5 (List.mem_of_getElem? (i := 85) rfl)) rfl
set_option maxRecDepth 100000 in
theorem knX7_feuds : Cond.instanceMethod yX7_feuds ∈ zgt := zgt_in (zt5 (List.mem_of_getElem? (i := 83) rfl)) rfl
set_option maxRecDepth 100000 in
theorem ksX7_feuds : Cond.selects RX7 yX7_feuds yX7_feuds ∈ zgt := zgt_in (zt5 (List.mem_of_getElem? (i := 84) rfl)) rfl
set_option maxRecDepth 100000 in
theorem kcX7_gets : Cond.code yX7_gets cX7_gets 5 (some .int) ∈ zgt := zgt_in (zt5 (List.mem_of_getElem? (i := 89) rfl)) rfl
set_option maxRecDepth 100000 in
theorem knX7_gets : Cond.instanceMethod yX7_gets ∈ zgt := zgt_in (zt5 (List.mem_of_getElem? (i := 87) rfl)) rfl
set_option maxRecDepth 100000 in
theorem ksX7_gets : Cond.selects RX7 yX7_gets yX7_gets ∈ zgt := zgt_in (zt5 (List.mem_of_getElem? (i := 88) rfl)) rfl
set_option maxRecDepth 100000 in
theorem kcX7_turn : Cond.code yX7_turn cX7_turn 6 (some .int) ∈ zgt := zgt_in (zt5 (List.mem_of_getElem? (i := 93) rfl)) rfl
set_option maxRecDepth 100000 in
theorem knX7_turn : Cond.instanceMethod yX7_turn ∈ zgt := zgt_in (zt5 (List.mem_of_getElem? (i := 91) rfl)) rfl
set_option maxRecDepth 100000 in
theorem ksX7_turn : Cond.selects RX7 yX7_turn yX7_turn ∈ zgt := zgt_in (zt5 (List.mem_of_getElem? (i := 92) rfl)) rfl
set_option maxRecDepth 100000 in
theorem kcX7_years : Cond.code yX7_years cX7_years 3 (some .int) ∈ zgt := zgt_in (zt5 (List.mem_of_getElem? (i := 97) rfl)) rfl
set_option maxRecDepth 100000 in
theorem knX7_years : Cond.instanceMethod yX7_years ∈ zgt := zgt_in (zt5 (List.mem_of_getElem? (i := 95) rfl)) rfl
set_option maxRecDepth 100000 in
theorem ksX7_years : Cond.selects RX7 yX7_years yX7_years ∈ zgt := zgt_in (zt5 (List.mem_of_getElem? (i := 96) rfl)) rfl
set_option maxRecDepth 100000 in
theorem kcX7_notYears : Cond.code yX7_notYears cX7_notYears 1 (some .int) ∈ zgt := zgt_in (zt5 (List.mem_of_getElem? (i := 108) rfl)) rfl
set_option maxRecDepth 100000 in
theorem ktX7_notYears : Cond.static yX7_notYears ∈ zgt := zgt_in (zt5 (List.mem_of_getElem? (i := 107) rfl)) rfl
set_option maxRecDepth 100000 in
theorem kcX7_moneyIn : Cond.code yX7_moneyIn cX7_moneyIn 4 (some .int) ∈ zgt := zgt_in (zt5 (List.mem_of_getElem? (i := 112) rfl)) rfl
set_option maxRecDepth 100000 in
theorem knX7_moneyIn : Cond.instanceMethod yX7_moneyIn ∈ zgt := zgt_in (zt5 (List.mem_of_getElem? (i := 111) rfl)) rfl
set_option maxRecDepth 100000 in
theorem ksX7_moneyIn : Cond.selects RX7 yX7_moneyIn yX7_moneyIn ∈ zgt := zgt_in (zt0 (List.mem_of_getElem? (i := 52) rfl)) rfl
set_option maxRecDepth 100000 in
theorem kcX7_wealthIn : Cond.code yX7_wealthIn cX7_wealthIn 3 (some .int) ∈ zgt := zgt_in (zt5 (List.mem_of_getElem? (i := 132) rfl)) rfl
set_option maxRecDepth 100000 in
theorem knX7_wealthIn : Cond.instanceMethod yX7_wealthIn ∈ zgt := zgt_in (zt5 (List.mem_of_getElem? (i := 131) rfl)) rfl
set_option maxRecDepth 100000 in
theorem ksX7_wealthIn : Cond.selects RX7 yX7_wealthIn yX7_wealthIn ∈ zgt := zgt_in (zt0 (List.mem_of_getElem? (i := 55) rfl)) rfl
set_option maxRecDepth 100000 in
theorem kcX7_hasThen : Cond.code yX7_hasThen cX7_hasThen 6 (some .int) ∈ zgt := zgt_in (zt5 (List.mem_of_getElem? (i := 105) rfl)) rfl
set_option maxRecDepth 100000 in
theorem knX7_hasThen : Cond.instanceMethod yX7_hasThen ∈ zgt := zgt_in (zt5 (List.mem_of_getElem? (i := 103) rfl)) rfl
set_option maxRecDepth 100000 in
theorem ksX7_hasThen : Cond.selects RX7 yX7_hasThen yX7_hasThen ∈ zgt := zgt_in (zt5 (List.mem_of_getElem? (i := 104) rfl)) rfl
set_option maxRecDepth 100000 in
theorem kcX7_areKin : Cond.code yX7_areKin cX7_areKin 6 (some .int) ∈ zgt := zgt_in (zt5 (List.mem_of_getElem? (i := 124) rfl)) rfl
set_option maxRecDepth 100000 in
theorem knX7_areKin : Cond.instanceMethod yX7_areKin ∈ zgt := zgt_in (zt5 (List.mem_of_getElem? (i := 122) rfl)) rfl
set_option maxRecDepth 100000 in
theorem ksX7_areKin : Cond.selects RX7 yX7_areKin yX7_areKin ∈ zgt := zgt_in (zt5 (List.mem_of_getElem? (i := 123) rfl)) rfl
set_option maxRecDepth 100000 in
theorem kcX7_allMoney : Cond.code yX7_allMoney cX7_allMoney 3 (some .int) ∈ zgt := zgt_in (zt5 (List.mem_of_getElem? (i := 128) rfl)) rfl
set_option maxRecDepth 100000 in
theorem knX7_allMoney : Cond.instanceMethod yX7_allMoney ∈ zgt := zgt_in (zt5 (List.mem_of_getElem? (i := 126) rfl)) rfl
set_option maxRecDepth 100000 in
theorem ksX7_allMoney : Cond.selects RX7 yX7_allMoney yX7_allMoney ∈ zgt := zgt_in (zt5 (List.mem_of_getElem? (i := 127) rfl)) rfl
set_option maxRecDepth 100000 in
theorem kcX7_ruinOf : Cond.code yX7_ruinOf cX7_ruinOf 4 (some .int) ∈ zgt := zgt_in (zt5 (List.mem_of_getElem? (i := 140) rfl)) rfl
set_option maxRecDepth 100000 in
theorem knX7_ruinOf : Cond.instanceMethod yX7_ruinOf ∈ zgt := zgt_in (zt5 (List.mem_of_getElem? (i := 139) rfl)) rfl
set_option maxRecDepth 100000 in
theorem ksX7_ruinOf : Cond.selects RX7 yX7_ruinOf yX7_ruinOf ∈ zgt := zgt_in (zt0 (List.mem_of_getElem? (i := 56) rfl)) rfl
set_option maxRecDepth 100000 in
theorem kcX7_ruined : Cond.code yX7_ruined cX7_ruined 2 (some .int) ∈ zgt := zgt_in (zt5 (List.mem_of_getElem? (i := 136) rfl)) rfl
set_option maxRecDepth 100000 in
theorem knX7_ruined : Cond.instanceMethod yX7_ruined ∈ zgt := zgt_in (zt5 (List.mem_of_getElem? (i := 134) rfl)) rfl
set_option maxRecDepth 100000 in
theorem ksX7_ruined : Cond.selects RX7 yX7_ruined yX7_ruined ∈ zgt := zgt_in (zt5 (List.mem_of_getElem? (i := 135) rfl)) rfl
set_option maxRecDepth 100000 in
theorem kcX7_isSteady : Cond.code yX7_isSteady cX7_isSteady 2 (some .boolean) ∈ zgt := zgt_in (zt5 (List.mem_of_getElem? (i := 152) rfl)) rfl
set_option maxRecDepth 100000 in
theorem knX7_isSteady : Cond.instanceMethod yX7_isSteady ∈ zgt := zgt_in (zt5 (List.mem_of_getElem? (i := 151) rfl)) rfl
set_option maxRecDepth 100000 in
theorem ksX7_isSteady : Cond.selects RX7 yX7_isSteady yX7_isSteady ∈ zgt := zgt_in (zt0 (List.mem_of_getElem? (i := 58) rfl)) rfl
set_option maxRecDepth 100000 in
theorem kcX7_steadyAt : Cond.code yX7_steadyAt cX7_steadyAt 3 (some .int) ∈ zgt := zgt_in (zt5 (List.mem_of_getElem? (i := 148) rfl)) rfl
set_option maxRecDepth 100000 in
theorem knX7_steadyAt : Cond.instanceMethod yX7_steadyAt ∈ zgt := zgt_in (zt5 (List.mem_of_getElem? (i := 147) rfl)) rfl
set_option maxRecDepth 100000 in
theorem ksX7_steadyAt : Cond.selects RX7 yX7_steadyAt yX7_steadyAt ∈ zgt := zgt_in (zt0 (List.mem_of_getElem? (i := 57) rfl)) rfl
set_option maxRecDepth 100000 in
theorem kcX7_first : Cond.code yX7_first cX7_first 6 (some .int) ∈ zgt := zgt_in (zt5 (List.mem_of_getElem? (i := 144) rfl)) rfl
set_option maxRecDepth 100000 in
theorem knX7_first : Cond.instanceMethod yX7_first ∈ zgt := zgt_in (zt5 (List.mem_of_getElem? (i := 142) rfl)) rfl
set_option maxRecDepth 100000 in
theorem ksX7_first : Cond.selects RX7 yX7_first yX7_first ∈ zgt := zgt_in (zt5 (List.mem_of_getElem? (i := 143) rfl)) rfl
set_option maxRecDepth 100000 in
theorem kcX7_richest : Cond.code yX7_richest cX7_richest 5 (some .int) ∈ zgt := zgt_in (zt5 (List.mem_of_getElem? (i := 156) rfl)) rfl
set_option maxRecDepth 100000 in
theorem knX7_richest : Cond.instanceMethod yX7_richest ∈ zgt := zgt_in (zt5 (List.mem_of_getElem? (i := 154) rfl)) rfl
set_option maxRecDepth 100000 in
theorem ksX7_richest : Cond.selects RX7 yX7_richest yX7_richest ∈ zgt := zgt_in (zt5 (List.mem_of_getElem? (i := 155) rfl)) rfl
set_option maxRecDepth 100000 in
theorem kcX7_findSteps : Cond.code yX7_findSteps cX7_findSteps 5 none ∈ zgt := zgt_in (zt5 (List.mem_of_getElem? (i := 168) rfl)) rfl
set_option maxRecDepth 100000 in
theorem knX7_findSteps : Cond.instanceMethod yX7_findSteps ∈ zgt := zgt_in (zt5 (List.mem_of_getElem? (i := 167) rfl)) rfl
set_option maxRecDepth 100000 in
theorem ksX7_findSteps : Cond.selects RX7 yX7_findSteps yX7_findSteps ∈ zgt := zgt_in (zt0 (List.mem_of_getElem? (i := 60) rfl)) rfl
set_option maxRecDepth 100000 in
theorem kcX7_reached : Cond.code yX7_reached cX7_reached 4 (some .int) ∈ zgt := zgt_in (zt5 (List.mem_of_getElem? (i := 164) rfl)) rfl
set_option maxRecDepth 100000 in
theorem knX7_reached : Cond.instanceMethod yX7_reached ∈ zgt := zgt_in (zt5 (List.mem_of_getElem? (i := 163) rfl)) rfl
set_option maxRecDepth 100000 in
theorem ksX7_reached : Cond.selects RX7 yX7_reached yX7_reached ∈ zgt := zgt_in (zt0 (List.mem_of_getElem? (i := 59) rfl)) rfl
set_option maxRecDepth 100000 in
theorem kcX7_kin : Cond.code yX7_kin cX7_kin 4 (some .int) ∈ zgt := zgt_in (zt5 (List.mem_of_getElem? (i := 160) rfl)) rfl
set_option maxRecDepth 100000 in
theorem knX7_kin : Cond.instanceMethod yX7_kin ∈ zgt := zgt_in (zt5 (List.mem_of_getElem? (i := 158) rfl)) rfl
set_option maxRecDepth 100000 in
theorem ksX7_kin : Cond.selects RX7 yX7_kin yX7_kin ∈ zgt := zgt_in (zt5 (List.mem_of_getElem? (i := 159) rfl)) rfl
set_option maxRecDepth 100000 in
theorem kcX7_removed : Cond.code yX7_removed cX7_removed 3 (some .int) ∈ zgt := zgt_in (zt5 (List.mem_of_getElem? (i := 172) rfl)) rfl
set_option maxRecDepth 100000 in
theorem knX7_removed : Cond.instanceMethod yX7_removed ∈ zgt := zgt_in (zt5 (List.mem_of_getElem? (i := 170) rfl)) rfl
set_option maxRecDepth 100000 in
theorem ksX7_removed : Cond.selects RX7 yX7_removed yX7_removed ∈ zgt := zgt_in (zt5 (List.mem_of_getElem? (i := 171) rfl)) rfl
set_option maxRecDepth 100000 in
theorem kcX7_farthest : Cond.code yX7_farthest cX7_farthest 6 (some .int) ∈ zgt := zgt_in (zt5 (List.mem_of_getElem? (i := 176) rfl)) rfl
set_option maxRecDepth 100000 in
theorem knX7_farthest : Cond.instanceMethod yX7_farthest ∈ zgt := zgt_in (zt5 (List.mem_of_getElem? (i := 174) rfl)) rfl
set_option maxRecDepth 100000 in
theorem ksX7_farthest : Cond.selects RX7 yX7_farthest yX7_farthest ∈ zgt := zgt_in (zt5 (List.mem_of_getElem? (i := 175) rfl)) rfl
set_option maxRecDepth 100000 in
theorem kcX7_threes : Cond.code yX7_threes cX7_threes 5 (some .int) ∈ zgt := zgt_in (zt5 (List.mem_of_getElem? (i := 184) rfl)) rfl
set_option maxRecDepth 100000 in
theorem knX7_threes : Cond.instanceMethod yX7_threes ∈ zgt := zgt_in (zt5 (List.mem_of_getElem? (i := 183) rfl)) rfl
set_option maxRecDepth 100000 in
theorem ksX7_threes : Cond.selects RX7 yX7_threes yX7_threes ∈ zgt := zgt_in (zt0 (List.mem_of_getElem? (i := 61) rfl)) rfl
set_option maxRecDepth 100000 in
theorem kcX7_groups : Cond.code yX7_groups cX7_groups 6 (some .int) ∈ zgt := zgt_in (zt5 (List.mem_of_getElem? (i := 180) rfl)) rfl
set_option maxRecDepth 100000 in
theorem knX7_groups : Cond.instanceMethod yX7_groups ∈ zgt := zgt_in (zt5 (List.mem_of_getElem? (i := 178) rfl)) rfl
set_option maxRecDepth 100000 in
theorem ksX7_groups : Cond.selects RX7 yX7_groups yX7_groups ∈ zgt := zgt_in (zt5 (List.mem_of_getElem? (i := 179) rfl)) rfl
set_option maxRecDepth 100000 in
theorem kcX7_areAllKin : Cond.code yX7_areAllKin cX7_areAllKin 3 (some .boolean) ∈ zgt := zgt_in (zt5 (List.mem_of_getElem? (i := 192) rfl)) rfl
set_option maxRecDepth 100000 in
theorem knX7_areAllKin : Cond.instanceMethod yX7_areAllKin ∈ zgt := zgt_in (zt5 (List.mem_of_getElem? (i := 191) rfl)) rfl
set_option maxRecDepth 100000 in
theorem ksX7_areAllKin : Cond.selects RX7 yX7_areAllKin yX7_areAllKin ∈ zgt := zgt_in (zt0 (List.mem_of_getElem? (i := 62) rfl)) rfl
set_option maxRecDepth 100000 in
theorem kcX7_clan : Cond.code yX7_clan cX7_clan 4 (some .int) ∈ zgt := zgt_in (zt5 (List.mem_of_getElem? (i := 188) rfl)) rfl
set_option maxRecDepth 100000 in
theorem knX7_clan : Cond.instanceMethod yX7_clan ∈ zgt := zgt_in (zt5 (List.mem_of_getElem? (i := 186) rfl)) rfl
set_option maxRecDepth 100000 in
theorem ksX7_clan : Cond.selects RX7 yX7_clan yX7_clan ∈ zgt := zgt_in (zt5 (List.mem_of_getElem? (i := 187) rfl)) rfl
set_option maxRecDepth 100000 in
theorem kcX7_notShort : Cond.code yX7_notShort cX7_notShort 1 (some .int) ∈ zgt := zgt_in (zt5 (List.mem_of_getElem? (i := 199) rfl)) rfl
set_option maxRecDepth 100000 in
theorem ktX7_notShort : Cond.static yX7_notShort ∈ zgt := zgt_in (zt5 (List.mem_of_getElem? (i := 198) rfl)) rfl
set_option maxRecDepth 100000 in
theorem kcX7_moneySigning : Cond.code yX7_moneySigning cX7_moneySigning 6 (some .int) ∈ zgt := zgt_in (zt5 (List.mem_of_getElem? (i := 207) rfl)) rfl
set_option maxRecDepth 100000 in
theorem knX7_moneySigning : Cond.instanceMethod yX7_moneySigning ∈ zgt := zgt_in (zt5 (List.mem_of_getElem? (i := 206) rfl)) rfl
set_option maxRecDepth 100000 in
theorem ksX7_moneySigning : Cond.selects RX7 yX7_moneySigning yX7_moneySigning ∈ zgt := zgt_in (zt0 (List.mem_of_getElem? (i := 64) rfl)) rfl
set_option maxRecDepth 100000 in
theorem kcX7_bestTurn : Cond.code yX7_bestTurn cX7_bestTurn 9 (some .int) ∈ zgt := zgt_in (zt5 (List.mem_of_getElem? (i := 203) rfl)) rfl
set_option maxRecDepth 100000 in
theorem knX7_bestTurn : Cond.instanceMethod yX7_bestTurn ∈ zgt := zgt_in (zt5 (List.mem_of_getElem? (i := 202) rfl)) rfl
set_option maxRecDepth 100000 in
theorem ksX7_bestTurn : Cond.selects RX7 yX7_bestTurn yX7_bestTurn ∈ zgt := zgt_in (zt0 (List.mem_of_getElem? (i := 63) rfl)) rfl
set_option maxRecDepth 100000 in
theorem kcX7_bestSign : Cond.code yX7_bestSign cX7_bestSign 4 (some .int) ∈ zgt := zgt_in (zt5 (List.mem_of_getElem? (i := 196) rfl)) rfl
set_option maxRecDepth 100000 in
theorem knX7_bestSign : Cond.instanceMethod yX7_bestSign ∈ zgt := zgt_in (zt5 (List.mem_of_getElem? (i := 194) rfl)) rfl
set_option maxRecDepth 100000 in
theorem ksX7_bestSign : Cond.selects RX7 yX7_bestSign yX7_bestSign ∈ zgt := zgt_in (zt5 (List.mem_of_getElem? (i := 195) rfl)) rfl
set_option maxRecDepth 100000 in
theorem kcX7_bestCut : Cond.code yX7_bestCut cX7_bestCut 4 (some .int) ∈ zgt := zgt_in (zt5 (List.mem_of_getElem? (i := 211) rfl)) rfl
set_option maxRecDepth 100000 in
theorem knX7_bestCut : Cond.instanceMethod yX7_bestCut ∈ zgt := zgt_in (zt5 (List.mem_of_getElem? (i := 209) rfl)) rfl
set_option maxRecDepth 100000 in
theorem ksX7_bestCut : Cond.selects RX7 yX7_bestCut yX7_bestCut ∈ zgt := zgt_in (zt5 (List.mem_of_getElem? (i := 210) rfl)) rfl
set_option maxRecDepth 100000 in
theorem kcX7_feudCosts : Cond.code yX7_feudCosts cX7_feudCosts 7 (some .int) ∈ zgt := zgt_in (zt5 (List.mem_of_getElem? (i := 215) rfl)) rfl
set_option maxRecDepth 100000 in
theorem knX7_feudCosts : Cond.instanceMethod yX7_feudCosts ∈ zgt := zgt_in (zt5 (List.mem_of_getElem? (i := 213) rfl)) rfl
set_option maxRecDepth 100000 in
theorem ksX7_feudCosts : Cond.selects RX7 yX7_feudCosts yX7_feudCosts ∈ zgt := zgt_in (zt5 (List.mem_of_getElem? (i := 214) rfl)) rfl
set_option maxRecDepth 100000 in
theorem kcX7_peace : Cond.code yX7_peace cX7_peace 4 (some .int) ∈ zgt := zgt_in (zt5 (List.mem_of_getElem? (i := 224) rfl)) rfl
set_option maxRecDepth 100000 in
theorem knX7_peace : Cond.instanceMethod yX7_peace ∈ zgt := zgt_in (zt5 (List.mem_of_getElem? (i := 222) rfl)) rfl
set_option maxRecDepth 100000 in
theorem ksX7_peace : Cond.selects RX7 yX7_peace yX7_peace ∈ zgt := zgt_in (zt5 (List.mem_of_getElem? (i := 223) rfl)) rfl
set_option maxRecDepth 100000 in
theorem kcX7_will : Cond.code yX7_will cX7_will 5 (some .int) ∈ zgt := zgt_in (zt5 (List.mem_of_getElem? (i := 228) rfl)) rfl
set_option maxRecDepth 100000 in
theorem knX7_will : Cond.instanceMethod yX7_will ∈ zgt := zgt_in (zt5 (List.mem_of_getElem? (i := 226) rfl)) rfl
set_option maxRecDepth 100000 in
theorem ksX7_will : Cond.selects RX7 yX7_will yX7_will ∈ zgt := zgt_in (zt5 (List.mem_of_getElem? (i := 227) rfl)) rfl
set_option maxRecDepth 100000 in
theorem kcX7_leastRoom : Cond.code yX7_leastRoom cX7_leastRoom 5 (some .int) ∈ zgt := zgt_in (zt6 (List.mem_of_getElem? (i := 0) rfl)) rfl
set_option maxRecDepth 100000 in
theorem knX7_leastRoom : Cond.instanceMethod yX7_leastRoom ∈ zgt := zgt_in (zt5 (List.mem_of_getElem? (i := 239) rfl)) rfl
set_option maxRecDepth 100000 in
theorem ksX7_leastRoom : Cond.selects RX7 yX7_leastRoom yX7_leastRoom ∈ zgt := zgt_in (zt0 (List.mem_of_getElem? (i := 67) rfl)) rfl
set_option maxRecDepth 100000 in
theorem kcX7_findRooms : Cond.code yX7_findRooms cX7_findRooms 5 (some .boolean) ∈ zgt := zgt_in (zt5 (List.mem_of_getElem? (i := 236) rfl)) rfl
set_option maxRecDepth 100000 in
theorem knX7_findRooms : Cond.instanceMethod yX7_findRooms ∈ zgt := zgt_in (zt5 (List.mem_of_getElem? (i := 235) rfl)) rfl
set_option maxRecDepth 100000 in
theorem ksX7_findRooms : Cond.selects RX7 yX7_findRooms yX7_findRooms ∈ zgt := zgt_in (zt0 (List.mem_of_getElem? (i := 66) rfl)) rfl
set_option maxRecDepth 100000 in
theorem kcX7_rooms : Cond.code yX7_rooms cX7_rooms 3 (some .int) ∈ zgt := zgt_in (zt5 (List.mem_of_getElem? (i := 232) rfl)) rfl
set_option maxRecDepth 100000 in
theorem knX7_rooms : Cond.instanceMethod yX7_rooms ∈ zgt := zgt_in (zt5 (List.mem_of_getElem? (i := 230) rfl)) rfl
set_option maxRecDepth 100000 in
theorem ksX7_rooms : Cond.selects RX7 yX7_rooms yX7_rooms ∈ zgt := zgt_in (zt5 (List.mem_of_getElem? (i := 231) rfl)) rfl
set_option maxRecDepth 100000 in
theorem kcX7_isCouple : Cond.code yX7_isCouple cX7_isCouple 5 (some .boolean) ∈ zgt := zgt_in (zt6 (List.mem_of_getElem? (i := 15) rfl)) rfl
set_option maxRecDepth 100000 in
theorem knX7_isCouple : Cond.instanceMethod yX7_isCouple ∈ zgt := zgt_in (zt6 (List.mem_of_getElem? (i := 14) rfl)) rfl
set_option maxRecDepth 100000 in
theorem ksX7_isCouple : Cond.selects RX7 yX7_isCouple yX7_isCouple ∈ zgt := zgt_in (zt0 (List.mem_of_getElem? (i := 69) rfl)) rfl
set_option maxRecDepth 100000 in
theorem kcX7_lowest : Cond.code yX7_lowest cX7_lowest 2 (some .int) ∈ zgt := zgt_in (zt6 (List.mem_of_getElem? (i := 11) rfl)) rfl
set_option maxRecDepth 100000 in
theorem ktX7_lowest : Cond.static yX7_lowest ∈ zgt := zgt_in (zt6 (List.mem_of_getElem? (i := 10) rfl)) rfl
set_option maxRecDepth 100000 in
theorem kcX7_findCouples : Cond.code yX7_findCouples cX7_findCouples 8 none ∈ zgt := zgt_in (zt6 (List.mem_of_getElem? (i := 8) rfl)) rfl
set_option maxRecDepth 100000 in
theorem knX7_findCouples : Cond.instanceMethod yX7_findCouples ∈ zgt := zgt_in (zt6 (List.mem_of_getElem? (i := 7) rfl)) rfl
set_option maxRecDepth 100000 in
theorem ksX7_findCouples : Cond.selects RX7 yX7_findCouples yX7_findCouples ∈ zgt := zgt_in (zt0 (List.mem_of_getElem? (i := 68) rfl)) rfl
set_option maxRecDepth 100000 in
theorem kcX7_partnerIn : Cond.code yX7_partnerIn cX7_partnerIn 6 (some .int) ∈ zgt := zgt_in (zt6 (List.mem_of_getElem? (i := 23) rfl)) rfl
set_option maxRecDepth 100000 in
theorem knX7_partnerIn : Cond.instanceMethod yX7_partnerIn ∈ zgt := zgt_in (zt6 (List.mem_of_getElem? (i := 22) rfl)) rfl
set_option maxRecDepth 100000 in
theorem ksX7_partnerIn : Cond.selects RX7 yX7_partnerIn yX7_partnerIn ∈ zgt := zgt_in (zt0 (List.mem_of_getElem? (i := 71) rfl)) rfl
set_option maxRecDepth 100000 in
theorem kcX7_partnerOf : Cond.code yX7_partnerOf cX7_partnerOf 6 (some .int) ∈ zgt := zgt_in (zt6 (List.mem_of_getElem? (i := 19) rfl)) rfl
set_option maxRecDepth 100000 in
theorem knX7_partnerOf : Cond.instanceMethod yX7_partnerOf ∈ zgt := zgt_in (zt6 (List.mem_of_getElem? (i := 18) rfl)) rfl
set_option maxRecDepth 100000 in
theorem ksX7_partnerOf : Cond.selects RX7 yX7_partnerOf yX7_partnerOf ∈ zgt := zgt_in (zt0 (List.mem_of_getElem? (i := 70) rfl)) rfl
set_option maxRecDepth 100000 in
theorem kcX7_couples : Cond.code yX7_couples cX7_couples 4 (some .int) ∈ zgt := zgt_in (zt6 (List.mem_of_getElem? (i := 4) rfl)) rfl
set_option maxRecDepth 100000 in
theorem knX7_couples : Cond.instanceMethod yX7_couples ∈ zgt := zgt_in (zt6 (List.mem_of_getElem? (i := 2) rfl)) rfl
set_option maxRecDepth 100000 in
theorem ksX7_couples : Cond.selects RX7 yX7_couples yX7_couples ∈ zgt := zgt_in (zt6 (List.mem_of_getElem? (i := 3) rfl)) rfl
set_option maxRecDepth 100000 in
theorem kcX7_turned : Cond.code yX7_turned cX7_turned 4 (some .int) ∈ zgt := zgt_in (zt6 (List.mem_of_getElem? (i := 42) rfl)) rfl
set_option maxRecDepth 100000 in
theorem ktX7_turned : Cond.static yX7_turned ∈ zgt := zgt_in (zt6 (List.mem_of_getElem? (i := 41) rfl)) rfl
set_option maxRecDepth 100000 in
theorem kcX7_exchanges : Cond.code yX7_exchanges cX7_exchanges 6 none ∈ zgt := zgt_in (zt6 (List.mem_of_getElem? (i := 39) rfl)) rfl
set_option maxRecDepth 100000 in
theorem knX7_exchanges : Cond.instanceMethod yX7_exchanges ∈ zgt := zgt_in (zt6 (List.mem_of_getElem? (i := 38) rfl)) rfl
set_option maxRecDepth 100000 in
theorem ksX7_exchanges : Cond.selects RX7 yX7_exchanges yX7_exchanges ∈ zgt := zgt_in (zt0 (List.mem_of_getElem? (i := 74) rfl)) rfl
set_option maxRecDepth 100000 in
theorem kcX7_moneyChanged : Cond.code yX7_moneyChanged cX7_moneyChanged 5 (some .int) ∈ zgt := zgt_in (zt6 (List.mem_of_getElem? (i := 31) rfl)) rfl
set_option maxRecDepth 100000 in
theorem knX7_moneyChanged : Cond.instanceMethod yX7_moneyChanged ∈ zgt := zgt_in (zt6 (List.mem_of_getElem? (i := 30) rfl)) rfl
set_option maxRecDepth 100000 in
theorem ksX7_moneyChanged : Cond.selects RX7 yX7_moneyChanged yX7_moneyChanged ∈ zgt := zgt_in (zt0 (List.mem_of_getElem? (i := 72) rfl)) rfl
set_option maxRecDepth 100000 in
theorem kcX7_buys : Cond.code yX7_buys cX7_buys 8 (some .int) ∈ zgt := zgt_in (zt6 (List.mem_of_getElem? (i := 27) rfl)) rfl
set_option maxRecDepth 100000 in
theorem knX7_buys : Cond.instanceMethod yX7_buys ∈ zgt := zgt_in (zt6 (List.mem_of_getElem? (i := 25) rfl)) rfl
set_option maxRecDepth 100000 in
theorem ksX7_buys : Cond.selects RX7 yX7_buys yX7_buys ∈ zgt := zgt_in (zt6 (List.mem_of_getElem? (i := 26) rfl)) rfl
set_option maxRecDepth 100000 in
theorem kcX7_matters : Cond.code yX7_matters cX7_matters 6 (some .int) ∈ zgt := zgt_in (zt6 (List.mem_of_getElem? (i := 50) rfl)) rfl
set_option maxRecDepth 100000 in
theorem knX7_matters : Cond.instanceMethod yX7_matters ∈ zgt := zgt_in (zt6 (List.mem_of_getElem? (i := 48) rfl)) rfl
set_option maxRecDepth 100000 in
theorem ksX7_matters : Cond.selects RX7 yX7_matters yX7_matters ∈ zgt := zgt_in (zt6 (List.mem_of_getElem? (i := 49) rfl)) rfl
set_option maxRecDepth 100000 in
theorem kcX7_divisor : Cond.code yX7_divisor cX7_divisor 10 (some .long) ∈ zgt := zgt_in (zt6 (List.mem_of_getElem? (i := 69) rfl)) rfl
set_option maxRecDepth 100000 in
theorem ktX7_divisor : Cond.static yX7_divisor ∈ zgt := zgt_in (zt6 (List.mem_of_getElem? (i := 68) rfl)) rfl
set_option maxRecDepth 100000 in
theorem kcX7_partOf : Cond.code yX7_partOf cX7_partOf 5 (some .long) ∈ zgt := zgt_in (zt6 (List.mem_of_getElem? (i := 66) rfl)) rfl
set_option maxRecDepth 100000 in
theorem ktX7_partOf : Cond.static yX7_partOf ∈ zgt := zgt_in (zt6 (List.mem_of_getElem? (i := 65) rfl)) rfl
set_option maxRecDepth 100000 in
theorem kcX7_deaths : Cond.code yX7_deaths cX7_deaths 16 (some .long) ∈ zgt := zgt_in (zt6 (List.mem_of_getElem? (i := 58) rfl)) rfl
set_option maxRecDepth 100000 in
theorem knX7_deaths : Cond.instanceMethod yX7_deaths ∈ zgt := zgt_in (zt6 (List.mem_of_getElem? (i := 56) rfl)) rfl
set_option maxRecDepth 100000 in
theorem ksX7_deaths : Cond.selects RX7 yX7_deaths yX7_deaths ∈ zgt := zgt_in (zt6 (List.mem_of_getElem? (i := 57) rfl)) rfl
set_option maxRecDepth 100000 in
theorem kcX7_mean : Cond.code yX7_mean cX7_mean 2 (some .long) ∈ zgt := zgt_in (zt6 (List.mem_of_getElem? (i := 73) rfl)) rfl
set_option maxRecDepth 100000 in
theorem knX7_mean : Cond.instanceMethod yX7_mean ∈ zgt := zgt_in (zt6 (List.mem_of_getElem? (i := 71) rfl)) rfl
set_option maxRecDepth 100000 in
theorem ksX7_mean : Cond.selects RX7 yX7_mean yX7_mean ∈ zgt := zgt_in (zt6 (List.mem_of_getElem? (i := 72) rfl)) rfl
set_option maxRecDepth 100000 in
theorem kcX7_with : Cond.code yX7_with cX7_with 3 (some .int) ∈ zgt := zgt_in (zt6 (List.mem_of_getElem? (i := 84) rfl)) rfl
set_option maxRecDepth 100000 in
theorem ktX7_with : Cond.static yX7_with ∈ zgt := zgt_in (zt6 (List.mem_of_getElem? (i := 83) rfl)) rfl
set_option maxRecDepth 100000 in
theorem kcX7_findTwo : Cond.code yX7_findTwo cX7_findTwo 5 none ∈ zgt := zgt_in (zt6 (List.mem_of_getElem? (i := 81) rfl)) rfl
set_option maxRecDepth 100000 in
theorem knX7_findTwo : Cond.instanceMethod yX7_findTwo ∈ zgt := zgt_in (zt6 (List.mem_of_getElem? (i := 80) rfl)) rfl
set_option maxRecDepth 100000 in
theorem ksX7_findTwo : Cond.selects RX7 yX7_findTwo yX7_findTwo ∈ zgt := zgt_in (zt0 (List.mem_of_getElem? (i := 78) rfl)) rfl
set_option maxRecDepth 100000 in
theorem kcX7_two : Cond.code yX7_two cX7_two 6 (some .int) ∈ zgt := zgt_in (zt6 (List.mem_of_getElem? (i := 77) rfl)) rfl
set_option maxRecDepth 100000 in
theorem knX7_two : Cond.instanceMethod yX7_two ∈ zgt := zgt_in (zt6 (List.mem_of_getElem? (i := 75) rfl)) rfl
set_option maxRecDepth 100000 in
theorem ksX7_two : Cond.selects RX7 yX7_two yX7_two ∈ zgt := zgt_in (zt6 (List.mem_of_getElem? (i := 76) rfl)) rfl
set_option maxRecDepth 100000 in
theorem kcX7_isSo : Cond.code yX7_isSo cX7_isSo 4 (some .boolean) ∈ zgt := zgt_in (zt6 (List.mem_of_getElem? (i := 96) rfl)) rfl
set_option maxRecDepth 100000 in
theorem knX7_isSo : Cond.instanceMethod yX7_isSo ∈ zgt := zgt_in (zt6 (List.mem_of_getElem? (i := 95) rfl)) rfl
set_option maxRecDepth 100000 in
theorem ksX7_isSo : Cond.selects RX7 yX7_isSo yX7_isSo ∈ zgt := zgt_in (zt0 (List.mem_of_getElem? (i := 80) rfl)) rfl
set_option maxRecDepth 100000 in
theorem kcX7_bitsFor : Cond.code yX7_bitsFor cX7_bitsFor 7 (some .int) ∈ zgt := zgt_in (zt6 (List.mem_of_getElem? (i := 92) rfl)) rfl
set_option maxRecDepth 100000 in
theorem knX7_bitsFor : Cond.instanceMethod yX7_bitsFor ∈ zgt := zgt_in (zt6 (List.mem_of_getElem? (i := 91) rfl)) rfl
set_option maxRecDepth 100000 in
theorem ksX7_bitsFor : Cond.selects RX7 yX7_bitsFor yX7_bitsFor ∈ zgt := zgt_in (zt0 (List.mem_of_getElem? (i := 79) rfl)) rfl
set_option maxRecDepth 100000 in
theorem kcX7_whatIs : Cond.code yX7_whatIs cX7_whatIs 4 (some .int) ∈ zgt := zgt_in (zt6 (List.mem_of_getElem? (i := 88) rfl)) rfl
set_option maxRecDepth 100000 in
theorem knX7_whatIs : Cond.instanceMethod yX7_whatIs ∈ zgt := zgt_in (zt6 (List.mem_of_getElem? (i := 86) rfl)) rfl
set_option maxRecDepth 100000 in
theorem ksX7_whatIs : Cond.selects RX7 yX7_whatIs yX7_whatIs ∈ zgt := zgt_in (zt6 (List.mem_of_getElem? (i := 87) rfl)) rfl
set_option maxRecDepth 100000 in
theorem kcX7_row : Cond.code yX7_row cX7_row 3 (some .int) ∈ zgt := zgt_in (zt6 (List.mem_of_getElem? (i := 100) rfl)) rfl
set_option maxRecDepth 100000 in
theorem knX7_row : Cond.instanceMethod yX7_row ∈ zgt := zgt_in (zt6 (List.mem_of_getElem? (i := 98) rfl)) rfl
set_option maxRecDepth 100000 in
theorem ksX7_row : Cond.selects RX7 yX7_row yX7_row ∈ zgt := zgt_in (zt6 (List.mem_of_getElem? (i := 99) rfl)) rfl
set_option maxRecDepth 100000 in
theorem kcX7_judge : Cond.code yX7_judge cX7_judge 3 (some .int) ∈ zgt := zgt_in (zt6 (List.mem_of_getElem? (i := 104) rfl)) rfl
set_option maxRecDepth 100000 in
theorem knX7_judge : Cond.instanceMethod yX7_judge ∈ zgt := zgt_in (zt6 (List.mem_of_getElem? (i := 102) rfl)) rfl
set_option maxRecDepth 100000 in
theorem ksX7_judge : Cond.selects RX7 yX7_judge yX7_judge ∈ zgt := zgt_in (zt6 (List.mem_of_getElem? (i := 103) rfl)) rfl
set_option maxRecDepth 100000 in
theorem kcX7_clear : Cond.code yX7_clear cX7_clear 2 (some .int) ∈ zgt := zgt_in (zt6 (List.mem_of_getElem? (i := 108) rfl)) rfl
set_option maxRecDepth 100000 in
theorem knX7_clear : Cond.instanceMethod yX7_clear ∈ zgt := zgt_in (zt6 (List.mem_of_getElem? (i := 106) rfl)) rfl
set_option maxRecDepth 100000 in
theorem ksX7_clear : Cond.selects RX7 yX7_clear yX7_clear ∈ zgt := zgt_in (zt6 (List.mem_of_getElem? (i := 107) rfl)) rfl
set_option maxRecDepth 100000 in
theorem kcX7_draw : Cond.code yX7_draw cX7_draw 2 (some .int) ∈ zgt := zgt_in (zt6 (List.mem_of_getElem? (i := 116) rfl)) rfl
set_option maxRecDepth 100000 in
theorem knX7_draw : Cond.instanceMethod yX7_draw ∈ zgt := zgt_in (zt6 (List.mem_of_getElem? (i := 115) rfl)) rfl
set_option maxRecDepth 100000 in
theorem ksX7_draw : Cond.selects RX7 yX7_draw yX7_draw ∈ zgt := zgt_in (zt0 (List.mem_of_getElem? (i := 81) rfl)) rfl
set_option maxRecDepth 100000 in
theorem kcX7_lots : Cond.code yX7_lots cX7_lots 10 (some .int) ∈ zgt := zgt_in (zt6 (List.mem_of_getElem? (i := 112) rfl)) rfl
set_option maxRecDepth 100000 in
theorem knX7_lots : Cond.instanceMethod yX7_lots ∈ zgt := zgt_in (zt6 (List.mem_of_getElem? (i := 110) rfl)) rfl
set_option maxRecDepth 100000 in
theorem ksX7_lots : Cond.selects RX7 yX7_lots yX7_lots ∈ zgt := zgt_in (zt6 (List.mem_of_getElem? (i := 111) rfl)) rfl
set_option maxRecDepth 100000 in
theorem kcX7_count : Cond.code yX7_count cX7_count 4 (some .int) ∈ zgt := zgt_in (zt6 (List.mem_of_getElem? (i := 123) rfl)) rfl
set_option maxRecDepth 100000 in
theorem knX7_count : Cond.instanceMethod yX7_count ∈ zgt := zgt_in (zt6 (List.mem_of_getElem? (i := 121) rfl)) rfl
set_option maxRecDepth 100000 in
theorem ksX7_count : Cond.selects RX7 yX7_count yX7_count ∈ zgt := zgt_in (zt6 (List.mem_of_getElem? (i := 122) rfl)) rfl
set_option maxRecDepth 100000 in
theorem kcJ11_isValidCodePoint_9a6ad : Cond.code yJ11_isValidCodePoint_9a6ad cJ11_isValidCodePoint_9a6ad 2 (some .boolean) ∈ zgt := zgt_in (zt2 (List.mem_of_getElem? (i := 88) rfl)) rfl
set_option maxRecDepth 100000 in
theorem ktJ11_isValidCodePoint_9a6ad : Cond.static yJ11_isValidCodePoint_9a6ad ∈ zgt := zgt_in (zt2 (List.mem_of_getElem? (i := 87) rfl)) rfl
set_option maxRecDepth 100000 in
theorem kcJ11_highSurrogate_5068e : Cond.code yJ11_highSurrogate_5068e cJ11_highSurrogate_5068e 1 (some .char) ∈ zgt := zgt_in (zt2 (List.mem_of_getElem? (i := 91) rfl)) rfl
set_option maxRecDepth 100000 in
theorem ktJ11_highSurrogate_5068e : Cond.static yJ11_highSurrogate_5068e ∈ zgt := zgt_in (zt2 (List.mem_of_getElem? (i := 90) rfl)) rfl
set_option maxRecDepth 100000 in
theorem kcJ11_lowSurrogate_5068e : Cond.code yJ11_lowSurrogate_5068e cJ11_lowSurrogate_5068e 1 (some .char) ∈ zgt := zgt_in (zt2 (List.mem_of_getElem? (i := 95) rfl)) rfl
set_option maxRecDepth 100000 in
theorem ktJ11_lowSurrogate_5068e : Cond.static yJ11_lowSurrogate_5068e ∈ zgt := zgt_in (zt2 (List.mem_of_getElem? (i := 94) rfl)) rfl
set_option maxRecDepth 100000 in
theorem kcJ6_bitCount_0f7a4 : Cond.code yJ6_bitCount_0f7a4 cJ6_bitCount_0f7a4 1 (some .int) ∈ zgt := zgt_in (zt2 (List.mem_of_getElem? (i := 218) rfl)) rfl
set_option maxRecDepth 100000 in
theorem ktJ6_bitCount_0f7a4 : Cond.static yJ6_bitCount_0f7a4 ∈ zgt := zgt_in (zt2 (List.mem_of_getElem? (i := 217) rfl)) rfl
set_option maxRecDepth 100000 in
theorem kcJ9_abs_0f7a4 : Cond.code yJ9_abs_0f7a4 cJ9_abs_0f7a4 1 (some .int) ∈ zgt := zgt_in (zt3 (List.mem_of_getElem? (i := 214) rfl)) rfl
set_option maxRecDepth 100000 in
theorem ktJ9_abs_0f7a4 : Cond.static yJ9_abs_0f7a4 ∈ zgt := zgt_in (zt3 (List.mem_of_getElem? (i := 213) rfl)) rfl
set_option maxRecDepth 100000 in
theorem kcJ9_max_7cf53 : Cond.code yJ9_max_7cf53 cJ9_max_7cf53 2 (some .int) ∈ zgt := zgt_in (zt2 (List.mem_of_getElem? (i := 41) rfl)) rfl
set_option maxRecDepth 100000 in
theorem ktJ9_max_7cf53 : Cond.static yJ9_max_7cf53 ∈ zgt := zgt_in (zt2 (List.mem_of_getElem? (i := 40) rfl)) rfl
set_option maxRecDepth 100000 in
theorem kcJ9_min_7cf53 : Cond.code yJ9_min_7cf53 cJ9_min_7cf53 2 (some .int) ∈ zgt := zgt_in (zt2 (List.mem_of_getElem? (i := 44) rfl)) rfl
set_option maxRecDepth 100000 in
theorem ktJ9_min_7cf53 : Cond.static yJ9_min_7cf53 ∈ zgt := zgt_in (zt2 (List.mem_of_getElem? (i := 43) rfl)) rfl
set_option maxRecDepth 100000 in
theorem kcJ0_length_8abf5 : Cond.code yJ0_length_8abf5 cJ0_length_8abf5 1 (some .int) ∈ zgt := zgt_in (zt2 (List.mem_of_getElem? (i := 28) rfl)) rfl
set_option maxRecDepth 100000 in
theorem knJ0_length_8abf5 : Cond.instanceMethod yJ0_length_8abf5 ∈ zgt := zgt_in (zt2 (List.mem_of_getElem? (i := 26) rfl)) rfl
set_option maxRecDepth 100000 in
theorem ksJ0_length_8abf5 : Cond.selects RJ0 yJ0_length_8abf5 yJ0_length_8abf5 ∈ zgt := zgt_in (zt2 (List.mem_of_getElem? (i := 27) rfl)) rfl
set_option maxRecDepth 100000 in
theorem kcJ0_indexOf_0f7a4 : Cond.code yJ0_indexOf_0f7a4 cJ0_indexOf_0f7a4 2 (some .int) ∈ zgt := zgt_in (zt2 (List.mem_of_getElem? (i := 14) rfl)) rfl
set_option maxRecDepth 100000 in
theorem knJ0_indexOf_0f7a4 : Cond.instanceMethod yJ0_indexOf_0f7a4 ∈ zgt := zgt_in (zt2 (List.mem_of_getElem? (i := 12) rfl)) rfl
set_option maxRecDepth 100000 in
theorem ksJ0_indexOf_0f7a4 : Cond.selects RJ0 yJ0_indexOf_0f7a4 yJ0_indexOf_0f7a4 ∈ zgt := zgt_in (zt2 (List.mem_of_getElem? (i := 13) rfl)) rfl
set_option maxRecDepth 100000 in
theorem kcJ0_indexOf_7cf53 : Cond.code yJ0_indexOf_7cf53 cJ0_indexOf_7cf53 3 (some .int) ∈ zgt := zgt_in (zt2 (List.mem_of_getElem? (i := 18) rfl)) rfl
set_option maxRecDepth 100000 in
theorem knJ0_indexOf_7cf53 : Cond.instanceMethod yJ0_indexOf_7cf53 ∈ zgt := zgt_in (zt2 (List.mem_of_getElem? (i := 16) rfl)) rfl
set_option maxRecDepth 100000 in
theorem ksJ0_indexOf_7cf53 : Cond.selects RJ0 yJ0_indexOf_7cf53 yJ0_indexOf_7cf53 ∈ zgt := zgt_in (zt2 (List.mem_of_getElem? (i := 17) rfl)) rfl
set_option maxRecDepth 100000 in
theorem kcJ0_coder_7d493 : Cond.code yJ0_coder_7d493 cJ0_coder_7d493 1 (some .byte) ∈ zgt := zgt_in (zt2 (List.mem_of_getElem? (i := 32) rfl)) rfl
set_option maxRecDepth 100000 in
theorem knJ0_coder_7d493 : Cond.instanceMethod yJ0_coder_7d493 ∈ zgt := zgt_in (zt2 (List.mem_of_getElem? (i := 30) rfl)) rfl
set_option maxRecDepth 100000 in
theorem ksJ0_coder_7d493 : Cond.selects RJ0 yJ0_coder_7d493 yJ0_coder_7d493 ∈ zgt := zgt_in (zt2 (List.mem_of_getElem? (i := 31) rfl)) rfl
set_option maxRecDepth 100000 in
theorem kcJ0_isLatin1_aae02 : Cond.code yJ0_isLatin1_aae02 cJ0_isLatin1_aae02 1 (some .boolean) ∈ zgt := zgt_in (zt2 (List.mem_of_getElem? (i := 22) rfl)) rfl
set_option maxRecDepth 100000 in
theorem knJ0_isLatin1_aae02 : Cond.instanceMethod yJ0_isLatin1_aae02 ∈ zgt := zgt_in (zt2 (List.mem_of_getElem? (i := 20) rfl)) rfl
set_option maxRecDepth 100000 in
theorem ksJ0_isLatin1_aae02 : Cond.selects RJ0 yJ0_isLatin1_aae02 yJ0_isLatin1_aae02 ∈ zgt := zgt_in (zt2 (List.mem_of_getElem? (i := 21) rfl)) rfl
set_option maxRecDepth 100000 in
theorem kcJ0_checkBoundsBeginEnd_23922 : Cond.code yJ0_checkBoundsBeginEnd_23922 cJ0_checkBoundsBeginEnd_23922 3 none ∈ zgt := zgt_in (zt2 (List.mem_of_getElem? (i := 65) rfl)) rfl
set_option maxRecDepth 100000 in
theorem ktJ0_checkBoundsBeginEnd_23922 : Cond.static yJ0_checkBoundsBeginEnd_23922 ∈ zgt := zgt_in (zt2 (List.mem_of_getElem? (i := 64) rfl)) rfl
set_option maxRecDepth 100000 in
theorem kcJ1_canEncode_9a6ad : Cond.code yJ1_canEncode_9a6ad cJ1_canEncode_9a6ad 1 (some .boolean) ∈ zgt := zgt_in (zt2 (List.mem_of_getElem? (i := 38) rfl)) rfl
set_option maxRecDepth 100000 in
theorem ktJ1_canEncode_9a6ad : Cond.static yJ1_canEncode_9a6ad ∈ zgt := zgt_in (zt2 (List.mem_of_getElem? (i := 37) rfl)) rfl
set_option maxRecDepth 100000 in
theorem kcJ1_indexOf_4cfef : Cond.code yJ1_indexOf_4cfef cJ1_indexOf_4cfef 4 (some .int) ∈ zgt := zgt_in (zt2 (List.mem_of_getElem? (i := 35) rfl)) rfl
set_option maxRecDepth 100000 in
theorem ktJ1_indexOf_4cfef : Cond.static yJ1_indexOf_4cfef ∈ zgt := zgt_in (zt2 (List.mem_of_getElem? (i := 34) rfl)) rfl
set_option maxRecDepth 100000 in
theorem kcJ1_indexOfChar_4cfef : Cond.code yJ1_indexOfChar_4cfef cJ1_indexOfChar_4cfef 6 (some .int) ∈ zgt := zgt_in (zt2 (List.mem_of_getElem? (i := 47) rfl)) rfl
set_option maxRecDepth 100000 in
theorem ktJ1_indexOfChar_4cfef : Cond.static yJ1_indexOfChar_4cfef ∈ zgt := zgt_in (zt2 (List.mem_of_getElem? (i := 46) rfl)) rfl
set_option maxRecDepth 100000 in
theorem kcJ2_getChar_3b067 : Cond.code yJ2_getChar_3b067 cJ2_getChar_3b067 2 (some .char) ∈ zgt := zgt_in (zt2 (List.mem_of_getElem? (i := 76) rfl)) rfl
set_option maxRecDepth 100000 in
theorem ktJ2_getChar_3b067 : Cond.static yJ2_getChar_3b067 ∈ zgt := zgt_in (zt2 (List.mem_of_getElem? (i := 75) rfl)) rfl
set_option maxRecDepth 100000 in
theorem kcJ2_length_9d52b : Cond.code yJ2_length_9d52b cJ2_length_9d52b 1 (some .int) ∈ zgt := zgt_in (zt2 (List.mem_of_getElem? (i := 62) rfl)) rfl
set_option maxRecDepth 100000 in
theorem ktJ2_length_9d52b : Cond.static yJ2_length_9d52b ∈ zgt := zgt_in (zt2 (List.mem_of_getElem? (i := 61) rfl)) rfl
set_option maxRecDepth 100000 in
theorem kcJ2_indexOf_4cfef : Cond.code yJ2_indexOf_4cfef cJ2_indexOf_4cfef 4 (some .int) ∈ zgt := zgt_in (zt2 (List.mem_of_getElem? (i := 50) rfl)) rfl
set_option maxRecDepth 100000 in
theorem ktJ2_indexOf_4cfef : Cond.static yJ2_indexOf_4cfef ∈ zgt := zgt_in (zt2 (List.mem_of_getElem? (i := 49) rfl)) rfl
set_option maxRecDepth 100000 in
theorem kcJ2_indexOfChar_4cfef : Cond.code yJ2_indexOfChar_4cfef cJ2_indexOfChar_4cfef 4 (some .int) ∈ zgt := zgt_in (zt2 (List.mem_of_getElem? (i := 56) rfl)) rfl
set_option maxRecDepth 100000 in
theorem ktJ2_indexOfChar_4cfef : Cond.static yJ2_indexOfChar_4cfef ∈ zgt := zgt_in (zt2 (List.mem_of_getElem? (i := 55) rfl)) rfl
set_option maxRecDepth 100000 in
theorem kcJ2_indexOfCharUnsafe_4cfef : Cond.code yJ2_indexOfCharUnsafe_4cfef cJ2_indexOfCharUnsafe_4cfef 5 (some .int) ∈ zgt := zgt_in (zt2 (List.mem_of_getElem? (i := 73) rfl)) rfl
set_option maxRecDepth 100000 in
theorem ktJ2_indexOfCharUnsafe_4cfef : Cond.static yJ2_indexOfCharUnsafe_4cfef ∈ zgt := zgt_in (zt2 (List.mem_of_getElem? (i := 72) rfl)) rfl
set_option maxRecDepth 100000 in
theorem kcJ2_indexOfSupplementary_4cfef : Cond.code yJ2_indexOfSupplementary_4cfef cJ2_indexOfSupplementary_4cfef 7 (some .int) ∈ zgt := zgt_in (zt2 (List.mem_of_getElem? (i := 85) rfl)) rfl
set_option maxRecDepth 100000 in
theorem ktJ2_indexOfSupplementary_4cfef : Cond.static yJ2_indexOfSupplementary_4cfef ∈ zgt := zgt_in (zt2 (List.mem_of_getElem? (i := 84) rfl)) rfl
set_option maxRecDepth 100000 in
theorem kcJ2_checkBoundsBeginEnd_d044e : Cond.code yJ2_checkBoundsBeginEnd_d044e cJ2_checkBoundsBeginEnd_d044e 3 none ∈ zgt := zgt_in (zt2 (List.mem_of_getElem? (i := 59) rfl)) rfl
set_option maxRecDepth 100000 in
theorem ktJ2_checkBoundsBeginEnd_d044e : Cond.static yJ2_checkBoundsBeginEnd_d044e ∈ zgt := zgt_in (zt2 (List.mem_of_getElem? (i := 58) rfl)) rfl
set_option maxRecDepth 100000 in
theorem kcJ7_fill_53178 : Cond.code yJ7_fill_53178 cJ7_fill_53178 4 none ∈ zgt := zgt_in (zt3 (List.mem_of_getElem? (i := 190) rfl)) rfl
set_option maxRecDepth 100000 in
theorem ktJ7_fill_53178 : Cond.static yJ7_fill_53178 ∈ zgt := zgt_in (zt3 (List.mem_of_getElem? (i := 189) rfl)) rfl
set_option maxRecDepth 100000 in
theorem kcJ3_checkFromToIndex_8c36e : Cond.code yJ3_checkFromToIndex_8c36e cJ3_checkFromToIndex_8c36e 4 (some .int) ∈ zgt := zgt_in (zt2 (List.mem_of_getElem? (i := 70) rfl)) rfl
set_option maxRecDepth 100000 in
theorem ktJ3_checkFromToIndex_8c36e : Cond.static yJ3_checkFromToIndex_8c36e ∈ zgt := zgt_in (zt2 (List.mem_of_getElem? (i := 69) rfl)) rfl
set_option maxRecDepth 100000 in
theorem lkX6_73 : zlkS RX6 73 mdX6_outside 3 := ⟨⟨Or.inl (zgt_in (zt1 (List.mem_of_getElem? (i := 207) rfl)) rfl), niRX6, kcX6_outside, ⟨by decide, by decide, by decide +kernel⟩, by decide⟩, ktX6_outside⟩
set_option maxRecDepth 100000 in
theorem lkX6_77 : zlkV RX6 77 mdX1_isFull 0 := ⟨⟨Or.inl (zgt_in (zt1 (List.mem_of_getElem? (i := 210) rfl)) rfl), niRX1, kcX1_isFull, ⟨by decide, by decide, by decide +kernel⟩, by decide⟩, knX1_isFull, ksX1_isFull⟩
set_option maxRecDepth 100000 in
theorem lkX6_81 : zlkS RX6 81 mdX6_firstOf 3 := ⟨⟨Or.inl (zgt_in (zt1 (List.mem_of_getElem? (i := 214) rfl)) rfl), niRX6, kcX6_firstOf, ⟨by decide, by decide, by decide +kernel⟩, by decide⟩, ktX6_firstOf⟩
set_option maxRecDepth 100000 in
theorem lkX6_84 : zlkV RX6 84 mdX6_refuse 1 := ⟨⟨Or.inl (zgt_in (zt1 (List.mem_of_getElem? (i := 217) rfl)) rfl), niRX6, kcX6_refuse, ⟨by decide, by decide, by decide +kernel⟩, by decide⟩, knX6_refuse, ksX6_refuse⟩
set_option maxRecDepth 100000 in
theorem lkX6_88 : zlkV RX6 88 mdX1_add 1 := ⟨⟨Or.inl (zgt_in (zt1 (List.mem_of_getElem? (i := 221) rfl)) rfl), niRX1, kcX1_add, ⟨by decide, by decide, by decide +kernel⟩, by decide⟩, knX1_add, ksX1_add⟩
set_option maxRecDepth 100000 in
theorem lkX6_96 : zlkV RX6 96 mdX1_badForm 0 := ⟨⟨Or.inl (zgt_in (zt1 (List.mem_of_getElem? (i := 230) rfl)) rfl), niRX1, kcX1_badForm, ⟨by decide, by decide, by decide +kernel⟩, by decide⟩, knX1_badForm, ksX1_badForm⟩
set_option maxRecDepth 100000 in
theorem lkX6_100 : zlkV RX6 100 mdX0_become 1 := ⟨⟨Or.inl (zgt_in (zt2 (List.mem_of_getElem? (i := 100) rfl)) rfl), niRX0, kcX0_become, ⟨by decide, by decide, by decide +kernel⟩, by decide⟩, knX0_become, ksX0_become⟩
set_option maxRecDepth 100000 in
theorem lkX6_104 : zlkV RX6 104 mdX1_tellAll 1 := ⟨⟨Or.inl (zgt_in (zt2 (List.mem_of_getElem? (i := 107) rfl)) rfl), niRX1, kcX1_tellAll, ⟨by decide, by decide, by decide +kernel⟩, by decide⟩, knX1_tellAll, ksX1_tellAll⟩
set_option maxRecDepth 100000 in
theorem lkX6_108 : zlkV RX6 108 mdX1_drop 0 := ⟨⟨Or.inl (zgt_in (zt2 (List.mem_of_getElem? (i := 198) rfl)) rfl), niRX1, kcX1_drop, ⟨by decide, by decide, by decide +kernel⟩, by decide⟩, knX1_drop, ksX1_drop⟩
set_option maxRecDepth 100000 in
theorem lkX6_111 : zlkV RX6 111 mdX6_nobody 1 := ⟨⟨Or.inl (zgt_in (zt2 (List.mem_of_getElem? (i := 207) rfl)) rfl), niRX6, kcX6_nobody, ⟨by decide, by decide, by decide +kernel⟩, by decide⟩, knX6_nobody, ksX6_nobody⟩
set_option maxRecDepth 100000 in
theorem lkX6_114 : zlkS RX6 114 mdX6_otherThan 2 := ⟨⟨Or.inl (zgt_in (zt2 (List.mem_of_getElem? (i := 212) rfl)) rfl), niRX6, kcX6_otherThan, ⟨by decide, by decide, by decide +kernel⟩, by decide⟩, ktX6_otherThan⟩
set_option maxRecDepth 100000 in
theorem lkX6_127 : zlkV RX6 127 mdX0_kinOf 1 := ⟨⟨Or.inl (zgt_in (zt2 (List.mem_of_getElem? (i := 215) rfl)) rfl), niRX0, kcX0_kinOf, ⟨by decide, by decide, by decide +kernel⟩, by decide⟩, knX0_kinOf, ksX0_kinOf⟩
set_option maxRecDepth 100000 in
theorem lkX6_130 : zlkS RX6 130 mdJ6_bitCount_0f7a4 1 := ⟨⟨Or.inl (zgt_in (zt2 (List.mem_of_getElem? (i := 216) rfl)) rfl), niRJ6, kcJ6_bitCount_0f7a4, ⟨by decide, by decide, by decide +kernel⟩, by decide⟩, ktJ6_bitCount_0f7a4⟩
set_option maxRecDepth 100000 in
theorem lkX6_138 : zlkV RX6 138 mdX6_notTwo 2 := ⟨⟨Or.inl (zgt_in (zt2 (List.mem_of_getElem? (i := 226) rfl)) rfl), niRX6, kcX6_notTwo, ⟨by decide, by decide, by decide +kernel⟩, by decide⟩, knX6_notTwo, ksX6_notTwo⟩
set_option maxRecDepth 100000 in
theorem lkX6_141 : zlkV RX6 141 mdX0_hasSigned 2 := ⟨⟨Or.inl (zgt_in (zt2 (List.mem_of_getElem? (i := 231) rfl)) rfl), niRX0, kcX0_hasSigned, ⟨by decide, by decide, by decide +kernel⟩, by decide⟩, knX0_hasSigned, ksX0_hasSigned⟩
set_option maxRecDepth 100000 in
theorem lkX6_145 : zlkS RX6 145 mdX6_bit 1 := ⟨⟨Or.inl (zgt_in (zt2 (List.mem_of_getElem? (i := 232) rfl)) rfl), niRX6, kcX6_bit, ⟨by decide, by decide, by decide +kernel⟩, by decide⟩, ktX6_bit⟩
set_option maxRecDepth 100000 in
theorem lkX6_149 : zlkV RX6 149 mdX0_atFeud 2 := ⟨⟨Or.inl (zgt_in (zt2 (List.mem_of_getElem? (i := 235) rfl)) rfl), niRX0, kcX0_atFeud, ⟨by decide, by decide, by decide +kernel⟩, by decide⟩, knX0_atFeud, ksX0_atFeud⟩
set_option maxRecDepth 100000 in
theorem lkX6_152 : zlkV RX6 152 mdX0_isKin 2 := ⟨⟨Or.inl (zgt_in (zt2 (List.mem_of_getElem? (i := 236) rfl)) rfl), niRX0, kcX0_isKin, ⟨by decide, by decide, by decide +kernel⟩, by decide⟩, knX0_isKin, ksX0_isKin⟩
set_option maxRecDepth 100000 in
theorem lkX6_155 : zlkV RX6 155 mdX0_dues 2 := ⟨⟨Or.inl (zgt_in (zt3 (List.mem_of_getElem? (i := 0) rfl)) rfl), niRX0, kcX0_dues, ⟨by decide, by decide, by decide +kernel⟩, by decide⟩, knX0_dues, ksX0_dues⟩
set_option maxRecDepth 100000 in
theorem lkX6_158 : zlkV RX6 158 mdX0_turnSigning 2 := ⟨⟨Or.inl (zgt_in (zt3 (List.mem_of_getElem? (i := 5) rfl)) rfl), niRX0, kcX0_turnSigning, ⟨by decide, by decide, by decide +kernel⟩, by decide⟩, knX0_turnSigning, ksX0_turnSigning⟩
set_option maxRecDepth 100000 in
theorem lkX6_161 : zlkV RX6 161 mdX0_turnFeud 2 := ⟨⟨Or.inl (zgt_in (zt3 (List.mem_of_getElem? (i := 10) rfl)) rfl), niRX0, kcX0_turnFeud, ⟨by decide, by decide, by decide +kernel⟩, by decide⟩, knX0_turnFeud, ksX0_turnFeud⟩
set_option maxRecDepth 100000 in
theorem lkX6_164 : zlkV RX6 164 mdX0_mayPass 1 := ⟨⟨Or.inl (zgt_in (zt3 (List.mem_of_getElem? (i := 23) rfl)) rfl), niRX0, kcX0_mayPass, ⟨by decide, by decide, by decide +kernel⟩, by decide⟩, knX0_mayPass, ksX0_mayPass⟩
set_option maxRecDepth 100000 in
theorem lkX6_168 : zlkV RX6 168 mdX0_passYears 1 := ⟨⟨Or.inl (zgt_in (zt3 (List.mem_of_getElem? (i := 24) rfl)) rfl), niRX0, kcX0_passYears, ⟨by decide, by decide, by decide +kernel⟩, by decide⟩, knX0_passYears, ksX0_passYears⟩
set_option maxRecDepth 100000 in
theorem lkX6_171 : zlkV RX6 171 mdX0_wealth 0 := ⟨⟨Or.inl (zgt_in (zt3 (List.mem_of_getElem? (i := 25) rfl)) rfl), niRX0, kcX0_wealth, ⟨by decide, by decide, by decide +kernel⟩, by decide⟩, knX0_wealth, ksX0_wealth⟩
set_option maxRecDepth 100000 in
theorem lkX6_174 : zlkV RX6 174 mdX6_thinkAhead 1 := ⟨⟨Or.inl (zgt_in (zt3 (List.mem_of_getElem? (i := 33) rfl)) rfl), niRX6, kcX6_thinkAhead, ⟨by decide, by decide, by decide +kernel⟩, by decide⟩, knX6_thinkAhead, ksX6_thinkAhead⟩
set_option maxRecDepth 100000 in
theorem lkX6_177 : zlkV RX6 177 mdX0_passYear 1 := ⟨⟨Or.inl (zgt_in (zt3 (List.mem_of_getElem? (i := 49) rfl)) rfl), niRX0, kcX0_passYear, ⟨by decide, by decide, by decide +kernel⟩, by decide⟩, knX0_passYear, ksX0_passYear⟩
set_option maxRecDepth 100000 in
theorem lkX6_180 : zlkV RX6 180 mdX6_steadyAfter 0 := ⟨⟨Or.inl (zgt_in (zt3 (List.mem_of_getElem? (i := 54) rfl)) rfl), niRX6, kcX6_steadyAfter, ⟨by decide, by decide, by decide +kernel⟩, by decide⟩, knX6_steadyAfter, ksX6_steadyAfter⟩
set_option maxRecDepth 100000 in
theorem lkX6_183 : zlkV RX6 183 mdX6_firstRuin 1 := ⟨⟨Or.inl (zgt_in (zt3 (List.mem_of_getElem? (i := 62) rfl)) rfl), niRX6, kcX6_firstRuin, ⟨by decide, by decide, by decide +kernel⟩, by decide⟩, knX6_firstRuin, ksX6_firstRuin⟩
set_option maxRecDepth 100000 in
theorem lkX6_189 : zlkV RX6 189 mdX5_read 1 := ⟨⟨Or.inl (zgt_in (zt3 (List.mem_of_getElem? (i := 74) rfl)) rfl), niRX5, kcX5_read, ⟨by decide, by decide, by decide +kernel⟩, by decide⟩, knX5_read, ksX5_read⟩
set_option maxRecDepth 100000 in
theorem lkX6_192 : zlkV RX6 192 mdX5_reachOf 1 := ⟨⟨Or.inl (zgt_in (zt3 (List.mem_of_getElem? (i := 79) rfl)) rfl), niRX5, kcX5_reachOf, ⟨by decide, by decide, by decide +kernel⟩, by decide⟩, knX5_reachOf, ksX5_reachOf⟩
set_option maxRecDepth 100000 in
theorem lkX6_195 : zlkV RX6 195 mdX5_steps 2 := ⟨⟨Or.inl (zgt_in (zt3 (List.mem_of_getElem? (i := 92) rfl)) rfl), niRX5, kcX5_steps, ⟨by decide, by decide, by decide +kernel⟩, by decide⟩, knX5_steps, ksX5_steps⟩
set_option maxRecDepth 100000 in
theorem lkX6_198 : zlkV RX6 198 mdX5_howManyGroups 0 := ⟨⟨Or.inl (zgt_in (zt3 (List.mem_of_getElem? (i := 104) rfl)) rfl), niRX5, kcX5_howManyGroups, ⟨by decide, by decide, by decide +kernel⟩, by decide⟩, knX5_howManyGroups, ksX5_howManyGroups⟩
set_option maxRecDepth 100000 in
theorem lkX6_201 : zlkV RX6 201 mdX5_mostInGroup 0 := ⟨⟨Or.inl (zgt_in (zt3 (List.mem_of_getElem? (i := 109) rfl)) rfl), niRX5, kcX5_mostInGroup, ⟨by decide, by decide, by decide +kernel⟩, by decide⟩, knX5_mostInGroup, ksX5_mostInGroup⟩
set_option maxRecDepth 100000 in
theorem lkX6_204 : zlkV RX6 204 mdX5_threes 0 := ⟨⟨Or.inl (zgt_in (zt3 (List.mem_of_getElem? (i := 115) rfl)) rfl), niRX5, kcX5_threes, ⟨by decide, by decide, by decide +kernel⟩, by decide⟩, knX5_threes, ksX5_threes⟩
set_option maxRecDepth 100000 in
theorem lkX6_207 : zlkV RX6 207 mdX5_greatestClan 0 := ⟨⟨Or.inl (zgt_in (zt3 (List.mem_of_getElem? (i := 123) rfl)) rfl), niRX5, kcX5_greatestClan, ⟨by decide, by decide, by decide +kernel⟩, by decide⟩, knX5_greatestClan, ksX5_greatestClan⟩
set_option maxRecDepth 100000 in
theorem lkX6_210 : zlkV RX6 210 mdX6_bestChange 3 := ⟨⟨Or.inl (zgt_in (zt3 (List.mem_of_getElem? (i := 135) rfl)) rfl), niRX6, kcX6_bestChange, ⟨by decide, by decide, by decide +kernel⟩, by decide⟩, knX6_bestChange, ksX6_bestChange⟩
set_option maxRecDepth 100000 in
theorem lkX6_214 : zlkV RX6 214 mdX6_wealthWithFeud 4 := ⟨⟨Or.inl (zgt_in (zt3 (List.mem_of_getElem? (i := 165) rfl)) rfl), niRX6, kcX6_wealthWithFeud, ⟨by decide, by decide, by decide +kernel⟩, by decide⟩, knX6_wealthWithFeud, ksX6_wealthWithFeud⟩
set_option maxRecDepth 100000 in
theorem lkX6_218 : zlkS RX6 218 mdX6_isIn 2 := ⟨⟨Or.inl (zgt_in (zt3 (List.mem_of_getElem? (i := 178) rfl)) rfl), niRX6, kcX6_isIn, ⟨by decide, by decide, by decide +kernel⟩, by decide⟩, ktX6_isIn⟩
set_option maxRecDepth 100000 in
theorem lkX6_221 : zlkV RX6 221 mdX4_seatAll 1 := ⟨⟨Or.inl (zgt_in (zt3 (List.mem_of_getElem? (i := 183) rfl)) rfl), niRX4, kcX4_seatAll, ⟨by decide, by decide, by decide +kernel⟩, by decide⟩, knX4_seatAll, ksX4_seatAll⟩
set_option maxRecDepth 100000 in
theorem lkX6_224 : zlkV RX6 224 mdX4_roomOf 1 := ⟨⟨Or.inl (zgt_in (zt3 (List.mem_of_getElem? (i := 196) rfl)) rfl), niRX4, kcX4_roomOf, ⟨by decide, by decide, by decide +kernel⟩, by decide⟩, knX4_roomOf, ksX4_roomOf⟩
set_option maxRecDepth 100000 in
theorem lkX6_227 : zlkV RX6 227 mdX3_pairAll 2 := ⟨⟨Or.inl (zgt_in (zt3 (List.mem_of_getElem? (i := 205) rfl)) rfl), niRX3, kcX3_pairAll, ⟨by decide, by decide, by decide +kernel⟩, by decide⟩, knX3_pairAll, ksX3_pairAll⟩
set_option maxRecDepth 100000 in
theorem lkX6_231 : zlkV RX6 231 mdX3_partnerOf 1 := ⟨⟨Or.inl (zgt_in (zt3 (List.mem_of_getElem? (i := 235) rfl)) rfl), niRX3, kcX3_partnerOf, ⟨by decide, by decide, by decide +kernel⟩, by decide⟩, knX3_partnerOf, ksX3_partnerOf⟩
set_option maxRecDepth 100000 in
theorem lkX6_234 : zlkV RX6 234 mdX0_kinTwos 0 := ⟨⟨Or.inl (zgt_in (zt4 (List.mem_of_getElem? (i := 7) rfl)) rfl), niRX0, kcX0_kinTwos, ⟨by decide, by decide, by decide +kernel⟩, by decide⟩, knX0_kinTwos, ksX0_kinTwos⟩
set_option maxRecDepth 100000 in
theorem lkX6_237 : zlkS RX6 237 mdX6_notOdds 3 := ⟨⟨Or.inl (zgt_in (zt4 (List.mem_of_getElem? (i := 16) rfl)) rfl), niRX6, kcX6_notOdds, ⟨by decide, by decide, by decide +kernel⟩, by decide⟩, ktX6_notOdds⟩
set_option maxRecDepth 100000 in
theorem lkX6_242 : zlkV RX6 242 mdX2_goodWays 6 := ⟨⟨Or.inl (zgt_in (zt4 (List.mem_of_getElem? (i := 20) rfl)) rfl), niRX2, kcX2_goodWays, ⟨by decide, by decide, by decide +kernel⟩, by decide⟩, knX2_goodWays, ksX2_goodWays⟩
set_option maxRecDepth 100000 in
theorem lkX6_246 : zlkS RX6 246 mdX2_allWays 2 := ⟨⟨Or.inl (zgt_in (zt4 (List.mem_of_getElem? (i := 31) rfl)) rfl), niRX2, kcX2_allWays, ⟨by decide, by decide, by decide +kernel⟩, by decide⟩, ktX2_allWays⟩
set_option maxRecDepth 100000 in
theorem lkX6_250 : zlkS RX6 250 mdX6_partOf 3 := ⟨⟨Or.inl (zgt_in (zt4 (List.mem_of_getElem? (i := 34) rfl)) rfl), niRX6, kcX6_partOf, ⟨by decide, by decide, by decide +kernel⟩, by decide⟩, ktX6_partOf⟩
set_option maxRecDepth 100000 in
theorem lkX6_254 : zlkS RX6 254 mdJ9_max_7cf53 2 := ⟨⟨Or.inl (zgt_in (zt4 (List.mem_of_getElem? (i := 44) rfl)) rfl), niRJ9, kcJ9_max_7cf53, ⟨by decide, by decide, by decide +kernel⟩, by decide⟩, ktJ9_max_7cf53⟩
set_option maxRecDepth 100000 in
theorem lkX6_259 : zlkV RX6 259 mdX0_setSigning 3 := ⟨⟨Or.inl (zgt_in (zt3 (List.mem_of_getElem? (i := 155) rfl)) rfl), niRX0, kcX0_setSigning, ⟨by decide, by decide, by decide +kernel⟩, by decide⟩, knX0_setSigning, ksX0_setSigning⟩
set_option maxRecDepth 100000 in
theorem lkX6_263 : zlkV RX6 263 mdX6_goesAsTold 1 := ⟨⟨Or.inl (zgt_in (zt4 (List.mem_of_getElem? (i := 53) rfl)) rfl), niRX6, kcX6_goesAsTold, ⟨by decide, by decide, by decide +kernel⟩, by decide⟩, knX6_goesAsTold, ksX6_goesAsTold⟩
set_option maxRecDepth 100000 in
theorem lkX6_269 : zlkV RX6 269 mdX0_has 1 := ⟨⟨Or.inl (zgt_in (zt2 (List.mem_of_getElem? (i := 211) rfl)) rfl), niRX0, kcX0_has, ⟨by decide, by decide, by decide +kernel⟩, by decide⟩, knX0_has, ksX0_has⟩
set_option maxRecDepth 100000 in
theorem lkX6_272 : zlkV RX6 272 mdX6_drawSignings 1 := ⟨⟨Or.inl (zgt_in (zt4 (List.mem_of_getElem? (i := 73) rfl)) rfl), niRX6, kcX6_drawSignings, ⟨by decide, by decide, by decide +kernel⟩, by decide⟩, knX6_drawSignings, ksX6_drawSignings⟩
set_option maxRecDepth 100000 in
theorem lkX6_282 : zlkV RX6 282 mdX0_signings 0 := ⟨⟨Or.inl (zgt_in (zt4 (List.mem_of_getElem? (i := 92) rfl)) rfl), niRX0, kcX0_signings, ⟨by decide, by decide, by decide +kernel⟩, by decide⟩, knX0_signings, ksX0_signings⟩
set_option maxRecDepth 100000 in
theorem lkX6_285 : zlkV RX6 285 mdX0_feudTwos 0 := ⟨⟨Or.inl (zgt_in (zt4 (List.mem_of_getElem? (i := 96) rfl)) rfl), niRX0, kcX0_feudTwos, ⟨by decide, by decide, by decide +kernel⟩, by decide⟩, knX0_feudTwos, ksX0_feudTwos⟩
set_option maxRecDepth 100000 in
theorem lkX6_288 : zlkV RX6 288 mdX0_hasTwo 2 := ⟨⟨Or.inl (zgt_in (zt2 (List.mem_of_getElem? (i := 230) rfl)) rfl), niRX0, kcX0_hasTwo, ⟨by decide, by decide, by decide +kernel⟩, by decide⟩, knX0_hasTwo, ksX0_hasTwo⟩
set_option maxRecDepth 100000 in
theorem lkX6_291 : zlkV RX6 291 mdX0_isAs 1 := ⟨⟨Or.inl (zgt_in (zt3 (List.mem_of_getElem? (i := 58) rfl)) rfl), niRX0, kcX0_isAs, ⟨by decide, by decide, by decide +kernel⟩, by decide⟩, knX0_isAs, ksX0_isAs⟩
set_option maxRecDepth 100000 in
theorem lkX6_295 : zlkV RX6 295 mdX6_mayChange 3 := ⟨⟨Or.inl (zgt_in (zt3 (List.mem_of_getElem? (i := 139) rfl)) rfl), niRX6, kcX6_mayChange, ⟨by decide, by decide, by decide +kernel⟩, by decide⟩, knX6_mayChange, ksX6_mayChange⟩
set_option maxRecDepth 100000 in
theorem lkX6_299 : zlkV RX6 299 mdX6_makeChange 3 := ⟨⟨Or.inl (zgt_in (zt3 (List.mem_of_getElem? (i := 143) rfl)) rfl), niRX6, kcX6_makeChange, ⟨by decide, by decide, by decide +kernel⟩, by decide⟩, knX6_makeChange, ksX6_makeChange⟩
set_option maxRecDepth 100000 in
theorem lkX6_303 : zlkV RX6 303 mdX0_changePlaces 2 := ⟨⟨Or.inl (zgt_in (zt3 (List.mem_of_getElem? (i := 147) rfl)) rfl), niRX0, kcX0_changePlaces, ⟨by decide, by decide, by decide +kernel⟩, by decide⟩, knX0_changePlaces, ksX0_changePlaces⟩
set_option maxRecDepth 100000 in
theorem lkX6_307 : zlkV RX6 307 mdX0_setFeud 3 := ⟨⟨Or.inl (zgt_in (zt3 (List.mem_of_getElem? (i := 169) rfl)) rfl), niRX0, kcX0_setFeud, ⟨by decide, by decide, by decide +kernel⟩, by decide⟩, knX0_setFeud, ksX0_setFeud⟩
set_option maxRecDepth 100000 in
theorem lkX6_313 : zlkS RX6 313 mdX6_commonDivisor 2 := ⟨⟨Or.inl (zgt_in (zt4 (List.mem_of_getElem? (i := 37) rfl)) rfl), niRX6, kcX6_commonDivisor, ⟨by decide, by decide, by decide +kernel⟩, by decide⟩, ktX6_commonDivisor⟩
set_option maxRecDepth 100000 in
theorem lkX0_27 : Cond.methodLink RX0 27 arraycopyName ∈ zgt ∧ Cond.native arraycopyName ∈ zgt ∧ Cond.static arraycopyName ∈ zgt ∧ Cond.initialized "java/lang/System" ∈ zgt := ⟨zgt_in (zt2 (List.mem_of_getElem? (i := 104) rfl)) rfl, zgt_in (zt2 (List.mem_of_getElem? (i := 106) rfl)) rfl, zgt_in (zt2 (List.mem_of_getElem? (i := 105) rfl)) rfl, niRJ10⟩
set_option maxRecDepth 100000 in
theorem lkX0_40 : zlkV RX0 40 mdX0_has 1 := ⟨⟨Or.inl (zgt_in (zt2 (List.mem_of_getElem? (i := 139) rfl)) rfl), niRX0, kcX0_has, ⟨by decide, by decide, by decide +kernel⟩, by decide⟩, knX0_has, ksX0_has⟩
set_option maxRecDepth 100000 in
theorem lkX0_44 : zlkV RX0 44 mdX0_hasTwo 2 := ⟨⟨Or.inl (zgt_in (zt2 (List.mem_of_getElem? (i := 135) rfl)) rfl), niRX0, kcX0_hasTwo, ⟨by decide, by decide, by decide +kernel⟩, by decide⟩, knX0_hasTwo, ksX0_hasTwo⟩
set_option maxRecDepth 100000 in
theorem lkX0_48 : zlkS RX0 48 mdX6_isIn 2 := ⟨⟨Or.inr (⟨"CousinsByAgreement", zNW_in (zt2 (List.mem_of_getElem? (i := 143) rfl)) rfl⟩), niRX6, kcX6_isIn, ⟨by decide, by decide, by decide +kernel⟩, by decide⟩, ktX6_isIn⟩
set_option maxRecDepth 100000 in
theorem lkX0_51 : zlkV RX0 51 mdX0_kinOf 1 := ⟨⟨Or.inl (zgt_in (zt2 (List.mem_of_getElem? (i := 185) rfl)) rfl), niRX0, kcX0_kinOf, ⟨by decide, by decide, by decide +kernel⟩, by decide⟩, knX0_kinOf, ksX0_kinOf⟩
set_option maxRecDepth 100000 in
theorem lkX0_55 : zlkV RX0 55 mdX0_hasSigned 2 := ⟨⟨Or.inl (zgt_in (zt2 (List.mem_of_getElem? (i := 131) rfl)) rfl), niRX0, kcX0_hasSigned, ⟨by decide, by decide, by decide +kernel⟩, by decide⟩, knX0_hasSigned, ksX0_hasSigned⟩
set_option maxRecDepth 100000 in
theorem lkX0_58 : zlkV RX0 58 mdX0_setSigning 3 := ⟨⟨Or.inl (zgt_in (zt2 (List.mem_of_getElem? (i := 146) rfl)) rfl), niRX0, kcX0_setSigning, ⟨by decide, by decide, by decide +kernel⟩, by decide⟩, knX0_setSigning, ksX0_setSigning⟩
set_option maxRecDepth 100000 in
theorem lkX0_62 : zlkS RX0 62 mdX0_withBit 3 := ⟨⟨Or.inl (zgt_in (zt2 (List.mem_of_getElem? (i := 150) rfl)) rfl), niRX0, kcX0_withBit, ⟨by decide, by decide, by decide +kernel⟩, by decide⟩, ktX0_withBit⟩
set_option maxRecDepth 100000 in
theorem lkX0_66 : zlkV RX0 66 mdX0_atFeud 2 := ⟨⟨Or.inl (zgt_in (zt2 (List.mem_of_getElem? (i := 161) rfl)) rfl), niRX0, kcX0_atFeud, ⟨by decide, by decide, by decide +kernel⟩, by decide⟩, knX0_atFeud, ksX0_atFeud⟩
set_option maxRecDepth 100000 in
theorem lkX0_69 : zlkV RX0 69 mdX0_setFeud 3 := ⟨⟨Or.inl (zgt_in (zt2 (List.mem_of_getElem? (i := 165) rfl)) rfl), niRX0, kcX0_setFeud, ⟨by decide, by decide, by decide +kernel⟩, by decide⟩, knX0_setFeud, ksX0_setFeud⟩
set_option maxRecDepth 100000 in
theorem lkX0_72 : zlkV RX0 72 mdX0_changeIn 3 := ⟨⟨Or.inl (zgt_in (zt3 (List.mem_of_getElem? (i := 151) rfl)) rfl), niRX0, kcX0_changeIn, ⟨by decide, by decide, by decide +kernel⟩, by decide⟩, knX0_changeIn, ksX0_changeIn⟩
set_option maxRecDepth 100000 in
theorem lkX0_76 : zlkV RX0 76 mdX0_passYear 1 := ⟨⟨Or.inl (zgt_in (zt2 (List.mem_of_getElem? (i := 181) rfl)) rfl), niRX0, kcX0_passYear, ⟨by decide, by decide, by decide +kernel⟩, by decide⟩, knX0_passYear, ksX0_passYear⟩
set_option maxRecDepth 100000 in
theorem lkX0_80 : zlkV RX0 80 mdX0_pay 2 := ⟨⟨Or.inl (zgt_in (zt2 (List.mem_of_getElem? (i := 189) rfl)) rfl), niRX0, kcX0_pay, ⟨by decide, by decide, by decide +kernel⟩, by decide⟩, knX0_pay, ksX0_pay⟩
set_option maxRecDepth 100000 in
theorem lkX0_84 : zlkV RX0 84 mdX0_dues 2 := ⟨⟨Or.inl (zgt_in (zt2 (List.mem_of_getElem? (i := 193) rfl)) rfl), niRX0, kcX0_dues, ⟨by decide, by decide, by decide +kernel⟩, by decide⟩, knX0_dues, ksX0_dues⟩
set_option maxRecDepth 100000 in
theorem lkX0_88 : zlkS RX0 88 mdJ9_min_7cf53 2 := ⟨⟨Or.inl (zgt_in (zt2 (List.mem_of_getElem? (i := 197) rfl)) rfl), niRJ9, kcJ9_min_7cf53, ⟨by decide, by decide, by decide +kernel⟩, by decide⟩, ktJ9_min_7cf53⟩
set_option maxRecDepth 100000 in
theorem lkX0_93 : zlkS RX0 93 mdJ6_bitCount_0f7a4 1 := ⟨⟨Or.inl (zgt_in (zt4 (List.mem_of_getElem? (i := 11) rfl)) rfl), niRJ6, kcJ6_bitCount_0f7a4, ⟨by decide, by decide, by decide +kernel⟩, by decide⟩, ktJ6_bitCount_0f7a4⟩
set_option maxRecDepth 100000 in
theorem lkX1_19 : zlkV RX1 19 mdX1_isFull 0 := ⟨⟨Or.inl (zgt_in (zt1 (List.mem_of_getElem? (i := 225) rfl)) rfl), niRX1, kcX1_isFull, ⟨by decide, by decide, by decide +kernel⟩, by decide⟩, knX1_isFull, ksX1_isFull⟩
set_option maxRecDepth 100000 in
theorem lkX1_23 : zlkV RX1 23 mdX1_lengthFrom 1 := ⟨⟨Or.inl (zgt_in (zt1 (List.mem_of_getElem? (i := 234) rfl)) rfl), niRX1, kcX1_lengthFrom, ⟨by decide, by decide, by decide +kernel⟩, by decide⟩, knX1_lengthFrom, ksX1_lengthFrom⟩
set_option maxRecDepth 100000 in
theorem lkX1_27 : zlkV RX1 27 mdX1_badWithin 2 := ⟨⟨Or.inl (zgt_in (zt2 (List.mem_of_getElem? (i := 2) rfl)) rfl), niRX1, kcX1_badWithin, ⟨by decide, by decide, by decide +kernel⟩, by decide⟩, knX1_badWithin, ksX1_badWithin⟩
set_option maxRecDepth 100000 in
theorem lkX1_31 : zlkV RX1 31 mdX1_at 1 := ⟨⟨Or.inl (zgt_in (zt1 (List.mem_of_getElem? (i := 238) rfl)) rfl), niRX1, kcX1_at, ⟨by decide, by decide, by decide +kernel⟩, by decide⟩, knX1_at, ksX1_at⟩
set_option maxRecDepth 100000 in
theorem lkX1_34 : zlkV RX1 34 mdX1_kindAt 1 := ⟨⟨Or.inl (zgt_in (zt2 (List.mem_of_getElem? (i := 6) rfl)) rfl), niRX1, kcX1_kindAt, ⟨by decide, by decide, by decide +kernel⟩, by decide⟩, knX1_kindAt, ksX1_kindAt⟩
set_option maxRecDepth 100000 in
theorem lkX1_37 : zlkS RX1 37 mdX1_isDigit 1 := ⟨⟨Or.inl (zgt_in (zt2 (List.mem_of_getElem? (i := 97) rfl)) rfl), niRX1, kcX1_isDigit, ⟨by decide, by decide, by decide +kernel⟩, by decide⟩, ktX1_isDigit⟩
set_option maxRecDepth 100000 in
theorem lkX1_43 : zlkV RX1 43 mdJ0_indexOf_0f7a4 1 := ⟨⟨Or.inl (zgt_in (zt2 (List.mem_of_getElem? (i := 11) rfl)) rfl), niRJ0, kcJ0_indexOf_0f7a4, ⟨by decide, by decide, by decide +kernel⟩, by decide⟩, knJ0_indexOf_0f7a4, ksJ0_indexOf_0f7a4⟩
set_option maxRecDepth 100000 in
theorem lkX1_48 : zlkV RX1 48 mdX1_digitAt 1 := ⟨⟨Or.inl (zgt_in (zt2 (List.mem_of_getElem? (i := 115) rfl)) rfl), niRX1, kcX1_digitAt, ⟨by decide, by decide, by decide +kernel⟩, by decide⟩, knX1_digitAt, ksX1_digitAt⟩
set_option maxRecDepth 100000 in
theorem lkX1_51 : zlkV RX1 51 mdX1_tellOne 2 := ⟨⟨Or.inl (zgt_in (zt2 (List.mem_of_getElem? (i := 111) rfl)) rfl), niRX1, kcX1_tellOne, ⟨by decide, by decide, by decide +kernel⟩, by decide⟩, knX1_tellOne, ksX1_tellOne⟩
set_option maxRecDepth 100000 in
theorem lkX1_55 : zlkV RX1 55 mdX1_numberAt 1 := ⟨⟨Or.inl (zgt_in (zt2 (List.mem_of_getElem? (i := 119) rfl)) rfl), niRX1, kcX1_numberAt, ⟨by decide, by decide, by decide +kernel⟩, by decide⟩, knX1_numberAt, ksX1_numberAt⟩
set_option maxRecDepth 100000 in
theorem lkX1_58 : zlkV RX1 58 mdX0_welcome 3 := ⟨⟨Or.inl (zgt_in (zt2 (List.mem_of_getElem? (i := 123) rfl)) rfl), niRX0, kcX0_welcome, ⟨by decide, by decide, by decide +kernel⟩, by decide⟩, knX0_welcome, ksX0_welcome⟩
set_option maxRecDepth 100000 in
theorem lkX1_64 : zlkV RX1 64 mdX0_turnSigning 2 := ⟨⟨Or.inl (zgt_in (zt2 (List.mem_of_getElem? (i := 127) rfl)) rfl), niRX0, kcX0_turnSigning, ⟨by decide, by decide, by decide +kernel⟩, by decide⟩, knX0_turnSigning, ksX0_turnSigning⟩
set_option maxRecDepth 100000 in
theorem lkX1_68 : zlkV RX1 68 mdX0_signBoth 2 := ⟨⟨Or.inl (zgt_in (zt2 (List.mem_of_getElem? (i := 153) rfl)) rfl), niRX0, kcX0_signBoth, ⟨by decide, by decide, by decide +kernel⟩, by decide⟩, knX0_signBoth, ksX0_signBoth⟩
set_option maxRecDepth 100000 in
theorem lkX1_71 : zlkV RX1 71 mdX0_turnFeud 2 := ⟨⟨Or.inl (zgt_in (zt2 (List.mem_of_getElem? (i := 157) rfl)) rfl), niRX0, kcX0_turnFeud, ⟨by decide, by decide, by decide +kernel⟩, by decide⟩, knX0_turnFeud, ksX0_turnFeud⟩
set_option maxRecDepth 100000 in
theorem lkX1_74 : zlkV RX1 74 mdX0_enrich 2 := ⟨⟨Or.inl (zgt_in (zt2 (List.mem_of_getElem? (i := 169) rfl)) rfl), niRX0, kcX0_enrich, ⟨by decide, by decide, by decide +kernel⟩, by decide⟩, knX0_enrich, ksX0_enrich⟩
set_option maxRecDepth 100000 in
theorem lkX1_77 : zlkV RX1 77 mdX0_mayPass 1 := ⟨⟨Or.inl (zgt_in (zt2 (List.mem_of_getElem? (i := 173) rfl)) rfl), niRX0, kcX0_mayPass, ⟨by decide, by decide, by decide +kernel⟩, by decide⟩, knX0_mayPass, ksX0_mayPass⟩
set_option maxRecDepth 100000 in
theorem lkX1_80 : zlkV RX1 80 mdX0_passYears 1 := ⟨⟨Or.inl (zgt_in (zt2 (List.mem_of_getElem? (i := 177) rfl)) rfl), niRX0, kcX0_passYears, ⟨by decide, by decide, by decide +kernel⟩, by decide⟩, knX0_passYears, ksX0_passYears⟩
set_option maxRecDepth 100000 in
theorem lkX2_34 : zlkV RX2 34 mdX0_become 1 := ⟨⟨Or.inl (zgt_in (zt4 (List.mem_of_getElem? (i := 24) rfl)) rfl), niRX0, kcX0_become, ⟨by decide, by decide, by decide +kernel⟩, by decide⟩, knX0_become, ksX0_become⟩
set_option maxRecDepth 100000 in
theorem lkX2_38 : zlkV RX2 38 mdX2_waysFrom 1 := ⟨⟨Or.inl (zgt_in (zt4 (List.mem_of_getElem? (i := 25) rfl)) rfl), niRX2, kcX2_waysFrom, ⟨by decide, by decide, by decide +kernel⟩, by decide⟩, knX2_waysFrom, ksX2_waysFrom⟩
set_option maxRecDepth 100000 in
theorem lkX2_42 : zlkV RX2 42 mdX0_has 1 := ⟨⟨Or.inl (zgt_in (zt4 (List.mem_of_getElem? (i := 29) rfl)) rfl), niRX0, kcX0_has, ⟨by decide, by decide, by decide +kernel⟩, by decide⟩, knX0_has, ksX0_has⟩
set_option maxRecDepth 100000 in
theorem lkX2_50 : zlkV RX2 50 mdX0_passYear 1 := ⟨⟨Or.inl (zgt_in (zt4 (List.mem_of_getElem? (i := 30) rfl)) rfl), niRX0, kcX0_passYear, ⟨by decide, by decide, by decide +kernel⟩, by decide⟩, knX0_passYear, ksX0_passYear⟩
set_option maxRecDepth 100000 in
theorem lkX3_28 : zlkS RX3 28 mdX3_fitting 3 := ⟨⟨Or.inl (zgt_in (zt3 (List.mem_of_getElem? (i := 209) rfl)) rfl), niRX3, kcX3_fitting, ⟨by decide, by decide, by decide +kernel⟩, by decide⟩, ktX3_fitting⟩
set_option maxRecDepth 100000 in
theorem lkX3_32 : zlkV RX3 32 mdX3_mostOf 1 := ⟨⟨Or.inl (zgt_in (zt3 (List.mem_of_getElem? (i := 216) rfl)) rfl), niRX3, kcX3_mostOf, ⟨by decide, by decide, by decide +kernel⟩, by decide⟩, knX3_mostOf, ksX3_mostOf⟩
set_option maxRecDepth 100000 in
theorem lkX3_36 : zlkV RX3 36 mdX3_choose 1 := ⟨⟨Or.inl (zgt_in (zt3 (List.mem_of_getElem? (i := 226) rfl)) rfl), niRX3, kcX3_choose, ⟨by decide, by decide, by decide +kernel⟩, by decide⟩, knX3_choose, ksX3_choose⟩
set_option maxRecDepth 100000 in
theorem lkX3_43 : zlkS RX3 43 mdJ9_abs_0f7a4 1 := ⟨⟨Or.inl (zgt_in (zt3 (List.mem_of_getElem? (i := 212) rfl)) rfl), niRJ9, kcJ9_abs_0f7a4, ⟨by decide, by decide, by decide +kernel⟩, by decide⟩, ktJ9_abs_0f7a4⟩
set_option maxRecDepth 100000 in
theorem lkX3_48 : zlkV RX3 48 mdX0_atFeud 2 := ⟨⟨Or.inl (zgt_in (zt3 (List.mem_of_getElem? (i := 215) rfl)) rfl), niRX0, kcX0_atFeud, ⟨by decide, by decide, by decide +kernel⟩, by decide⟩, knX0_atFeud, ksX0_atFeud⟩
set_option maxRecDepth 100000 in
theorem lkX3_52 : zlkV RX3 52 mdX3_leastIn 1 := ⟨⟨Or.inl (zgt_in (zt3 (List.mem_of_getElem? (i := 220) rfl)) rfl), niRX3, kcX3_leastIn, ⟨by decide, by decide, by decide +kernel⟩, by decide⟩, knX3_leastIn, ksX3_leastIn⟩
set_option maxRecDepth 100000 in
theorem lkX3_55 : zlkS RX3 55 mdX6_isIn 2 := ⟨⟨Or.inr (⟨"CousinsByAgreement", zNW_in (zt3 (List.mem_of_getElem? (i := 224) rfl)) rfl⟩), niRX6, kcX6_isIn, ⟨by decide, by decide, by decide +kernel⟩, by decide⟩, ktX6_isIn⟩
set_option maxRecDepth 100000 in
theorem lkX3_58 : zlkS RX3 58 mdJ9_max_7cf53 2 := ⟨⟨Or.inl (zgt_in (zt3 (List.mem_of_getElem? (i := 225) rfl)) rfl), niRJ9, kcJ9_max_7cf53, ⟨by decide, by decide, by decide +kernel⟩, by decide⟩, ktJ9_max_7cf53⟩
set_option maxRecDepth 100000 in
theorem lkX3_62 : zlkS RX3 62 mdJ7_fill_53178 2 := ⟨⟨Or.inl (zgt_in (zt3 (List.mem_of_getElem? (i := 230) rfl)) rfl), niRJ7, kcJ7_fill_53178, ⟨by decide, by decide, by decide +kernel⟩, by decide⟩, ktJ7_fill_53178⟩
set_option maxRecDepth 100000 in
theorem lkX3_68 : zlkV RX3 68 mdX3_leastPartner 2 := ⟨⟨Or.inl (zgt_in (zt3 (List.mem_of_getElem? (i := 231) rfl)) rfl), niRX3, kcX3_leastPartner, ⟨by decide, by decide, by decide +kernel⟩, by decide⟩, knX3_leastPartner, ksX3_leastPartner⟩
set_option maxRecDepth 100000 in
theorem lkX4_26 : Cond.methodLink RX4 26 arraycopyName ∈ zgt ∧ Cond.native arraycopyName ∈ zgt ∧ Cond.static arraycopyName ∈ zgt ∧ Cond.initialized "java/lang/System" ∈ zgt := ⟨zgt_in (zt3 (List.mem_of_getElem? (i := 187) rfl)) rfl, zgt_in (zt2 (List.mem_of_getElem? (i := 106) rfl)) rfl, zgt_in (zt2 (List.mem_of_getElem? (i := 105) rfl)) rfl, niRJ10⟩
set_option maxRecDepth 100000 in
theorem lkX4_32 : zlkS RX4 32 mdJ7_fill_53178 2 := ⟨⟨Or.inl (zgt_in (zt3 (List.mem_of_getElem? (i := 188) rfl)) rfl), niRJ7, kcJ7_fill_53178, ⟨by decide, by decide, by decide +kernel⟩, by decide⟩, ktJ7_fill_53178⟩
set_option maxRecDepth 100000 in
theorem lkX4_38 : zlkV RX4 38 mdX4_seatFrom 3 := ⟨⟨Or.inl (zgt_in (zt3 (List.mem_of_getElem? (i := 191) rfl)) rfl), niRX4, kcX4_seatFrom, ⟨by decide, by decide, by decide +kernel⟩, by decide⟩, knX4_seatFrom, ksX4_seatFrom⟩
set_option maxRecDepth 100000 in
theorem lkX4_42 : zlkS RX4 42 mdJ9_max_7cf53 2 := ⟨⟨Or.inl (zgt_in (zt3 (List.mem_of_getElem? (i := 195) rfl)) rfl), niRJ9, kcJ9_max_7cf53, ⟨by decide, by decide, by decide +kernel⟩, by decide⟩, ktJ9_max_7cf53⟩
set_option maxRecDepth 100000 in
theorem lkX4_48 : zlkS RX4 48 mdX6_isIn 2 := ⟨⟨Or.inr (⟨"CousinsByAgreement", zNW_in (zt3 (List.mem_of_getElem? (i := 200) rfl)) rfl⟩), niRX6, kcX6_isIn, ⟨by decide, by decide, by decide +kernel⟩, by decide⟩, ktX6_isIn⟩
set_option maxRecDepth 100000 in
theorem lkX5_22 : zlkV RX5 22 mdX0_kinOf 1 := ⟨⟨Or.inl (zgt_in (zt3 (List.mem_of_getElem? (i := 78) rfl)) rfl), niRX0, kcX0_kinOf, ⟨by decide, by decide, by decide +kernel⟩, by decide⟩, knX0_kinOf, ksX0_kinOf⟩
set_option maxRecDepth 100000 in
theorem lkX5_26 : zlkS RX5 26 mdX6_isIn 2 := ⟨⟨Or.inr (⟨"CousinsByAgreement", zNW_in (zt3 (List.mem_of_getElem? (i := 87) rfl)) rfl⟩), niRX6, kcX6_isIn, ⟨by decide, by decide, by decide +kernel⟩, by decide⟩, ktX6_isIn⟩
set_option maxRecDepth 100000 in
theorem lkX5_30 : zlkV RX5 30 mdX5_spread 1 := ⟨⟨Or.inl (zgt_in (zt3 (List.mem_of_getElem? (i := 83) rfl)) rfl), niRX5, kcX5_spread, ⟨by decide, by decide, by decide +kernel⟩, by decide⟩, knX5_spread, ksX5_spread⟩
set_option maxRecDepth 100000 in
theorem lkX5_33 : zlkV RX5 33 mdX5_reachOf 1 := ⟨⟨Or.inl (zgt_in (zt3 (List.mem_of_getElem? (i := 108) rfl)) rfl), niRX5, kcX5_reachOf, ⟨by decide, by decide, by decide +kernel⟩, by decide⟩, knX5_reachOf, ksX5_reachOf⟩
set_option maxRecDepth 100000 in
theorem lkX5_36 : zlkS RX5 36 mdJ6_bitCount_0f7a4 1 := ⟨⟨Or.inl (zgt_in (zt3 (List.mem_of_getElem? (i := 113) rfl)) rfl), niRJ6, kcJ6_bitCount_0f7a4, ⟨by decide, by decide, by decide +kernel⟩, by decide⟩, ktJ6_bitCount_0f7a4⟩
set_option maxRecDepth 100000 in
theorem lkX5_41 : zlkS RX5 41 mdJ9_max_7cf53 2 := ⟨⟨Or.inl (zgt_in (zt3 (List.mem_of_getElem? (i := 114) rfl)) rfl), niRJ9, kcJ9_max_7cf53, ⟨by decide, by decide, by decide +kernel⟩, by decide⟩, ktJ9_max_7cf53⟩
set_option maxRecDepth 100000 in
theorem lkX5_47 : zlkV RX5 47 mdX5_isClan 1 := ⟨⟨Or.inl (zgt_in (zt3 (List.mem_of_getElem? (i := 127) rfl)) rfl), niRX5, kcX5_isClan, ⟨by decide, by decide, by decide +kernel⟩, by decide⟩, knX5_isClan, ksX5_isClan⟩
set_option maxRecDepth 100000 in
theorem lkL_13 : zlkV RL 13 mdX6_letter 1 := ⟨⟨Or.inl (zgt_in (zt1 (List.mem_of_getElem? (i := 203) rfl)) rfl), niRX6, kcX6_letter, ⟨by decide, by decide, by decide +kernel⟩, by decide⟩, knX6_letter, ksX6_letter⟩
set_option maxRecDepth 100000 in
theorem lkL_17 : zlkV RL 17 mdX7_letter 1 := ⟨⟨Or.inl (zgt_in (zt4 (List.mem_of_getElem? (i := 191) rfl)) rfl), niRX7, kcX7_letter, ⟨by decide, by decide, by decide +kernel⟩, by decide⟩, knX7_letter, ksX7_letter⟩
set_option maxRecDepth 100000 in
theorem lkL_18 : zlkV RL 18 mdX6_county 0 := ⟨⟨Or.inl (zgt_in (zt1 (List.mem_of_getElem? (i := 226) rfl)) rfl), niRX6, kcX6_county, ⟨by decide, by decide, by decide +kernel⟩, by decide⟩, knX6_county, ksX6_county⟩
set_option maxRecDepth 100000 in
theorem lkL_22 : zlkV RL 22 mdX7_county 0 := ⟨⟨Or.inl (zgt_in (zt4 (List.mem_of_getElem? (i := 202) rfl)) rfl), niRX7, kcX7_county, ⟨by decide, by decide, by decide +kernel⟩, by decide⟩, knX7_county, ksX7_county⟩
set_option maxRecDepth 100000 in
theorem lkL_23 : zlkV RL 23 mdX6_person 2 := ⟨⟨Or.inl (zgt_in (zt2 (List.mem_of_getElem? (i := 203) rfl)) rfl), niRX6, kcX6_person, ⟨by decide, by decide, by decide +kernel⟩, by decide⟩, knX6_person, ksX6_person⟩
set_option maxRecDepth 100000 in
theorem lkL_27 : zlkV RL 27 mdX7_person 2 := ⟨⟨Or.inl (zgt_in (zt5 (List.mem_of_getElem? (i := 63) rfl)) rfl), niRX7, kcX7_person, ⟨by decide, by decide, by decide +kernel⟩, by decide⟩, knX7_person, ksX7_person⟩
set_option maxRecDepth 100000 in
theorem lkL_28 : zlkV RL 28 mdX6_tie 3 := ⟨⟨Or.inl (zgt_in (zt2 (List.mem_of_getElem? (i := 222) rfl)) rfl), niRX6, kcX6_tie, ⟨by decide, by decide, by decide +kernel⟩, by decide⟩, knX6_tie, ksX6_tie⟩
set_option maxRecDepth 100000 in
theorem lkL_32 : zlkV RL 32 mdX7_tie 3 := ⟨⟨Or.inl (zgt_in (zt5 (List.mem_of_getElem? (i := 74) rfl)) rfl), niRX7, kcX7_tie, ⟨by decide, by decide, by decide +kernel⟩, by decide⟩, knX7_tie, ksX7_tie⟩
set_option maxRecDepth 100000 in
theorem lkL_33 : zlkV RL 33 mdX6_signs 2 := ⟨⟨Or.inl (zgt_in (zt3 (List.mem_of_getElem? (i := 1) rfl)) rfl), niRX6, kcX6_signs, ⟨by decide, by decide, by decide +kernel⟩, by decide⟩, knX6_signs, ksX6_signs⟩
set_option maxRecDepth 100000 in
theorem lkL_36 : zlkV RL 36 mdX7_signs 2 := ⟨⟨Or.inl (zgt_in (zt5 (List.mem_of_getElem? (i := 78) rfl)) rfl), niRX7, kcX7_signs, ⟨by decide, by decide, by decide +kernel⟩, by decide⟩, knX7_signs, ksX7_signs⟩
set_option maxRecDepth 100000 in
theorem lkL_37 : zlkV RL 37 mdX6_feuds 2 := ⟨⟨Or.inl (zgt_in (zt3 (List.mem_of_getElem? (i := 6) rfl)) rfl), niRX6, kcX6_feuds, ⟨by decide, by decide, by decide +kernel⟩, by decide⟩, knX6_feuds, ksX6_feuds⟩
set_option maxRecDepth 100000 in
theorem lkL_40 : zlkV RL 40 mdX7_feuds 2 := ⟨⟨Or.inl (zgt_in (zt5 (List.mem_of_getElem? (i := 82) rfl)) rfl), niRX7, kcX7_feuds, ⟨by decide, by decide, by decide +kernel⟩, by decide⟩, knX7_feuds, ksX7_feuds⟩
set_option maxRecDepth 100000 in
theorem lkL_41 : zlkV RL 41 mdX6_gets 2 := ⟨⟨Or.inl (zgt_in (zt3 (List.mem_of_getElem? (i := 11) rfl)) rfl), niRX6, kcX6_gets, ⟨by decide, by decide, by decide +kernel⟩, by decide⟩, knX6_gets, ksX6_gets⟩
set_option maxRecDepth 100000 in
theorem lkL_44 : zlkV RL 44 mdX7_gets 2 := ⟨⟨Or.inl (zgt_in (zt5 (List.mem_of_getElem? (i := 86) rfl)) rfl), niRX7, kcX7_gets, ⟨by decide, by decide, by decide +kernel⟩, by decide⟩, knX7_gets, ksX7_gets⟩
set_option maxRecDepth 100000 in
theorem lkL_45 : zlkV RL 45 mdX6_turn 3 := ⟨⟨Or.inl (zgt_in (zt3 (List.mem_of_getElem? (i := 15) rfl)) rfl), niRX6, kcX6_turn, ⟨by decide, by decide, by decide +kernel⟩, by decide⟩, knX6_turn, ksX6_turn⟩
set_option maxRecDepth 100000 in
theorem lkL_48 : zlkV RL 48 mdX7_turn 3 := ⟨⟨Or.inl (zgt_in (zt5 (List.mem_of_getElem? (i := 90) rfl)) rfl), niRX7, kcX7_turn, ⟨by decide, by decide, by decide +kernel⟩, by decide⟩, knX7_turn, ksX7_turn⟩
set_option maxRecDepth 100000 in
theorem lkL_49 : zlkV RL 49 mdX6_years 1 := ⟨⟨Or.inl (zgt_in (zt3 (List.mem_of_getElem? (i := 19) rfl)) rfl), niRX6, kcX6_years, ⟨by decide, by decide, by decide +kernel⟩, by decide⟩, knX6_years, ksX6_years⟩
set_option maxRecDepth 100000 in
theorem lkL_52 : zlkV RL 52 mdX7_years 1 := ⟨⟨Or.inl (zgt_in (zt5 (List.mem_of_getElem? (i := 94) rfl)) rfl), niRX7, kcX7_years, ⟨by decide, by decide, by decide +kernel⟩, by decide⟩, knX7_years, ksX7_years⟩
set_option maxRecDepth 100000 in
theorem lkL_53 : zlkV RL 53 mdX6_hasThen 3 := ⟨⟨Or.inl (zgt_in (zt3 (List.mem_of_getElem? (i := 29) rfl)) rfl), niRX6, kcX6_hasThen, ⟨by decide, by decide, by decide +kernel⟩, by decide⟩, knX6_hasThen, ksX6_hasThen⟩
set_option maxRecDepth 100000 in
theorem lkL_56 : zlkV RL 56 mdX7_hasThen 3 := ⟨⟨Or.inl (zgt_in (zt5 (List.mem_of_getElem? (i := 102) rfl)) rfl), niRX7, kcX7_hasThen, ⟨by decide, by decide, by decide +kernel⟩, by decide⟩, knX7_hasThen, ksX7_hasThen⟩
set_option maxRecDepth 100000 in
theorem lkL_57 : zlkV RL 57 mdX6_areKin 3 := ⟨⟨Or.inl (zgt_in (zt3 (List.mem_of_getElem? (i := 37) rfl)) rfl), niRX6, kcX6_areKin, ⟨by decide, by decide, by decide +kernel⟩, by decide⟩, knX6_areKin, ksX6_areKin⟩
set_option maxRecDepth 100000 in
theorem lkL_60 : zlkV RL 60 mdX7_areKin 3 := ⟨⟨Or.inl (zgt_in (zt5 (List.mem_of_getElem? (i := 121) rfl)) rfl), niRX7, kcX7_areKin, ⟨by decide, by decide, by decide +kernel⟩, by decide⟩, knX7_areKin, ksX7_areKin⟩
set_option maxRecDepth 100000 in
theorem lkL_61 : zlkV RL 61 mdX6_allMoney 1 := ⟨⟨Or.inl (zgt_in (zt3 (List.mem_of_getElem? (i := 41) rfl)) rfl), niRX6, kcX6_allMoney, ⟨by decide, by decide, by decide +kernel⟩, by decide⟩, knX6_allMoney, ksX6_allMoney⟩
set_option maxRecDepth 100000 in
theorem lkL_64 : zlkV RL 64 mdX7_allMoney 1 := ⟨⟨Or.inl (zgt_in (zt5 (List.mem_of_getElem? (i := 125) rfl)) rfl), niRX7, kcX7_allMoney, ⟨by decide, by decide, by decide +kernel⟩, by decide⟩, knX7_allMoney, ksX7_allMoney⟩
set_option maxRecDepth 100000 in
theorem lkL_65 : zlkV RL 65 mdX6_ruined 1 := ⟨⟨Or.inl (zgt_in (zt3 (List.mem_of_getElem? (i := 45) rfl)) rfl), niRX6, kcX6_ruined, ⟨by decide, by decide, by decide +kernel⟩, by decide⟩, knX6_ruined, ksX6_ruined⟩
set_option maxRecDepth 100000 in
theorem lkL_68 : zlkV RL 68 mdX7_ruined 1 := ⟨⟨Or.inl (zgt_in (zt5 (List.mem_of_getElem? (i := 133) rfl)) rfl), niRX7, kcX7_ruined, ⟨by decide, by decide, by decide +kernel⟩, by decide⟩, knX7_ruined, ksX7_ruined⟩
set_option maxRecDepth 100000 in
theorem lkL_69 : zlkV RL 69 mdX6_first 1 := ⟨⟨Or.inl (zgt_in (zt3 (List.mem_of_getElem? (i := 50) rfl)) rfl), niRX6, kcX6_first, ⟨by decide, by decide, by decide +kernel⟩, by decide⟩, knX6_first, ksX6_first⟩
set_option maxRecDepth 100000 in
theorem lkL_72 : zlkV RL 72 mdX7_first 1 := ⟨⟨Or.inl (zgt_in (zt5 (List.mem_of_getElem? (i := 141) rfl)) rfl), niRX7, kcX7_first, ⟨by decide, by decide, by decide +kernel⟩, by decide⟩, knX7_first, ksX7_first⟩
set_option maxRecDepth 100000 in
theorem lkL_73 : zlkV RL 73 mdX6_richest 1 := ⟨⟨Or.inl (zgt_in (zt3 (List.mem_of_getElem? (i := 66) rfl)) rfl), niRX6, kcX6_richest, ⟨by decide, by decide, by decide +kernel⟩, by decide⟩, knX6_richest, ksX6_richest⟩
set_option maxRecDepth 100000 in
theorem lkL_76 : zlkV RL 76 mdX7_richest 1 := ⟨⟨Or.inl (zgt_in (zt5 (List.mem_of_getElem? (i := 153) rfl)) rfl), niRX7, kcX7_richest, ⟨by decide, by decide, by decide +kernel⟩, by decide⟩, knX7_richest, ksX7_richest⟩
set_option maxRecDepth 100000 in
theorem lkL_77 : zlkV RL 77 mdX6_kin 2 := ⟨⟨Or.inl (zgt_in (zt3 (List.mem_of_getElem? (i := 70) rfl)) rfl), niRX6, kcX6_kin, ⟨by decide, by decide, by decide +kernel⟩, by decide⟩, knX6_kin, ksX6_kin⟩
set_option maxRecDepth 100000 in
theorem lkL_80 : zlkV RL 80 mdX7_kin 2 := ⟨⟨Or.inl (zgt_in (zt5 (List.mem_of_getElem? (i := 157) rfl)) rfl), niRX7, kcX7_kin, ⟨by decide, by decide, by decide +kernel⟩, by decide⟩, knX7_kin, ksX7_kin⟩
set_option maxRecDepth 100000 in
theorem lkL_81 : zlkV RL 81 mdX6_removed 2 := ⟨⟨Or.inl (zgt_in (zt3 (List.mem_of_getElem? (i := 88) rfl)) rfl), niRX6, kcX6_removed, ⟨by decide, by decide, by decide +kernel⟩, by decide⟩, knX6_removed, ksX6_removed⟩
set_option maxRecDepth 100000 in
theorem lkL_84 : zlkV RL 84 mdX7_removed 2 := ⟨⟨Or.inl (zgt_in (zt5 (List.mem_of_getElem? (i := 169) rfl)) rfl), niRX7, kcX7_removed, ⟨by decide, by decide, by decide +kernel⟩, by decide⟩, knX7_removed, ksX7_removed⟩
set_option maxRecDepth 100000 in
theorem lkL_85 : zlkV RL 85 mdX6_farthest 1 := ⟨⟨Or.inl (zgt_in (zt3 (List.mem_of_getElem? (i := 96) rfl)) rfl), niRX6, kcX6_farthest, ⟨by decide, by decide, by decide +kernel⟩, by decide⟩, knX6_farthest, ksX6_farthest⟩
set_option maxRecDepth 100000 in
theorem lkL_88 : zlkV RL 88 mdX7_farthest 1 := ⟨⟨Or.inl (zgt_in (zt5 (List.mem_of_getElem? (i := 173) rfl)) rfl), niRX7, kcX7_farthest, ⟨by decide, by decide, by decide +kernel⟩, by decide⟩, knX7_farthest, ksX7_farthest⟩
set_option maxRecDepth 100000 in
theorem lkL_89 : zlkV RL 89 mdX6_groups 1 := ⟨⟨Or.inl (zgt_in (zt3 (List.mem_of_getElem? (i := 100) rfl)) rfl), niRX6, kcX6_groups, ⟨by decide, by decide, by decide +kernel⟩, by decide⟩, knX6_groups, ksX6_groups⟩
set_option maxRecDepth 100000 in
theorem lkL_92 : zlkV RL 92 mdX7_groups 1 := ⟨⟨Or.inl (zgt_in (zt5 (List.mem_of_getElem? (i := 177) rfl)) rfl), niRX7, kcX7_groups, ⟨by decide, by decide, by decide +kernel⟩, by decide⟩, knX7_groups, ksX7_groups⟩
set_option maxRecDepth 100000 in
theorem lkL_93 : zlkV RL 93 mdX6_clan 1 := ⟨⟨Or.inl (zgt_in (zt3 (List.mem_of_getElem? (i := 119) rfl)) rfl), niRX6, kcX6_clan, ⟨by decide, by decide, by decide +kernel⟩, by decide⟩, knX6_clan, ksX6_clan⟩
set_option maxRecDepth 100000 in
theorem lkL_96 : zlkV RL 96 mdX7_clan 1 := ⟨⟨Or.inl (zgt_in (zt5 (List.mem_of_getElem? (i := 185) rfl)) rfl), niRX7, kcX7_clan, ⟨by decide, by decide, by decide +kernel⟩, by decide⟩, knX7_clan, ksX7_clan⟩
set_option maxRecDepth 100000 in
theorem lkL_97 : zlkV RL 97 mdX6_bestSign 2 := ⟨⟨Or.inl (zgt_in (zt3 (List.mem_of_getElem? (i := 131) rfl)) rfl), niRX6, kcX6_bestSign, ⟨by decide, by decide, by decide +kernel⟩, by decide⟩, knX6_bestSign, ksX6_bestSign⟩
set_option maxRecDepth 100000 in
theorem lkL_100 : zlkV RL 100 mdX7_bestSign 2 := ⟨⟨Or.inl (zgt_in (zt5 (List.mem_of_getElem? (i := 193) rfl)) rfl), niRX7, kcX7_bestSign, ⟨by decide, by decide, by decide +kernel⟩, by decide⟩, knX7_bestSign, ksX7_bestSign⟩
set_option maxRecDepth 100000 in
theorem lkL_101 : zlkV RL 101 mdX6_bestCut 2 := ⟨⟨Or.inl (zgt_in (zt3 (List.mem_of_getElem? (i := 156) rfl)) rfl), niRX6, kcX6_bestCut, ⟨by decide, by decide, by decide +kernel⟩, by decide⟩, knX6_bestCut, ksX6_bestCut⟩
set_option maxRecDepth 100000 in
theorem lkL_104 : zlkV RL 104 mdX7_bestCut 2 := ⟨⟨Or.inl (zgt_in (zt5 (List.mem_of_getElem? (i := 208) rfl)) rfl), niRX7, kcX7_bestCut, ⟨by decide, by decide, by decide +kernel⟩, by decide⟩, knX7_bestCut, ksX7_bestCut⟩
set_option maxRecDepth 100000 in
theorem lkL_105 : zlkV RL 105 mdX6_feudCosts 3 := ⟨⟨Or.inl (zgt_in (zt3 (List.mem_of_getElem? (i := 160) rfl)) rfl), niRX6, kcX6_feudCosts, ⟨by decide, by decide, by decide +kernel⟩, by decide⟩, knX6_feudCosts, ksX6_feudCosts⟩
set_option maxRecDepth 100000 in
theorem lkL_108 : zlkV RL 108 mdX7_feudCosts 3 := ⟨⟨Or.inl (zgt_in (zt5 (List.mem_of_getElem? (i := 212) rfl)) rfl), niRX7, kcX7_feudCosts, ⟨by decide, by decide, by decide +kernel⟩, by decide⟩, knX7_feudCosts, ksX7_feudCosts⟩
set_option maxRecDepth 100000 in
theorem lkL_109 : zlkV RL 109 mdX6_peace 0 := ⟨⟨Or.inl (zgt_in (zt3 (List.mem_of_getElem? (i := 170) rfl)) rfl), niRX6, kcX6_peace, ⟨by decide, by decide, by decide +kernel⟩, by decide⟩, knX6_peace, ksX6_peace⟩
set_option maxRecDepth 100000 in
theorem lkL_112 : zlkV RL 112 mdX7_peace 0 := ⟨⟨Or.inl (zgt_in (zt5 (List.mem_of_getElem? (i := 221) rfl)) rfl), niRX7, kcX7_peace, ⟨by decide, by decide, by decide +kernel⟩, by decide⟩, knX7_peace, ksX7_peace⟩
set_option maxRecDepth 100000 in
theorem lkL_113 : zlkV RL 113 mdX6_will 2 := ⟨⟨Or.inl (zgt_in (zt3 (List.mem_of_getElem? (i := 174) rfl)) rfl), niRX6, kcX6_will, ⟨by decide, by decide, by decide +kernel⟩, by decide⟩, knX6_will, ksX6_will⟩
set_option maxRecDepth 100000 in
theorem lkL_116 : zlkV RL 116 mdX7_will 2 := ⟨⟨Or.inl (zgt_in (zt5 (List.mem_of_getElem? (i := 225) rfl)) rfl), niRX7, kcX7_will, ⟨by decide, by decide, by decide +kernel⟩, by decide⟩, knX7_will, ksX7_will⟩
set_option maxRecDepth 100000 in
theorem lkL_117 : zlkV RL 117 mdX6_rooms 1 := ⟨⟨Or.inl (zgt_in (zt3 (List.mem_of_getElem? (i := 179) rfl)) rfl), niRX6, kcX6_rooms, ⟨by decide, by decide, by decide +kernel⟩, by decide⟩, knX6_rooms, ksX6_rooms⟩
set_option maxRecDepth 100000 in
theorem lkL_120 : zlkV RL 120 mdX7_rooms 1 := ⟨⟨Or.inl (zgt_in (zt5 (List.mem_of_getElem? (i := 229) rfl)) rfl), niRX7, kcX7_rooms, ⟨by decide, by decide, by decide +kernel⟩, by decide⟩, knX7_rooms, ksX7_rooms⟩
set_option maxRecDepth 100000 in
theorem lkL_121 : zlkV RL 121 mdX6_couples 2 := ⟨⟨Or.inl (zgt_in (zt3 (List.mem_of_getElem? (i := 201) rfl)) rfl), niRX6, kcX6_couples, ⟨by decide, by decide, by decide +kernel⟩, by decide⟩, knX6_couples, ksX6_couples⟩
set_option maxRecDepth 100000 in
theorem lkL_124 : zlkV RL 124 mdX7_couples 2 := ⟨⟨Or.inl (zgt_in (zt6 (List.mem_of_getElem? (i := 1) rfl)) rfl), niRX7, kcX7_couples, ⟨by decide, by decide, by decide +kernel⟩, by decide⟩, knX7_couples, ksX7_couples⟩
set_option maxRecDepth 100000 in
theorem lkL_125 : zlkV RL 125 mdX6_buys 2 := ⟨⟨Or.inl (zgt_in (zt3 (List.mem_of_getElem? (i := 239) rfl)) rfl), niRX6, kcX6_buys, ⟨by decide, by decide, by decide +kernel⟩, by decide⟩, knX6_buys, ksX6_buys⟩
set_option maxRecDepth 100000 in
theorem lkL_128 : zlkV RL 128 mdX7_buys 2 := ⟨⟨Or.inl (zgt_in (zt6 (List.mem_of_getElem? (i := 24) rfl)) rfl), niRX7, kcX7_buys, ⟨by decide, by decide, by decide +kernel⟩, by decide⟩, knX7_buys, ksX7_buys⟩
set_option maxRecDepth 100000 in
theorem lkL_129 : zlkV RL 129 mdX6_matters 1 := ⟨⟨Or.inl (zgt_in (zt4 (List.mem_of_getElem? (i := 3) rfl)) rfl), niRX6, kcX6_matters, ⟨by decide, by decide, by decide +kernel⟩, by decide⟩, knX6_matters, ksX6_matters⟩
set_option maxRecDepth 100000 in
theorem lkL_132 : zlkV RL 132 mdX7_matters 1 := ⟨⟨Or.inl (zgt_in (zt6 (List.mem_of_getElem? (i := 47) rfl)) rfl), niRX7, kcX7_matters, ⟨by decide, by decide, by decide +kernel⟩, by decide⟩, knX7_matters, ksX7_matters⟩
set_option maxRecDepth 100000 in
theorem lkL_133 : zlkV RL 133 mdX6_deaths 6 := ⟨⟨Or.inl (zgt_in (zt4 (List.mem_of_getElem? (i := 12) rfl)) rfl), niRX6, kcX6_deaths, ⟨by decide, by decide, by decide +kernel⟩, by decide⟩, knX6_deaths, ksX6_deaths⟩
set_option maxRecDepth 100000 in
theorem lkL_137 : zlkV RL 137 mdX7_deaths 6 := ⟨⟨Or.inl (zgt_in (zt6 (List.mem_of_getElem? (i := 55) rfl)) rfl), niRX7, kcX7_deaths, ⟨by decide, by decide, by decide +kernel⟩, by decide⟩, knX7_deaths, ksX7_deaths⟩
set_option maxRecDepth 100000 in
theorem lkL_138 : zlkV RL 138 mdX6_mean 1 := ⟨⟨Or.inl (zgt_in (zt4 (List.mem_of_getElem? (i := 40) rfl)) rfl), niRX6, kcX6_mean, ⟨by decide, by decide, by decide +kernel⟩, by decide⟩, knX6_mean, ksX6_mean⟩
set_option maxRecDepth 100000 in
theorem lkL_142 : zlkV RL 142 mdX7_mean 1 := ⟨⟨Or.inl (zgt_in (zt6 (List.mem_of_getElem? (i := 70) rfl)) rfl), niRX7, kcX7_mean, ⟨by decide, by decide, by decide +kernel⟩, by decide⟩, knX7_mean, ksX7_mean⟩
set_option maxRecDepth 100000 in
theorem lkL_143 : zlkV RL 143 mdX6_two 3 := ⟨⟨Or.inl (zgt_in (zt4 (List.mem_of_getElem? (i := 45) rfl)) rfl), niRX6, kcX6_two, ⟨by decide, by decide, by decide +kernel⟩, by decide⟩, knX6_two, ksX6_two⟩
set_option maxRecDepth 100000 in
theorem lkL_146 : zlkV RL 146 mdX7_two 3 := ⟨⟨Or.inl (zgt_in (zt6 (List.mem_of_getElem? (i := 74) rfl)) rfl), niRX7, kcX7_two, ⟨by decide, by decide, by decide +kernel⟩, by decide⟩, knX7_two, ksX7_two⟩
set_option maxRecDepth 100000 in
theorem lkL_147 : zlkV RL 147 mdX6_whatIs 2 := ⟨⟨Or.inl (zgt_in (zt4 (List.mem_of_getElem? (i := 49) rfl)) rfl), niRX6, kcX6_whatIs, ⟨by decide, by decide, by decide +kernel⟩, by decide⟩, knX6_whatIs, ksX6_whatIs⟩
set_option maxRecDepth 100000 in
theorem lkL_150 : zlkV RL 150 mdX7_whatIs 2 := ⟨⟨Or.inl (zgt_in (zt6 (List.mem_of_getElem? (i := 85) rfl)) rfl), niRX7, kcX7_whatIs, ⟨by decide, by decide, by decide +kernel⟩, by decide⟩, knX7_whatIs, ksX7_whatIs⟩
set_option maxRecDepth 100000 in
theorem lkL_151 : zlkV RL 151 mdX6_row 1 := ⟨⟨Or.inl (zgt_in (zt4 (List.mem_of_getElem? (i := 57) rfl)) rfl), niRX6, kcX6_row, ⟨by decide, by decide, by decide +kernel⟩, by decide⟩, knX6_row, ksX6_row⟩
set_option maxRecDepth 100000 in
theorem lkL_154 : zlkV RL 154 mdX7_row 1 := ⟨⟨Or.inl (zgt_in (zt6 (List.mem_of_getElem? (i := 97) rfl)) rfl), niRX7, kcX7_row, ⟨by decide, by decide, by decide +kernel⟩, by decide⟩, knX7_row, ksX7_row⟩
set_option maxRecDepth 100000 in
theorem lkL_155 : zlkV RL 155 mdX6_judge 0 := ⟨⟨Or.inl (zgt_in (zt4 (List.mem_of_getElem? (i := 61) rfl)) rfl), niRX6, kcX6_judge, ⟨by decide, by decide, by decide +kernel⟩, by decide⟩, knX6_judge, ksX6_judge⟩
set_option maxRecDepth 100000 in
theorem lkL_158 : zlkV RL 158 mdX7_judge 0 := ⟨⟨Or.inl (zgt_in (zt6 (List.mem_of_getElem? (i := 101) rfl)) rfl), niRX7, kcX7_judge, ⟨by decide, by decide, by decide +kernel⟩, by decide⟩, knX7_judge, ksX7_judge⟩
set_option maxRecDepth 100000 in
theorem lkL_159 : zlkV RL 159 mdX6_clear 0 := ⟨⟨Or.inl (zgt_in (zt4 (List.mem_of_getElem? (i := 65) rfl)) rfl), niRX6, kcX6_clear, ⟨by decide, by decide, by decide +kernel⟩, by decide⟩, knX6_clear, ksX6_clear⟩
set_option maxRecDepth 100000 in
theorem lkL_162 : zlkV RL 162 mdX7_clear 0 := ⟨⟨Or.inl (zgt_in (zt6 (List.mem_of_getElem? (i := 105) rfl)) rfl), niRX7, kcX7_clear, ⟨by decide, by decide, by decide +kernel⟩, by decide⟩, knX7_clear, ksX7_clear⟩
set_option maxRecDepth 100000 in
theorem lkL_163 : zlkV RL 163 mdX6_lots 3 := ⟨⟨Or.inl (zgt_in (zt4 (List.mem_of_getElem? (i := 69) rfl)) rfl), niRX6, kcX6_lots, ⟨by decide, by decide, by decide +kernel⟩, by decide⟩, knX6_lots, ksX6_lots⟩
set_option maxRecDepth 100000 in
theorem lkL_166 : zlkV RL 166 mdX7_lots 3 := ⟨⟨Or.inl (zgt_in (zt6 (List.mem_of_getElem? (i := 109) rfl)) rfl), niRX7, kcX7_lots, ⟨by decide, by decide, by decide +kernel⟩, by decide⟩, knX7_lots, ksX7_lots⟩
set_option maxRecDepth 100000 in
theorem lkL_167 : zlkV RL 167 mdX6_image 0 := ⟨⟨Or.inl (zgt_in (zt4 (List.mem_of_getElem? (i := 80) rfl)) rfl), niRX6, kcX6_image, ⟨by decide, by decide, by decide +kernel⟩, by decide⟩, knX6_image, ksX6_image⟩
set_option maxRecDepth 100000 in
theorem lkL_170 : zlkV RL 170 mdX7_image 0 := ⟨⟨Or.inl (zgt_in (zt5 (List.mem_of_getElem? (i := 55) rfl)) rfl), niRX7, kcX7_image, ⟨by decide, by decide, by decide +kernel⟩, by decide⟩, knX7_image, ksX7_image⟩
set_option maxRecDepth 100000 in
theorem lkL_171 : zlkV RL 171 mdX6_on 0 := ⟨⟨Or.inl (zgt_in (zt4 (List.mem_of_getElem? (i := 84) rfl)) rfl), niRX6, kcX6_on, ⟨by decide, by decide, by decide +kernel⟩, by decide⟩, knX6_on, ksX6_on⟩
set_option maxRecDepth 100000 in
theorem lkL_174 : zlkV RL 174 mdX7_on 0 := ⟨⟨Or.inl (zgt_in (zt5 (List.mem_of_getElem? (i := 59) rfl)) rfl), niRX7, kcX7_on, ⟨by decide, by decide, by decide +kernel⟩, by decide⟩, knX7_on, ksX7_on⟩
set_option maxRecDepth 100000 in
theorem lkL_175 : zlkV RL 175 mdX6_count 1 := ⟨⟨Or.inl (zgt_in (zt4 (List.mem_of_getElem? (i := 88) rfl)) rfl), niRX6, kcX6_count, ⟨by decide, by decide, by decide +kernel⟩, by decide⟩, knX6_count, ksX6_count⟩
set_option maxRecDepth 100000 in
theorem lkL_178 : zlkV RL 178 mdX7_count 1 := ⟨⟨Or.inl (zgt_in (zt6 (List.mem_of_getElem? (i := 120) rfl)) rfl), niRX7, kcX7_count, ⟨by decide, by decide, by decide +kernel⟩, by decide⟩, knX7_count, ksX7_count⟩
set_option maxRecDepth 100000 in
theorem lkX7_71 : zlkV RX7 71 mdX7_isOne 1 := ⟨⟨Or.inl (zgt_in (zt5 (List.mem_of_getElem? (i := 12) rfl)) rfl), niRX7, kcX7_isOne, ⟨by decide, by decide, by decide +kernel⟩, by decide⟩, knX7_isOne, ksX7_isOne⟩
set_option maxRecDepth 100000 in
theorem lkX7_75 : zlkS RX7 75 mdX7_has 2 := ⟨⟨Or.inl (zgt_in (zt5 (List.mem_of_getElem? (i := 32) rfl)) rfl), niRX7, kcX7_has, ⟨by decide, by decide, by decide +kernel⟩, by decide⟩, ktX7_has⟩
set_option maxRecDepth 100000 in
theorem lkX7_79 : zlkV RX7 79 mdX7_isKin 2 := ⟨⟨Or.inl (zgt_in (zt5 (List.mem_of_getElem? (i := 28) rfl)) rfl), niRX7, kcX7_isKin, ⟨by decide, by decide, by decide +kernel⟩, by decide⟩, knX7_isKin, ksX7_isKin⟩
set_option maxRecDepth 100000 in
theorem lkX7_82 : zlkS RX7 82 mdX7_bound 3 := ⟨⟨Or.inl (zgt_in (zt4 (List.mem_of_getElem? (i := 195) rfl)) rfl), niRX7, kcX7_bound, ⟨by decide, by decide, by decide +kernel⟩, by decide⟩, ktX7_bound⟩
set_option maxRecDepth 100000 in
theorem lkX7_89 : zlkV RX7 89 mdX7_no 1 := ⟨⟨Or.inl (zgt_in (zt4 (List.mem_of_getElem? (i := 198) rfl)) rfl), niRX7, kcX7_no, ⟨by decide, by decide, by decide +kernel⟩, by decide⟩, knX7_no, ksX7_no⟩
set_option maxRecDepth 100000 in
theorem lkX7_96 : zlkV RX7 96 mdX7_next 0 := ⟨⟨Or.inl (zgt_in (zt4 (List.mem_of_getElem? (i := 210) rfl)) rfl), niRX7, kcX7_next, ⟨by decide, by decide, by decide +kernel⟩, by decide⟩, knX7_next, ksX7_next⟩
set_option maxRecDepth 100000 in
theorem lkX7_100 : zlkS RX7 100 mdX7_isIn 3 := ⟨⟨Or.inl (zgt_in (zt4 (List.mem_of_getElem? (i := 229) rfl)) rfl), niRX7, kcX7_isIn, ⟨by decide, by decide, by decide +kernel⟩, by decide⟩, ktX7_isIn⟩
set_option maxRecDepth 100000 in
theorem lkX7_104 : zlkS RX7 104 mdX7_kindOf 1 := ⟨⟨Or.inl (zgt_in (zt4 (List.mem_of_getElem? (i := 222) rfl)) rfl), niRX7, kcX7_kindOf, ⟨by decide, by decide, by decide +kernel⟩, by decide⟩, ktX7_kindOf⟩
set_option maxRecDepth 100000 in
theorem lkX7_107 : zlkV RX7 107 mdX7_readsDigits 2 := ⟨⟨Or.inl (zgt_in (zt4 (List.mem_of_getElem? (i := 225) rfl)) rfl), niRX7, kcX7_readsDigits, ⟨by decide, by decide, by decide +kernel⟩, by decide⟩, knX7_readsDigits, ksX7_readsDigits⟩
set_option maxRecDepth 100000 in
theorem lkX7_110 : zlkV RX7 110 mdX7_readsOne 1 := ⟨⟨Or.inl (zgt_in (zt4 (List.mem_of_getElem? (i := 218) rfl)) rfl), niRX7, kcX7_readsOne, ⟨by decide, by decide, by decide +kernel⟩, by decide⟩, knX7_readsOne, ksX7_readsOne⟩
set_option maxRecDepth 100000 in
theorem lkX7_116 : zlkV RX7 116 mdX7_readsAll 2 := ⟨⟨Or.inl (zgt_in (zt4 (List.mem_of_getElem? (i := 214) rfl)) rfl), niRX7, kcX7_readsAll, ⟨by decide, by decide, by decide +kernel⟩, by decide⟩, knX7_readsAll, ksX7_readsAll⟩
set_option maxRecDepth 100000 in
theorem lkX7_119 : zlkV RX7 119 mdX7_areTwo 2 := ⟨⟨Or.inl (zgt_in (zt5 (List.mem_of_getElem? (i := 47) rfl)) rfl), niRX7, kcX7_areTwo, ⟨by decide, by decide, by decide +kernel⟩, by decide⟩, knX7_areTwo, ksX7_areTwo⟩
set_option maxRecDepth 100000 in
theorem lkX7_122 : zlkV RX7 122 mdX7_turnsFeud 2 := ⟨⟨Or.inl (zgt_in (zt5 (List.mem_of_getElem? (i := 51) rfl)) rfl), niRX7, kcX7_turnsFeud, ⟨by decide, by decide, by decide +kernel⟩, by decide⟩, knX7_turnsFeud, ksX7_turnsFeud⟩
set_option maxRecDepth 100000 in
theorem lkX7_129 : zlkV RX7 129 mdX7_goes 1 := ⟨⟨Or.inl (zgt_in (zt5 (List.mem_of_getElem? (i := 20) rfl)) rfl), niRX7, kcX7_goes, ⟨by decide, by decide, by decide +kernel⟩, by decide⟩, knX7_goes, ksX7_goes⟩
set_option maxRecDepth 100000 in
theorem lkX7_133 : zlkV RX7 133 mdX7_adds 3 := ⟨⟨Or.inl (zgt_in (zt5 (List.mem_of_getElem? (i := 8) rfl)) rfl), niRX7, kcX7_adds, ⟨by decide, by decide, by decide +kernel⟩, by decide⟩, knX7_adds, ksX7_adds⟩
set_option maxRecDepth 100000 in
theorem lkX7_137 : zlkV RX7 137 mdX7_comesYears 1 := ⟨⟨Or.inl (zgt_in (zt5 (List.mem_of_getElem? (i := 16) rfl)) rfl), niRX7, kcX7_comesYears, ⟨by decide, by decide, by decide +kernel⟩, by decide⟩, knX7_comesYears, ksX7_comesYears⟩
set_option maxRecDepth 100000 in
theorem lkX7_140 : zlkV RX7 140 mdX7_comesTie 3 := ⟨⟨Or.inl (zgt_in (zt5 (List.mem_of_getElem? (i := 43) rfl)) rfl), niRX7, kcX7_comesTie, ⟨by decide, by decide, by decide +kernel⟩, by decide⟩, knX7_comesTie, ksX7_comesTie⟩
set_option maxRecDepth 100000 in
theorem lkX7_143 : zlkV RX7 143 mdX7_statement 0 := ⟨⟨Or.inl (zgt_in (zt4 (List.mem_of_getElem? (i := 206) rfl)) rfl), niRX7, kcX7_statement, ⟨by decide, by decide, by decide +kernel⟩, by decide⟩, knX7_statement, ksX7_statement⟩
set_option maxRecDepth 100000 in
theorem lkX7_147 : zlkV RX7 147 mdX7_passesAll 2 := ⟨⟨Or.inl (zgt_in (zt4 (List.mem_of_getElem? (i := 232) rfl)) rfl), niRX7, kcX7_passesAll, ⟨by decide, by decide, by decide +kernel⟩, by decide⟩, knX7_passesAll, ksX7_passesAll⟩
set_option maxRecDepth 100000 in
theorem lkX7_151 : zlkV RX7 151 mdX7_comes 1 := ⟨⟨Or.inl (zgt_in (zt5 (List.mem_of_getElem? (i := 4) rfl)) rfl), niRX7, kcX7_comes, ⟨by decide, by decide, by decide +kernel⟩, by decide⟩, knX7_comes, ksX7_comes⟩
set_option maxRecDepth 100000 in
theorem lkX7_161 : zlkV RX7 161 mdX7_passes 1 := ⟨⟨Or.inl (zgt_in (zt4 (List.mem_of_getElem? (i := 236) rfl)) rfl), niRX7, kcX7_passes, ⟨by decide, by decide, by decide +kernel⟩, by decide⟩, knX7_passes, ksX7_passes⟩
set_option maxRecDepth 100000 in
theorem lkX7_165 : zlkV RX7 165 mdX7_passOne 1 := ⟨⟨Or.inl (zgt_in (zt5 (List.mem_of_getElem? (i := 0) rfl)) rfl), niRX7, kcX7_passOne, ⟨by decide, by decide, by decide +kernel⟩, by decide⟩, knX7_passOne, ksX7_passOne⟩
set_option maxRecDepth 100000 in
theorem lkX7_171 : zlkV RX7 171 mdX7_paysOf 2 := ⟨⟨Or.inl (zgt_in (zt5 (List.mem_of_getElem? (i := 39) rfl)) rfl), niRX7, kcX7_paysOf, ⟨by decide, by decide, by decide +kernel⟩, by decide⟩, knX7_paysOf, ksX7_paysOf⟩
set_option maxRecDepth 100000 in
theorem lkX7_175 : zlkV RX7 175 mdX7_pays 2 := ⟨⟨Or.inl (zgt_in (zt5 (List.mem_of_getElem? (i := 35) rfl)) rfl), niRX7, kcX7_pays, ⟨by decide, by decide, by decide +kernel⟩, by decide⟩, knX7_pays, ksX7_pays⟩
set_option maxRecDepth 100000 in
theorem lkX7_178 : zlkV RX7 178 mdX7_goesYear 0 := ⟨⟨Or.inl (zgt_in (zt5 (List.mem_of_getElem? (i := 24) rfl)) rfl), niRX7, kcX7_goesYear, ⟨by decide, by decide, by decide +kernel⟩, by decide⟩, knX7_goesYear, ksX7_goesYear⟩
set_option maxRecDepth 100000 in
theorem lkX7_181 : zlkV RX7 181 mdX7_kinOf 1 := ⟨⟨Or.inl (zgt_in (zt5 (List.mem_of_getElem? (i := 67) rfl)) rfl), niRX7, kcX7_kinOf, ⟨by decide, by decide, by decide +kernel⟩, by decide⟩, knX7_kinOf, ksX7_kinOf⟩
set_option maxRecDepth 100000 in
theorem lkX7_184 : zlkS RX7 184 mdX7_bits 1 := ⟨⟨Or.inl (zgt_in (zt5 (List.mem_of_getElem? (i := 71) rfl)) rfl), niRX7, kcX7_bits, ⟨by decide, by decide, by decide +kernel⟩, by decide⟩, ktX7_bits⟩
set_option maxRecDepth 100000 in
theorem lkX7_187 : zlkV RX7 187 mdX7_wealth 0 := ⟨⟨Or.inl (zgt_in (zt5 (List.mem_of_getElem? (i := 98) rfl)) rfl), niRX7, kcX7_wealth, ⟨by decide, by decide, by decide +kernel⟩, by decide⟩, knX7_wealth, ksX7_wealth⟩
set_option maxRecDepth 100000 in
theorem lkX7_190 : zlkV RX7 190 mdX7_thinks 0 := ⟨⟨Or.inl (zgt_in (zt5 (List.mem_of_getElem? (i := 113) rfl)) rfl), niRX7, kcX7_thinks, ⟨by decide, by decide, by decide +kernel⟩, by decide⟩, knX7_thinks, ksX7_thinks⟩
set_option maxRecDepth 100000 in
theorem lkX7_193 : zlkV RX7 193 mdX7_forgets 0 := ⟨⟨Or.inl (zgt_in (zt5 (List.mem_of_getElem? (i := 117) rfl)) rfl), niRX7, kcX7_forgets, ⟨by decide, by decide, by decide +kernel⟩, by decide⟩, knX7_forgets, ksX7_forgets⟩
set_option maxRecDepth 100000 in
theorem lkX7_196 : zlkS RX7 196 mdX7_notYears 1 := ⟨⟨Or.inl (zgt_in (zt5 (List.mem_of_getElem? (i := 106) rfl)) rfl), niRX7, kcX7_notYears, ⟨by decide, by decide, by decide +kernel⟩, by decide⟩, ktX7_notYears⟩
set_option maxRecDepth 100000 in
theorem lkX7_199 : zlkV RX7 199 mdX7_moneyIn 2 := ⟨⟨Or.inl (zgt_in (zt5 (List.mem_of_getElem? (i := 109) rfl)) rfl), niRX7, kcX7_moneyIn, ⟨by decide, by decide, by decide +kernel⟩, by decide⟩, knX7_moneyIn, ksX7_moneyIn⟩
set_option maxRecDepth 100000 in
theorem lkX7_202 : zlkV RX7 202 mdX7_wealthIn 1 := ⟨⟨Or.inl (zgt_in (zt5 (List.mem_of_getElem? (i := 129) rfl)) rfl), niRX7, kcX7_wealthIn, ⟨by decide, by decide, by decide +kernel⟩, by decide⟩, knX7_wealthIn, ksX7_wealthIn⟩
set_option maxRecDepth 100000 in
theorem lkX7_205 : zlkV RX7 205 mdX7_ruinOf 1 := ⟨⟨Or.inl (zgt_in (zt5 (List.mem_of_getElem? (i := 137) rfl)) rfl), niRX7, kcX7_ruinOf, ⟨by decide, by decide, by decide +kernel⟩, by decide⟩, knX7_ruinOf, ksX7_ruinOf⟩
set_option maxRecDepth 100000 in
theorem lkX7_208 : zlkV RX7 208 mdX7_isSteady 0 := ⟨⟨Or.inl (zgt_in (zt5 (List.mem_of_getElem? (i := 149) rfl)) rfl), niRX7, kcX7_isSteady, ⟨by decide, by decide, by decide +kernel⟩, by decide⟩, knX7_isSteady, ksX7_isSteady⟩
set_option maxRecDepth 100000 in
theorem lkX7_211 : zlkV RX7 211 mdX7_steadyAt 0 := ⟨⟨Or.inl (zgt_in (zt5 (List.mem_of_getElem? (i := 145) rfl)) rfl), niRX7, kcX7_steadyAt, ⟨by decide, by decide, by decide +kernel⟩, by decide⟩, knX7_steadyAt, ksX7_steadyAt⟩
set_option maxRecDepth 100000 in
theorem lkX7_214 : zlkV RX7 214 mdX7_findSteps 1 := ⟨⟨Or.inl (zgt_in (zt5 (List.mem_of_getElem? (i := 165) rfl)) rfl), niRX7, kcX7_findSteps, ⟨by decide, by decide, by decide +kernel⟩, by decide⟩, knX7_findSteps, ksX7_findSteps⟩
set_option maxRecDepth 100000 in
theorem lkX7_217 : zlkV RX7 217 mdX7_reached 1 := ⟨⟨Or.inl (zgt_in (zt5 (List.mem_of_getElem? (i := 161) rfl)) rfl), niRX7, kcX7_reached, ⟨by decide, by decide, by decide +kernel⟩, by decide⟩, knX7_reached, ksX7_reached⟩
set_option maxRecDepth 100000 in
theorem lkX7_220 : zlkV RX7 220 mdX7_threes 0 := ⟨⟨Or.inl (zgt_in (zt5 (List.mem_of_getElem? (i := 181) rfl)) rfl), niRX7, kcX7_threes, ⟨by decide, by decide, by decide +kernel⟩, by decide⟩, knX7_threes, ksX7_threes⟩
set_option maxRecDepth 100000 in
theorem lkX7_223 : zlkV RX7 223 mdX7_areAllKin 1 := ⟨⟨Or.inl (zgt_in (zt5 (List.mem_of_getElem? (i := 189) rfl)) rfl), niRX7, kcX7_areAllKin, ⟨by decide, by decide, by decide +kernel⟩, by decide⟩, knX7_areAllKin, ksX7_areAllKin⟩
set_option maxRecDepth 100000 in
theorem lkX7_226 : zlkV RX7 226 mdX7_moneySigning 3 := ⟨⟨Or.inl (zgt_in (zt5 (List.mem_of_getElem? (i := 204) rfl)) rfl), niRX7, kcX7_moneySigning, ⟨by decide, by decide, by decide +kernel⟩, by decide⟩, knX7_moneySigning, ksX7_moneySigning⟩
set_option maxRecDepth 100000 in
theorem lkX7_229 : zlkS RX7 229 mdX7_notShort 1 := ⟨⟨Or.inl (zgt_in (zt5 (List.mem_of_getElem? (i := 197) rfl)) rfl), niRX7, kcX7_notShort, ⟨by decide, by decide, by decide +kernel⟩, by decide⟩, ktX7_notShort⟩
set_option maxRecDepth 100000 in
theorem lkX7_232 : zlkV RX7 232 mdX7_bestTurn 3 := ⟨⟨Or.inl (zgt_in (zt5 (List.mem_of_getElem? (i := 200) rfl)) rfl), niRX7, kcX7_bestTurn, ⟨by decide, by decide, by decide +kernel⟩, by decide⟩, knX7_bestTurn, ksX7_bestTurn⟩
set_option maxRecDepth 100000 in
theorem lkX7_236 : zlkV RX7 236 mdX7_lower 1 := ⟨⟨Or.inl (zgt_in (zt5 (List.mem_of_getElem? (i := 216) rfl)) rfl), niRX7, kcX7_lower, ⟨by decide, by decide, by decide +kernel⟩, by decide⟩, knX7_lower, ksX7_lower⟩
set_option maxRecDepth 100000 in
theorem lkX7_239 : zlkV RX7 239 mdX7_leastRoom 2 := ⟨⟨Or.inl (zgt_in (zt5 (List.mem_of_getElem? (i := 237) rfl)) rfl), niRX7, kcX7_leastRoom, ⟨by decide, by decide, by decide +kernel⟩, by decide⟩, knX7_leastRoom, ksX7_leastRoom⟩
set_option maxRecDepth 100000 in
theorem lkX7_242 : zlkV RX7 242 mdX7_findRooms 1 := ⟨⟨Or.inl (zgt_in (zt5 (List.mem_of_getElem? (i := 233) rfl)) rfl), niRX7, kcX7_findRooms, ⟨by decide, by decide, by decide +kernel⟩, by decide⟩, knX7_findRooms, ksX7_findRooms⟩
set_option maxRecDepth 100000 in
theorem lkX7_245 : zlkS RX7 245 mdX7_lowest 1 := ⟨⟨Or.inl (zgt_in (zt6 (List.mem_of_getElem? (i := 9) rfl)) rfl), niRX7, kcX7_lowest, ⟨by decide, by decide, by decide +kernel⟩, by decide⟩, ktX7_lowest⟩
set_option maxRecDepth 100000 in
theorem lkX7_248 : zlkV RX7 248 mdX7_isCouple 3 := ⟨⟨Or.inl (zgt_in (zt6 (List.mem_of_getElem? (i := 12) rfl)) rfl), niRX7, kcX7_isCouple, ⟨by decide, by decide, by decide +kernel⟩, by decide⟩, knX7_isCouple, ksX7_isCouple⟩
set_option maxRecDepth 100000 in
theorem lkX7_251 : zlkV RX7 251 mdX7_partnerIn 3 := ⟨⟨Or.inl (zgt_in (zt6 (List.mem_of_getElem? (i := 20) rfl)) rfl), niRX7, kcX7_partnerIn, ⟨by decide, by decide, by decide +kernel⟩, by decide⟩, knX7_partnerIn, ksX7_partnerIn⟩
set_option maxRecDepth 100000 in
theorem lkX7_254 : zlkV RX7 254 mdX7_findCouples 1 := ⟨⟨Or.inl (zgt_in (zt6 (List.mem_of_getElem? (i := 5) rfl)) rfl), niRX7, kcX7_findCouples, ⟨by decide, by decide, by decide +kernel⟩, by decide⟩, knX7_findCouples, ksX7_findCouples⟩
set_option maxRecDepth 100000 in
theorem lkX7_257 : zlkV RX7 257 mdX7_partnerOf 2 := ⟨⟨Or.inl (zgt_in (zt6 (List.mem_of_getElem? (i := 16) rfl)) rfl), niRX7, kcX7_partnerOf, ⟨by decide, by decide, by decide +kernel⟩, by decide⟩, knX7_partnerOf, ksX7_partnerOf⟩
set_option maxRecDepth 100000 in
theorem lkX7_260 : zlkS RX7 260 mdX7_turned 3 := ⟨⟨Or.inl (zgt_in (zt6 (List.mem_of_getElem? (i := 40) rfl)) rfl), niRX7, kcX7_turned, ⟨by decide, by decide, by decide +kernel⟩, by decide⟩, ktX7_turned⟩
set_option maxRecDepth 100000 in
theorem lkX7_263 : zlkV RX7 263 mdX7_changes 0 := ⟨⟨Or.inl (zgt_in (zt6 (List.mem_of_getElem? (i := 32) rfl)) rfl), niRX7, kcX7_changes, ⟨by decide, by decide, by decide +kernel⟩, by decide⟩, knX7_changes, ksX7_changes⟩
set_option maxRecDepth 100000 in
theorem lkX7_266 : zlkV RX7 266 mdX7_exchanges 3 := ⟨⟨Or.inl (zgt_in (zt6 (List.mem_of_getElem? (i := 36) rfl)) rfl), niRX7, kcX7_exchanges, ⟨by decide, by decide, by decide +kernel⟩, by decide⟩, knX7_exchanges, ksX7_exchanges⟩
set_option maxRecDepth 100000 in
theorem lkX7_270 : zlkV RX7 270 mdX7_changesBack 0 := ⟨⟨Or.inl (zgt_in (zt6 (List.mem_of_getElem? (i := 43) rfl)) rfl), niRX7, kcX7_changesBack, ⟨by decide, by decide, by decide +kernel⟩, by decide⟩, knX7_changesBack, ksX7_changesBack⟩
set_option maxRecDepth 100000 in
theorem lkX7_273 : zlkV RX7 273 mdX7_moneyChanged 3 := ⟨⟨Or.inl (zgt_in (zt6 (List.mem_of_getElem? (i := 28) rfl)) rfl), niRX7, kcX7_moneyChanged, ⟨by decide, by decide, by decide +kernel⟩, by decide⟩, knX7_moneyChanged, ksX7_moneyChanged⟩
set_option maxRecDepth 100000 in
theorem lkX7_276 : zlkV RX7 276 mdX7_twosOfKin 0 := ⟨⟨Or.inl (zgt_in (zt6 (List.mem_of_getElem? (i := 51) rfl)) rfl), niRX7, kcX7_twosOfKin, ⟨by decide, by decide, by decide +kernel⟩, by decide⟩, knX7_twosOfKin, ksX7_twosOfKin⟩
set_option maxRecDepth 100000 in
theorem lkX7_279 : zlkS RX7 279 mdX7_divisor 2 := ⟨⟨Or.inl (zgt_in (zt6 (List.mem_of_getElem? (i := 67) rfl)) rfl), niRX7, kcX7_divisor, ⟨by decide, by decide, by decide +kernel⟩, by decide⟩, ktX7_divisor⟩
set_option maxRecDepth 100000 in
theorem lkX7_283 : zlkV RX7 283 mdX7_lowestOf 1 := ⟨⟨Or.inl (zgt_in (zt6 (List.mem_of_getElem? (i := 59) rfl)) rfl), niRX7, kcX7_lowestOf, ⟨by decide, by decide, by decide +kernel⟩, by decide⟩, knX7_lowestOf, ksX7_lowestOf⟩
set_option maxRecDepth 100000 in
theorem lkX7_287 : zlkS RX7 287 mdX7_partOf 3 := ⟨⟨Or.inl (zgt_in (zt6 (List.mem_of_getElem? (i := 64) rfl)) rfl), niRX7, kcX7_partOf, ⟨by decide, by decide, by decide +kernel⟩, by decide⟩, ktX7_partOf⟩
set_option maxRecDepth 100000 in
theorem lkX7_291 : zlkS RX7 291 mdX7_with 3 := ⟨⟨Or.inl (zgt_in (zt6 (List.mem_of_getElem? (i := 82) rfl)) rfl), niRX7, kcX7_with, ⟨by decide, by decide, by decide +kernel⟩, by decide⟩, ktX7_with⟩
set_option maxRecDepth 100000 in
theorem lkX7_294 : zlkV RX7 294 mdX7_findTwo 3 := ⟨⟨Or.inl (zgt_in (zt6 (List.mem_of_getElem? (i := 78) rfl)) rfl), niRX7, kcX7_findTwo, ⟨by decide, by decide, by decide +kernel⟩, by decide⟩, knX7_findTwo, ksX7_findTwo⟩
set_option maxRecDepth 100000 in
theorem lkX7_300 : zlkV RX7 300 mdX7_isSo 1 := ⟨⟨Or.inl (zgt_in (zt6 (List.mem_of_getElem? (i := 93) rfl)) rfl), niRX7, kcX7_isSo, ⟨by decide, by decide, by decide +kernel⟩, by decide⟩, knX7_isSo, ksX7_isSo⟩
set_option maxRecDepth 100000 in
theorem lkX7_303 : zlkV RX7 303 mdX7_bitsFor 3 := ⟨⟨Or.inl (zgt_in (zt6 (List.mem_of_getElem? (i := 89) rfl)) rfl), niRX7, kcX7_bitsFor, ⟨by decide, by decide, by decide +kernel⟩, by decide⟩, knX7_bitsFor, ksX7_bitsFor⟩
set_option maxRecDepth 100000 in
theorem lkX7_313 : zlkV RX7 313 mdX7_draw 1 := ⟨⟨Or.inl (zgt_in (zt6 (List.mem_of_getElem? (i := 113) rfl)) rfl), niRX7, kcX7_draw, ⟨by decide, by decide, by decide +kernel⟩, by decide⟩, knX7_draw, ksX7_draw⟩
set_option maxRecDepth 100000 in
theorem lkJ0_335 : zlkV RJ0 335 mdJ0_coder_7d493 0 := ⟨⟨Or.inl (zgt_in (zt2 (List.mem_of_getElem? (i := 29) rfl)) rfl), niRJ0, kcJ0_coder_7d493, ⟨by decide, by decide, by decide +kernel⟩, by decide⟩, knJ0_coder_7d493, ksJ0_coder_7d493⟩
set_option maxRecDepth 100000 in
theorem lkJ0_492 : zlkV RJ0 492 mdJ0_isLatin1_aae02 0 := ⟨⟨Or.inl (zgt_in (zt2 (List.mem_of_getElem? (i := 19) rfl)) rfl), niRJ0, kcJ0_isLatin1_aae02, ⟨by decide, by decide, by decide +kernel⟩, by decide⟩, knJ0_isLatin1_aae02, ksJ0_isLatin1_aae02⟩
set_option maxRecDepth 100000 in
theorem lkJ0_505 : zlkV RJ0 505 mdJ0_length_8abf5 0 := ⟨⟨Or.inl (zgt_in (zt2 (List.mem_of_getElem? (i := 25) rfl)) rfl), niRJ0, kcJ0_length_8abf5, ⟨by decide, by decide, by decide +kernel⟩, by decide⟩, knJ0_length_8abf5, ksJ0_length_8abf5⟩
set_option maxRecDepth 100000 in
theorem lkJ0_633 : zlkV RJ0 633 mdJ0_indexOf_7cf53 2 := ⟨⟨Or.inl (zgt_in (zt2 (List.mem_of_getElem? (i := 15) rfl)) rfl), niRJ0, kcJ0_indexOf_7cf53, ⟨by decide, by decide, by decide +kernel⟩, by decide⟩, knJ0_indexOf_7cf53, ksJ0_indexOf_7cf53⟩
set_option maxRecDepth 100000 in
theorem lkJ0_637 : zlkS RJ0 637 mdJ1_indexOf_4cfef 4 := ⟨⟨Or.inl (zgt_in (zt2 (List.mem_of_getElem? (i := 33) rfl)) rfl), niRJ1, kcJ1_indexOf_4cfef, ⟨by decide, by decide, by decide +kernel⟩, by decide⟩, ktJ1_indexOf_4cfef⟩
set_option maxRecDepth 100000 in
theorem lkJ0_640 : zlkS RJ0 640 mdJ2_indexOf_4cfef 4 := ⟨⟨Or.inl (zgt_in (zt2 (List.mem_of_getElem? (i := 48) rfl)) rfl), niRJ2, kcJ2_indexOf_4cfef, ⟨by decide, by decide, by decide +kernel⟩, by decide⟩, ktJ2_indexOf_4cfef⟩
set_option maxRecDepth 100000 in
theorem lkJ0_1062 : zlkS RJ0 1062 mdJ3_checkFromToIndex_8c36e 4 := ⟨⟨Or.inl (zgt_in (zt2 (List.mem_of_getElem? (i := 68) rfl)) rfl), niRJ3, kcJ3_checkFromToIndex_8c36e, ⟨by decide, by decide, by decide +kernel⟩, by decide⟩, ktJ3_checkFromToIndex_8c36e⟩
set_option maxRecDepth 100000 in
theorem lkJ1_38 : zlkS RJ1 38 mdJ9_min_7cf53 2 := ⟨⟨Or.inl (zgt_in (zt2 (List.mem_of_getElem? (i := 42) rfl)) rfl), niRJ9, kcJ9_min_7cf53, ⟨by decide, by decide, by decide +kernel⟩, by decide⟩, ktJ9_min_7cf53⟩
set_option maxRecDepth 100000 in
theorem lkJ1_88 : zlkS RJ1 88 mdJ1_canEncode_9a6ad 1 := ⟨⟨Or.inl (zgt_in (zt2 (List.mem_of_getElem? (i := 36) rfl)) rfl), niRJ1, kcJ1_canEncode_9a6ad, ⟨by decide, by decide, by decide +kernel⟩, by decide⟩, ktJ1_canEncode_9a6ad⟩
set_option maxRecDepth 100000 in
theorem lkJ1_92 : zlkS RJ1 92 mdJ9_max_7cf53 2 := ⟨⟨Or.inl (zgt_in (zt2 (List.mem_of_getElem? (i := 39) rfl)) rfl), niRJ9, kcJ9_max_7cf53, ⟨by decide, by decide, by decide +kernel⟩, by decide⟩, ktJ9_max_7cf53⟩
set_option maxRecDepth 100000 in
theorem lkJ1_95 : zlkS RJ1 95 mdJ1_indexOfChar_4cfef 4 := ⟨⟨Or.inl (zgt_in (zt2 (List.mem_of_getElem? (i := 45) rfl)) rfl), niRJ1, kcJ1_indexOfChar_4cfef, ⟨by decide, by decide, by decide +kernel⟩, by decide⟩, ktJ1_indexOfChar_4cfef⟩
set_option maxRecDepth 100000 in
theorem lkJ2_48 : zlkS RJ2 48 mdJ2_length_9d52b 1 := ⟨⟨Or.inl (zgt_in (zt2 (List.mem_of_getElem? (i := 60) rfl)) rfl), niRJ2, kcJ2_length_9d52b, ⟨by decide, by decide, by decide +kernel⟩, by decide⟩, ktJ2_length_9d52b⟩
set_option maxRecDepth 100000 in
theorem lkJ2_71 : zlkS RJ2 71 mdJ2_getChar_3b067 2 := ⟨⟨Or.inl (zgt_in (zt2 (List.mem_of_getElem? (i := 74) rfl)) rfl), niRJ2, kcJ2_getChar_3b067, ⟨by decide, by decide, by decide +kernel⟩, by decide⟩, ktJ2_getChar_3b067⟩
set_option maxRecDepth 100000 in
theorem lkJ2_96 : zlkS RJ2 96 mdJ2_checkBoundsBeginEnd_d044e 3 := ⟨⟨Or.inl (zgt_in (zt2 (List.mem_of_getElem? (i := 57) rfl)) rfl), niRJ2, kcJ2_checkBoundsBeginEnd_d044e, ⟨by decide, by decide, by decide +kernel⟩, by decide⟩, ktJ2_checkBoundsBeginEnd_d044e⟩
set_option maxRecDepth 100000 in
theorem lkJ2_157 : zlkS RJ2 157 mdJ11_highSurrogate_5068e 1 := ⟨⟨Or.inl (zgt_in (zt2 (List.mem_of_getElem? (i := 89) rfl)) rfl), niRJ11, kcJ11_highSurrogate_5068e, ⟨by decide, by decide, by decide +kernel⟩, by decide⟩, ktJ11_highSurrogate_5068e⟩
set_option maxRecDepth 100000 in
theorem lkJ2_161 : zlkS RJ2 161 mdJ11_lowSurrogate_5068e 1 := ⟨⟨Or.inl (zgt_in (zt2 (List.mem_of_getElem? (i := 93) rfl)) rfl), niRJ11, kcJ11_lowSurrogate_5068e, ⟨by decide, by decide, by decide +kernel⟩, by decide⟩, ktJ11_lowSurrogate_5068e⟩
set_option maxRecDepth 100000 in
theorem lkJ2_164 : zlkS RJ2 164 mdJ11_isValidCodePoint_9a6ad 1 := ⟨⟨Or.inl (zgt_in (zt2 (List.mem_of_getElem? (i := 86) rfl)) rfl), niRJ11, kcJ11_isValidCodePoint_9a6ad, ⟨by decide, by decide, by decide +kernel⟩, by decide⟩, ktJ11_isValidCodePoint_9a6ad⟩
set_option maxRecDepth 100000 in
theorem lkJ2_183 : zlkS RJ2 183 mdJ9_min_7cf53 2 := ⟨⟨Or.inl (zgt_in (zt2 (List.mem_of_getElem? (i := 52) rfl)) rfl), niRJ9, kcJ9_min_7cf53, ⟨by decide, by decide, by decide +kernel⟩, by decide⟩, ktJ9_min_7cf53⟩
set_option maxRecDepth 100000 in
theorem lkJ2_224 : zlkS RJ2 224 mdJ9_max_7cf53 2 := ⟨⟨Or.inl (zgt_in (zt2 (List.mem_of_getElem? (i := 51) rfl)) rfl), niRJ9, kcJ9_max_7cf53, ⟨by decide, by decide, by decide +kernel⟩, by decide⟩, ktJ9_max_7cf53⟩
set_option maxRecDepth 100000 in
theorem lkJ2_228 : zlkS RJ2 228 mdJ2_indexOfChar_4cfef 4 := ⟨⟨Or.inl (zgt_in (zt2 (List.mem_of_getElem? (i := 54) rfl)) rfl), niRJ2, kcJ2_indexOfChar_4cfef, ⟨by decide, by decide, by decide +kernel⟩, by decide⟩, ktJ2_indexOfChar_4cfef⟩
set_option maxRecDepth 100000 in
theorem lkJ2_232 : zlkS RJ2 232 mdJ2_indexOfSupplementary_4cfef 4 := ⟨⟨Or.inl (zgt_in (zt2 (List.mem_of_getElem? (i := 83) rfl)) rfl), niRJ2, kcJ2_indexOfSupplementary_4cfef, ⟨by decide, by decide, by decide +kernel⟩, by decide⟩, ktJ2_indexOfSupplementary_4cfef⟩
set_option maxRecDepth 100000 in
theorem lkJ2_241 : zlkS RJ2 241 mdJ0_checkBoundsBeginEnd_23922 3 := ⟨⟨Or.inl (zgt_in (zt2 (List.mem_of_getElem? (i := 63) rfl)) rfl), niRJ0, kcJ0_checkBoundsBeginEnd_23922, ⟨by decide, by decide, by decide +kernel⟩, by decide⟩, ktJ0_checkBoundsBeginEnd_23922⟩
set_option maxRecDepth 100000 in
theorem lkJ2_244 : zlkS RJ2 244 mdJ2_indexOfCharUnsafe_4cfef 4 := ⟨⟨Or.inl (zgt_in (zt2 (List.mem_of_getElem? (i := 71) rfl)) rfl), niRJ2, kcJ2_indexOfCharUnsafe_4cfef, ⟨by decide, by decide, by decide +kernel⟩, by decide⟩, ktJ2_indexOfCharUnsafe_4cfef⟩
set_option maxRecDepth 100000 in
theorem lmX6_254 : Cond.methodLink RX6 254 Lib.Math.max.name ∈ zgt ∧ Cond.static Lib.Math.max.name ∈ zgt ∧ Cond.initialized "java/lang/Math" ∈ zgt ∧ Cond.code Lib.Math.max.name Lib.Math.max.code 2 (some .int) ∈ zgt := ⟨zgt_in (zt4 (List.mem_of_getElem? (i := 44) rfl)) rfl, zgt_in (zt2 (List.mem_of_getElem? (i := 40) rfl)) rfl, niRJ9, zgt_in (zt2 (List.mem_of_getElem? (i := 41) rfl)) rfl⟩
set_option maxRecDepth 100000 in
theorem lmX0_88 : Cond.methodLink RX0 88 Lib.Math.min.name ∈ zgt ∧ Cond.static Lib.Math.min.name ∈ zgt ∧ Cond.initialized "java/lang/Math" ∈ zgt ∧ Cond.code Lib.Math.min.name Lib.Math.min.code 2 (some .int) ∈ zgt := ⟨zgt_in (zt2 (List.mem_of_getElem? (i := 197) rfl)) rfl, zgt_in (zt2 (List.mem_of_getElem? (i := 43) rfl)) rfl, niRJ9, zgt_in (zt2 (List.mem_of_getElem? (i := 44) rfl)) rfl⟩
set_option maxRecDepth 100000 in
theorem lmX3_43 : Cond.methodLink RX3 43 Lib.Math.abs.name ∈ zgt ∧ Cond.static Lib.Math.abs.name ∈ zgt ∧ Cond.initialized "java/lang/Math" ∈ zgt ∧ Cond.code Lib.Math.abs.name Lib.Math.abs.code 1 (some .int) ∈ zgt := ⟨zgt_in (zt3 (List.mem_of_getElem? (i := 212) rfl)) rfl, zgt_in (zt3 (List.mem_of_getElem? (i := 213) rfl)) rfl, niRJ9, zgt_in (zt3 (List.mem_of_getElem? (i := 214) rfl)) rfl⟩
set_option maxRecDepth 100000 in
theorem lmX3_58 : Cond.methodLink RX3 58 Lib.Math.max.name ∈ zgt ∧ Cond.static Lib.Math.max.name ∈ zgt ∧ Cond.initialized "java/lang/Math" ∈ zgt ∧ Cond.code Lib.Math.max.name Lib.Math.max.code 2 (some .int) ∈ zgt := ⟨zgt_in (zt3 (List.mem_of_getElem? (i := 225) rfl)) rfl, zgt_in (zt2 (List.mem_of_getElem? (i := 40) rfl)) rfl, niRJ9, zgt_in (zt2 (List.mem_of_getElem? (i := 41) rfl)) rfl⟩
set_option maxRecDepth 100000 in
theorem lmX4_42 : Cond.methodLink RX4 42 Lib.Math.max.name ∈ zgt ∧ Cond.static Lib.Math.max.name ∈ zgt ∧ Cond.initialized "java/lang/Math" ∈ zgt ∧ Cond.code Lib.Math.max.name Lib.Math.max.code 2 (some .int) ∈ zgt := ⟨zgt_in (zt3 (List.mem_of_getElem? (i := 195) rfl)) rfl, zgt_in (zt2 (List.mem_of_getElem? (i := 40) rfl)) rfl, niRJ9, zgt_in (zt2 (List.mem_of_getElem? (i := 41) rfl)) rfl⟩
set_option maxRecDepth 100000 in
theorem lmX5_41 : Cond.methodLink RX5 41 Lib.Math.max.name ∈ zgt ∧ Cond.static Lib.Math.max.name ∈ zgt ∧ Cond.initialized "java/lang/Math" ∈ zgt ∧ Cond.code Lib.Math.max.name Lib.Math.max.code 2 (some .int) ∈ zgt := ⟨zgt_in (zt3 (List.mem_of_getElem? (i := 114) rfl)) rfl, zgt_in (zt2 (List.mem_of_getElem? (i := 40) rfl)) rfl, niRJ9, zgt_in (zt2 (List.mem_of_getElem? (i := 41) rfl)) rfl⟩
set_option maxRecDepth 100000 in
theorem uaX0_0 : u_lay RX0 TX0 0 ∈ zgt := zgt_in (zt1 (List.mem_of_getElem? (i := 51) rfl)) rfl
set_option maxRecDepth 100000 in
theorem uaX0_1 : u_lay RX0 TX0 1 ∈ zgt := zgt_in (zt1 (List.mem_of_getElem? (i := 53) rfl)) rfl
set_option maxRecDepth 100000 in
theorem uaX0_2 : u_lay RX0 TX0 2 ∈ zgt := zgt_in (zt1 (List.mem_of_getElem? (i := 55) rfl)) rfl
set_option maxRecDepth 100000 in
theorem uaX0_3 : u_lay RX0 TX0 3 ∈ zgt := zgt_in (zt1 (List.mem_of_getElem? (i := 57) rfl)) rfl
set_option maxRecDepth 100000 in
theorem uaX0_4 : u_lay RX0 TX0 4 ∈ zgt := zgt_in (zt1 (List.mem_of_getElem? (i := 59) rfl)) rfl
set_option maxRecDepth 100000 in
theorem uaX0_5 : u_lay RX0 TX0 5 ∈ zgt := zgt_in (zt1 (List.mem_of_getElem? (i := 61) rfl)) rfl
set_option maxRecDepth 100000 in
theorem uaX0_6 : u_lay RX0 TX0 6 ∈ zgt := zgt_in (zt1 (List.mem_of_getElem? (i := 63) rfl)) rfl
theorem uaX0 : ∀ k, k < 7 → u_lay RX0 TX0 k ∈ zgt := by
  intro k hk
  rcases (show k = 0 ∨ k = 1 ∨ k = 2 ∨ k = 3 ∨ k = 4 ∨ k = 5 ∨ k = 6 by omega) with rfl | rfl | rfl | rfl | rfl | rfl | rfl
  · exact uaX0_0
  · exact uaX0_1
  · exact uaX0_2
  · exact uaX0_3
  · exact uaX0_4
  · exact uaX0_5
  · exact uaX0_6
theorem uwX0 : ∀ w ∈ u_ws RX0 TX0 7, w ∈ zgt := fun w hw => by
  obtain ⟨k, hk, rfl⟩ := List.mem_map.mp hw
  exact uaX0 k (List.mem_range.mp hk)
theorem pfX0_5 : zfp 0 5 .int := ⟨RX0, TX0, 7, tyX0, rfl, tyX0_ok, nmX0, rfl, by decide +kernel⟩
theorem pfX0_6 : zfp 0 6 .int := ⟨RX0, TX0, 7, tyX0, rfl, tyX0_ok, nmX0, rfl, by decide +kernel⟩
set_option maxRecDepth 100000 in
theorem uaX1_0 : u_lay RX1 TX1 0 ∈ zgt := zgt_in (zt1 (List.mem_of_getElem? (i := 76) rfl)) rfl
set_option maxRecDepth 100000 in
theorem uaX1_1 : u_lay RX1 TX1 1 ∈ zgt := zgt_in (zt1 (List.mem_of_getElem? (i := 78) rfl)) rfl
theorem uaX1 : ∀ k, k < 2 → u_lay RX1 TX1 k ∈ zgt := by
  intro k hk
  rcases (show k = 0 ∨ k = 1 by omega) with rfl | rfl
  · exact uaX1_0
  · exact uaX1_1
theorem uwX1 : ∀ w ∈ u_ws RX1 TX1 2, w ∈ zgt := fun w hw => by
  obtain ⟨k, hk, rfl⟩ := List.mem_map.mp hw
  exact uaX1 k (List.mem_range.mp hk)
theorem pfX1_1 : zfp 1 1 .int := ⟨RX1, TX1, 2, tyX1, rfl, tyX1_ok, nmX1, rfl, by decide +kernel⟩
set_option maxRecDepth 100000 in
theorem uaX2_0 : u_lay RX2 TX2 0 ∈ zgt := zgt_in (zt1 (List.mem_of_getElem? (i := 144) rfl)) rfl
set_option maxRecDepth 100000 in
theorem uaX2_1 : u_lay RX2 TX2 1 ∈ zgt := zgt_in (zt1 (List.mem_of_getElem? (i := 146) rfl)) rfl
set_option maxRecDepth 100000 in
theorem uaX2_2 : u_lay RX2 TX2 2 ∈ zgt := zgt_in (zt1 (List.mem_of_getElem? (i := 148) rfl)) rfl
set_option maxRecDepth 100000 in
theorem uaX2_3 : u_lay RX2 TX2 3 ∈ zgt := zgt_in (zt1 (List.mem_of_getElem? (i := 150) rfl)) rfl
set_option maxRecDepth 100000 in
theorem uaX2_4 : u_lay RX2 TX2 4 ∈ zgt := zgt_in (zt1 (List.mem_of_getElem? (i := 152) rfl)) rfl
set_option maxRecDepth 100000 in
theorem uaX2_5 : u_lay RX2 TX2 5 ∈ zgt := zgt_in (zt1 (List.mem_of_getElem? (i := 154) rfl)) rfl
theorem uaX2 : ∀ k, k < 6 → u_lay RX2 TX2 k ∈ zgt := by
  intro k hk
  rcases (show k = 0 ∨ k = 1 ∨ k = 2 ∨ k = 3 ∨ k = 4 ∨ k = 5 by omega) with rfl | rfl | rfl | rfl | rfl | rfl
  · exact uaX2_0
  · exact uaX2_1
  · exact uaX2_2
  · exact uaX2_3
  · exact uaX2_4
  · exact uaX2_5
theorem uwX2 : ∀ w ∈ u_ws RX2 TX2 6, w ∈ zgt := fun w hw => by
  obtain ⟨k, hk, rfl⟩ := List.mem_map.mp hw
  exact uaX2 k (List.mem_range.mp hk)
theorem pfX2_1 : zfp 2 1 .int := ⟨RX2, TX2, 6, tyX2, rfl, tyX2_ok, nmX2, rfl, by decide +kernel⟩
theorem pfX2_2 : zfp 2 2 .int := ⟨RX2, TX2, 6, tyX2, rfl, tyX2_ok, nmX2, rfl, by decide +kernel⟩
theorem pfX2_3 : zfp 2 3 .int := ⟨RX2, TX2, 6, tyX2, rfl, tyX2_ok, nmX2, rfl, by decide +kernel⟩
theorem pfX2_4 : zfp 2 4 .int := ⟨RX2, TX2, 6, tyX2, rfl, tyX2_ok, nmX2, rfl, by decide +kernel⟩
theorem pfX2_5 : zfp 2 5 .int := ⟨RX2, TX2, 6, tyX2, rfl, tyX2_ok, nmX2, rfl, by decide +kernel⟩
set_option maxRecDepth 100000 in
theorem uaX3_0 : u_lay RX3 TX3 0 ∈ zgt := zgt_in (zt1 (List.mem_of_getElem? (i := 120) rfl)) rfl
set_option maxRecDepth 100000 in
theorem uaX3_1 : u_lay RX3 TX3 1 ∈ zgt := zgt_in (zt1 (List.mem_of_getElem? (i := 122) rfl)) rfl
set_option maxRecDepth 100000 in
theorem uaX3_2 : u_lay RX3 TX3 2 ∈ zgt := zgt_in (zt1 (List.mem_of_getElem? (i := 124) rfl)) rfl
set_option maxRecDepth 100000 in
theorem uaX3_3 : u_lay RX3 TX3 3 ∈ zgt := zgt_in (zt1 (List.mem_of_getElem? (i := 126) rfl)) rfl
theorem uaX3 : ∀ k, k < 4 → u_lay RX3 TX3 k ∈ zgt := by
  intro k hk
  rcases (show k = 0 ∨ k = 1 ∨ k = 2 ∨ k = 3 by omega) with rfl | rfl | rfl | rfl
  · exact uaX3_0
  · exact uaX3_1
  · exact uaX3_2
  · exact uaX3_3
theorem uwX3 : ∀ w ∈ u_ws RX3 TX3 4, w ∈ zgt := fun w hw => by
  obtain ⟨k, hk, rfl⟩ := List.mem_map.mp hw
  exact uaX3 k (List.mem_range.mp hk)
theorem pfX3_3 : zfp 3 3 .int := ⟨RX3, TX3, 4, tyX3, rfl, tyX3_ok, nmX3, rfl, by decide +kernel⟩
set_option maxRecDepth 100000 in
theorem uaX4_0 : u_lay RX4 TX4 0 ∈ zgt := zgt_in (zt1 (List.mem_of_getElem? (i := 103) rfl)) rfl
set_option maxRecDepth 100000 in
theorem uaX4_1 : u_lay RX4 TX4 1 ∈ zgt := zgt_in (zt1 (List.mem_of_getElem? (i := 105) rfl)) rfl
set_option maxRecDepth 100000 in
theorem uaX4_2 : u_lay RX4 TX4 2 ∈ zgt := zgt_in (zt1 (List.mem_of_getElem? (i := 107) rfl)) rfl
theorem uaX4 : ∀ k, k < 3 → u_lay RX4 TX4 k ∈ zgt := by
  intro k hk
  rcases (show k = 0 ∨ k = 1 ∨ k = 2 by omega) with rfl | rfl | rfl
  · exact uaX4_0
  · exact uaX4_1
  · exact uaX4_2
theorem uwX4 : ∀ w ∈ u_ws RX4 TX4 3, w ∈ zgt := fun w hw => by
  obtain ⟨k, hk, rfl⟩ := List.mem_map.mp hw
  exact uaX4 k (List.mem_range.mp hk)
theorem pfX4_2 : zfp 4 2 .int := ⟨RX4, TX4, 3, tyX4, rfl, tyX4_ok, nmX4, rfl, by decide +kernel⟩
set_option maxRecDepth 100000 in
theorem uaX5_0 : u_lay RX5 TX5 0 ∈ zgt := zgt_in (zt1 (List.mem_of_getElem? (i := 89) rfl)) rfl
set_option maxRecDepth 100000 in
theorem uaX5_1 : u_lay RX5 TX5 1 ∈ zgt := zgt_in (zt1 (List.mem_of_getElem? (i := 91) rfl)) rfl
theorem uaX5 : ∀ k, k < 2 → u_lay RX5 TX5 k ∈ zgt := by
  intro k hk
  rcases (show k = 0 ∨ k = 1 by omega) with rfl | rfl
  · exact uaX5_0
  · exact uaX5_1
theorem uwX5 : ∀ w ∈ u_ws RX5 TX5 2, w ∈ zgt := fun w hw => by
  obtain ⟨k, hk, rfl⟩ := List.mem_map.mp hw
  exact uaX5 k (List.mem_range.mp hk)
theorem pfX5_1 : zfp 5 1 .int := ⟨RX5, TX5, 2, tyX5, rfl, tyX5_ok, nmX5, rfl, by decide +kernel⟩
set_option maxRecDepth 100000 in
theorem uaX6_0 : u_lay RX6 TX6 0 ∈ zgt := zgt_in (zt1 (List.mem_of_getElem? (i := 172) rfl)) rfl
set_option maxRecDepth 100000 in
theorem uaX6_1 : u_lay RX6 TX6 1 ∈ zgt := zgt_in (zt1 (List.mem_of_getElem? (i := 174) rfl)) rfl
set_option maxRecDepth 100000 in
theorem uaX6_2 : u_lay RX6 TX6 2 ∈ zgt := zgt_in (zt1 (List.mem_of_getElem? (i := 176) rfl)) rfl
set_option maxRecDepth 100000 in
theorem uaX6_3 : u_lay RX6 TX6 3 ∈ zgt := zgt_in (zt1 (List.mem_of_getElem? (i := 178) rfl)) rfl
set_option maxRecDepth 100000 in
theorem uaX6_4 : u_lay RX6 TX6 4 ∈ zgt := zgt_in (zt1 (List.mem_of_getElem? (i := 180) rfl)) rfl
set_option maxRecDepth 100000 in
theorem uaX6_5 : u_lay RX6 TX6 5 ∈ zgt := zgt_in (zt1 (List.mem_of_getElem? (i := 182) rfl)) rfl
set_option maxRecDepth 100000 in
theorem uaX6_6 : u_lay RX6 TX6 6 ∈ zgt := zgt_in (zt1 (List.mem_of_getElem? (i := 184) rfl)) rfl
set_option maxRecDepth 100000 in
theorem uaX6_7 : u_lay RX6 TX6 7 ∈ zgt := zgt_in (zt1 (List.mem_of_getElem? (i := 186) rfl)) rfl
set_option maxRecDepth 100000 in
theorem uaX6_8 : u_lay RX6 TX6 8 ∈ zgt := zgt_in (zt1 (List.mem_of_getElem? (i := 188) rfl)) rfl
set_option maxRecDepth 100000 in
theorem uaX6_9 : u_lay RX6 TX6 9 ∈ zgt := zgt_in (zt1 (List.mem_of_getElem? (i := 190) rfl)) rfl
set_option maxRecDepth 100000 in
theorem uaX6_10 : u_lay RX6 TX6 10 ∈ zgt := zgt_in (zt1 (List.mem_of_getElem? (i := 192) rfl)) rfl
set_option maxRecDepth 100000 in
theorem uaX6_11 : u_lay RX6 TX6 11 ∈ zgt := zgt_in (zt1 (List.mem_of_getElem? (i := 194) rfl)) rfl
set_option maxRecDepth 100000 in
theorem uaX6_12 : u_lay RX6 TX6 12 ∈ zgt := zgt_in (zt1 (List.mem_of_getElem? (i := 196) rfl)) rfl
set_option maxRecDepth 100000 in
theorem uaX6_13 : u_lay RX6 TX6 13 ∈ zgt := zgt_in (zt1 (List.mem_of_getElem? (i := 198) rfl)) rfl
set_option maxRecDepth 100000 in
theorem uaX6_14 : u_lay RX6 TX6 14 ∈ zgt := zgt_in (zt1 (List.mem_of_getElem? (i := 200) rfl)) rfl
theorem uaX6 : ∀ k, k < 15 → u_lay RX6 TX6 k ∈ zgt := by
  intro k hk
  rcases (show k = 0 ∨ k = 1 ∨ k = 2 ∨ k = 3 ∨ k = 4 ∨ k = 5 ∨ k = 6 ∨ k = 7 ∨ k = 8 ∨ k = 9 ∨ k = 10 ∨ k = 11 ∨ k = 12 ∨ k = 13 ∨ k = 14 by omega) with rfl | rfl | rfl | rfl | rfl | rfl | rfl | rfl | rfl | rfl | rfl | rfl | rfl | rfl | rfl
  · exact uaX6_0
  · exact uaX6_1
  · exact uaX6_2
  · exact uaX6_3
  · exact uaX6_4
  · exact uaX6_5
  · exact uaX6_6
  · exact uaX6_7
  · exact uaX6_8
  · exact uaX6_9
  · exact uaX6_10
  · exact uaX6_11
  · exact uaX6_12
  · exact uaX6_13
  · exact uaX6_14
theorem uwX6 : ∀ w ∈ u_ws RX6 TX6 15, w ∈ zgt := fun w hw => by
  obtain ⟨k, hk, rfl⟩ := List.mem_map.mp hw
  exact uaX6 k (List.mem_range.mp hk)
theorem pfX6_4 : zfp 6 4 .boolean := ⟨RX6, TX6, 15, tyX6, rfl, tyX6_ok, nmX6, rfl, by decide +kernel⟩
theorem pfX6_7 : zfp 6 7 .int := ⟨RX6, TX6, 15, tyX6, rfl, tyX6_ok, nmX6, rfl, by decide +kernel⟩
set_option maxRecDepth 100000 in
theorem uaX7_0 : u_lay RX7 TX7 0 ∈ zgt := zgt_in (zt4 (List.mem_of_getElem? (i := 134) rfl)) rfl
set_option maxRecDepth 100000 in
theorem uaX7_1 : u_lay RX7 TX7 1 ∈ zgt := zgt_in (zt4 (List.mem_of_getElem? (i := 136) rfl)) rfl
set_option maxRecDepth 100000 in
theorem uaX7_2 : u_lay RX7 TX7 2 ∈ zgt := zgt_in (zt4 (List.mem_of_getElem? (i := 138) rfl)) rfl
set_option maxRecDepth 100000 in
theorem uaX7_3 : u_lay RX7 TX7 3 ∈ zgt := zgt_in (zt4 (List.mem_of_getElem? (i := 140) rfl)) rfl
set_option maxRecDepth 100000 in
theorem uaX7_4 : u_lay RX7 TX7 4 ∈ zgt := zgt_in (zt4 (List.mem_of_getElem? (i := 142) rfl)) rfl
set_option maxRecDepth 100000 in
theorem uaX7_5 : u_lay RX7 TX7 5 ∈ zgt := zgt_in (zt4 (List.mem_of_getElem? (i := 144) rfl)) rfl
set_option maxRecDepth 100000 in
theorem uaX7_6 : u_lay RX7 TX7 6 ∈ zgt := zgt_in (zt4 (List.mem_of_getElem? (i := 146) rfl)) rfl
set_option maxRecDepth 100000 in
theorem uaX7_7 : u_lay RX7 TX7 7 ∈ zgt := zgt_in (zt4 (List.mem_of_getElem? (i := 148) rfl)) rfl
set_option maxRecDepth 100000 in
theorem uaX7_8 : u_lay RX7 TX7 8 ∈ zgt := zgt_in (zt4 (List.mem_of_getElem? (i := 150) rfl)) rfl
set_option maxRecDepth 100000 in
theorem uaX7_9 : u_lay RX7 TX7 9 ∈ zgt := zgt_in (zt4 (List.mem_of_getElem? (i := 152) rfl)) rfl
set_option maxRecDepth 100000 in
theorem uaX7_10 : u_lay RX7 TX7 10 ∈ zgt := zgt_in (zt4 (List.mem_of_getElem? (i := 154) rfl)) rfl
set_option maxRecDepth 100000 in
theorem uaX7_11 : u_lay RX7 TX7 11 ∈ zgt := zgt_in (zt4 (List.mem_of_getElem? (i := 156) rfl)) rfl
set_option maxRecDepth 100000 in
theorem uaX7_12 : u_lay RX7 TX7 12 ∈ zgt := zgt_in (zt4 (List.mem_of_getElem? (i := 158) rfl)) rfl
set_option maxRecDepth 100000 in
theorem uaX7_13 : u_lay RX7 TX7 13 ∈ zgt := zgt_in (zt4 (List.mem_of_getElem? (i := 160) rfl)) rfl
set_option maxRecDepth 100000 in
theorem uaX7_14 : u_lay RX7 TX7 14 ∈ zgt := zgt_in (zt4 (List.mem_of_getElem? (i := 162) rfl)) rfl
set_option maxRecDepth 100000 in
theorem uaX7_15 : u_lay RX7 TX7 15 ∈ zgt := zgt_in (zt4 (List.mem_of_getElem? (i := 164) rfl)) rfl
set_option maxRecDepth 100000 in
theorem uaX7_16 : u_lay RX7 TX7 16 ∈ zgt := zgt_in (zt4 (List.mem_of_getElem? (i := 166) rfl)) rfl
set_option maxRecDepth 100000 in
theorem uaX7_17 : u_lay RX7 TX7 17 ∈ zgt := zgt_in (zt4 (List.mem_of_getElem? (i := 168) rfl)) rfl
set_option maxRecDepth 100000 in
theorem uaX7_18 : u_lay RX7 TX7 18 ∈ zgt := zgt_in (zt4 (List.mem_of_getElem? (i := 170) rfl)) rfl
set_option maxRecDepth 100000 in
theorem uaX7_19 : u_lay RX7 TX7 19 ∈ zgt := zgt_in (zt4 (List.mem_of_getElem? (i := 172) rfl)) rfl
set_option maxRecDepth 100000 in
theorem uaX7_20 : u_lay RX7 TX7 20 ∈ zgt := zgt_in (zt4 (List.mem_of_getElem? (i := 174) rfl)) rfl
set_option maxRecDepth 100000 in
theorem uaX7_21 : u_lay RX7 TX7 21 ∈ zgt := zgt_in (zt4 (List.mem_of_getElem? (i := 176) rfl)) rfl
set_option maxRecDepth 100000 in
theorem uaX7_22 : u_lay RX7 TX7 22 ∈ zgt := zgt_in (zt4 (List.mem_of_getElem? (i := 178) rfl)) rfl
set_option maxRecDepth 100000 in
theorem uaX7_23 : u_lay RX7 TX7 23 ∈ zgt := zgt_in (zt4 (List.mem_of_getElem? (i := 180) rfl)) rfl
set_option maxRecDepth 100000 in
theorem uaX7_24 : u_lay RX7 TX7 24 ∈ zgt := zgt_in (zt4 (List.mem_of_getElem? (i := 182) rfl)) rfl
set_option maxRecDepth 100000 in
theorem uaX7_25 : u_lay RX7 TX7 25 ∈ zgt := zgt_in (zt4 (List.mem_of_getElem? (i := 184) rfl)) rfl
set_option maxRecDepth 100000 in
theorem uaX7_26 : u_lay RX7 TX7 26 ∈ zgt := zgt_in (zt4 (List.mem_of_getElem? (i := 186) rfl)) rfl
set_option maxRecDepth 100000 in
theorem uaX7_27 : u_lay RX7 TX7 27 ∈ zgt := zgt_in (zt4 (List.mem_of_getElem? (i := 188) rfl)) rfl
theorem uaX7 : ∀ k, k < 28 → u_lay RX7 TX7 k ∈ zgt := by
  intro k hk
  rcases (show k = 0 ∨ k = 1 ∨ k = 2 ∨ k = 3 ∨ k = 4 ∨ k = 5 ∨ k = 6 ∨ k = 7 ∨ k = 8 ∨ k = 9 ∨ k = 10 ∨ k = 11 ∨ k = 12 ∨ k = 13 ∨ k = 14 ∨ k = 15 ∨ k = 16 ∨ k = 17 ∨ k = 18 ∨ k = 19 ∨ k = 20 ∨ k = 21 ∨ k = 22 ∨ k = 23 ∨ k = 24 ∨ k = 25 ∨ k = 26 ∨ k = 27 by omega) with rfl | rfl | rfl | rfl | rfl | rfl | rfl | rfl | rfl | rfl | rfl | rfl | rfl | rfl | rfl | rfl | rfl | rfl | rfl | rfl | rfl | rfl | rfl | rfl | rfl | rfl | rfl | rfl
  · exact uaX7_0
  · exact uaX7_1
  · exact uaX7_2
  · exact uaX7_3
  · exact uaX7_4
  · exact uaX7_5
  · exact uaX7_6
  · exact uaX7_7
  · exact uaX7_8
  · exact uaX7_9
  · exact uaX7_10
  · exact uaX7_11
  · exact uaX7_12
  · exact uaX7_13
  · exact uaX7_14
  · exact uaX7_15
  · exact uaX7_16
  · exact uaX7_17
  · exact uaX7_18
  · exact uaX7_19
  · exact uaX7_20
  · exact uaX7_21
  · exact uaX7_22
  · exact uaX7_23
  · exact uaX7_24
  · exact uaX7_25
  · exact uaX7_26
  · exact uaX7_27
theorem uwX7 : ∀ w ∈ u_ws RX7 TX7 28, w ∈ zgt := fun w hw => by
  obtain ⟨k, hk, rfl⟩ := List.mem_map.mp hw
  exact uaX7 k (List.mem_range.mp hk)
theorem pfX7_6 : zfp 7 6 .int := ⟨RX7, TX7, 28, tyX7, rfl, tyX7_ok, nmX7, rfl, by decide +kernel⟩
theorem pfX7_7 : zfp 7 7 .int := ⟨RX7, TX7, 28, tyX7, rfl, tyX7_ok, nmX7, rfl, by decide +kernel⟩
theorem pfX7_8 : zfp 7 8 .int := ⟨RX7, TX7, 28, tyX7, rfl, tyX7_ok, nmX7, rfl, by decide +kernel⟩
theorem pfX7_13 : zfp 7 13 .int := ⟨RX7, TX7, 28, tyX7, rfl, tyX7_ok, nmX7, rfl, by decide +kernel⟩
theorem pfX7_14 : zfp 7 14 .int := ⟨RX7, TX7, 28, tyX7, rfl, tyX7_ok, nmX7, rfl, by decide +kernel⟩
theorem pfX7_15 : zfp 7 15 .int := ⟨RX7, TX7, 28, tyX7, rfl, tyX7_ok, nmX7, rfl, by decide +kernel⟩
theorem pfX7_17 : zfp 7 17 .boolean := ⟨RX7, TX7, 28, tyX7, rfl, tyX7_ok, nmX7, rfl, by decide +kernel⟩
theorem pfX7_18 : zfp 7 18 .boolean := ⟨RX7, TX7, 28, tyX7, rfl, tyX7_ok, nmX7, rfl, by decide +kernel⟩
theorem pfX7_19 : zfp 7 19 .int := ⟨RX7, TX7, 28, tyX7, rfl, tyX7_ok, nmX7, rfl, by decide +kernel⟩
theorem pfX7_26 : zfp 7 26 .int := ⟨RX7, TX7, 28, tyX7, rfl, tyX7_ok, nmX7, rfl, by decide +kernel⟩
theorem pfX7_27 : zfp 7 27 .int := ⟨RX7, TX7, 28, tyX7, rfl, tyX7_ok, nmX7, rfl, by decide +kernel⟩
set_option maxRecDepth 100000 in
theorem flX6_10 : zfl RX6 10 6 0 := ⟨RX6, TX6, 15, rfl, by decide, uwX6, Or.inl (zgt_in (zt1 (List.mem_of_getElem? (i := 157) rfl)) rfl)⟩
set_option maxRecDepth 100000 in
theorem flX6_16 : zfl RX6 16 6 1 := ⟨RX6, TX6, 15, rfl, by decide, uwX6, Or.inl (zgt_in (zt1 (List.mem_of_getElem? (i := 158) rfl)) rfl)⟩
set_option maxRecDepth 100000 in
theorem flX6_19 : zfl RX6 19 6 2 := ⟨RX6, TX6, 15, rfl, by decide, uwX6, Or.inl (zgt_in (zt1 (List.mem_of_getElem? (i := 159) rfl)) rfl)⟩
set_option maxRecDepth 100000 in
theorem flX6_22 : zfl RX6 22 6 3 := ⟨RX6, TX6, 15, rfl, by decide, uwX6, Or.inl (zgt_in (zt1 (List.mem_of_getElem? (i := 160) rfl)) rfl)⟩
set_option maxRecDepth 100000 in
theorem flX6_28 : zfl RX6 28 6 5 := ⟨RX6, TX6, 15, rfl, by decide, uwX6, Or.inl (zgt_in (zt1 (List.mem_of_getElem? (i := 162) rfl)) rfl)⟩
set_option maxRecDepth 100000 in
theorem flX6_32 : zfl RX6 32 6 6 := ⟨RX6, TX6, 15, rfl, by decide, uwX6, Or.inl (zgt_in (zt1 (List.mem_of_getElem? (i := 163) rfl)) rfl)⟩
set_option maxRecDepth 100000 in
theorem flX6_36 : zfl RX6 36 6 8 := ⟨RX6, TX6, 15, rfl, by decide, uwX6, Or.inl (zgt_in (zt1 (List.mem_of_getElem? (i := 165) rfl)) rfl)⟩
set_option maxRecDepth 100000 in
theorem flX6_42 : zfl RX6 42 6 9 := ⟨RX6, TX6, 15, rfl, by decide, uwX6, Or.inl (zgt_in (zt1 (List.mem_of_getElem? (i := 166) rfl)) rfl)⟩
set_option maxRecDepth 100000 in
theorem flX6_49 : zfl RX6 49 6 10 := ⟨RX6, TX6, 15, rfl, by decide, uwX6, Or.inl (zgt_in (zt1 (List.mem_of_getElem? (i := 167) rfl)) rfl)⟩
set_option maxRecDepth 100000 in
theorem flX6_56 : zfl RX6 56 6 11 := ⟨RX6, TX6, 15, rfl, by decide, uwX6, Or.inl (zgt_in (zt1 (List.mem_of_getElem? (i := 168) rfl)) rfl)⟩
set_option maxRecDepth 100000 in
theorem flX6_63 : zfl RX6 63 6 12 := ⟨RX6, TX6, 15, rfl, by decide, uwX6, Or.inl (zgt_in (zt1 (List.mem_of_getElem? (i := 169) rfl)) rfl)⟩
set_option maxRecDepth 100000 in
theorem flX6_67 : zfl RX6 67 6 13 := ⟨RX6, TX6, 15, rfl, by decide, uwX6, Or.inl (zgt_in (zt1 (List.mem_of_getElem? (i := 170) rfl)) rfl)⟩
set_option maxRecDepth 100000 in
theorem flX6_70 : zfl RX6 70 6 14 := ⟨RX6, TX6, 15, rfl, by decide, uwX6, Or.inl (zgt_in (zt1 (List.mem_of_getElem? (i := 171) rfl)) rfl)⟩
set_option maxRecDepth 100000 in
theorem flX6_92 : zfl RX6 92 1 1 := ⟨RX1, TX1, 2, rfl, by decide, uwX1, Or.inr ⟨"CousinsByAgreement", zNW_in (zt1 (List.mem_of_getElem? (i := 75) rfl)) rfl⟩⟩
set_option maxRecDepth 100000 in
theorem flX6_118 : zfl RX6 118 0 0 := ⟨RX0, TX0, 7, rfl, by decide, uwX0, Or.inr ⟨"CousinsByAgreement", zNW_in (zt1 (List.mem_of_getElem? (i := 33) rfl)) rfl⟩⟩
set_option maxRecDepth 100000 in
theorem flX6_121 : zfl RX6 121 0 1 := ⟨RX0, TX0, 7, rfl, by decide, uwX0, Or.inr ⟨"CousinsByAgreement", zNW_in (zt1 (List.mem_of_getElem? (i := 35) rfl)) rfl⟩⟩
set_option maxRecDepth 100000 in
theorem flX6_124 : zfl RX6 124 0 2 := ⟨RX0, TX0, 7, rfl, by decide, uwX0, Or.inr ⟨"CousinsByAgreement", zNW_in (zt1 (List.mem_of_getElem? (i := 39) rfl)) rfl⟩⟩
set_option maxRecDepth 100000 in
theorem flX6_135 : zfl RX6 135 0 3 := ⟨RX0, TX0, 7, rfl, by decide, uwX0, Or.inr ⟨"CousinsByAgreement", zNW_in (zt1 (List.mem_of_getElem? (i := 41) rfl)) rfl⟩⟩
set_option maxRecDepth 100000 in
theorem flX6_186 : zfl RX6 186 0 5 := ⟨RX0, TX0, 7, rfl, by decide, uwX0, Or.inr ⟨"CousinsByAgreement", zNW_in (zt1 (List.mem_of_getElem? (i := 48) rfl)) rfl⟩⟩
set_option maxRecDepth 100000 in
theorem flX6_266 : zfl RX6 266 6 7 := ⟨RX6, TX6, 15, rfl, by decide, uwX6, Or.inl (zgt_in (zt1 (List.mem_of_getElem? (i := 164) rfl)) rfl)⟩
set_option maxRecDepth 100000 in
theorem flX6_275 : zfl RX6 275 6 4 := ⟨RX6, TX6, 15, rfl, by decide, uwX6, Or.inl (zgt_in (zt1 (List.mem_of_getElem? (i := 161) rfl)) rfl)⟩
set_option maxRecDepth 100000 in
theorem flX6_279 : zfl RX6 279 0 6 := ⟨RX0, TX0, 7, rfl, by decide, uwX0, Or.inr ⟨"CousinsByAgreement", zNW_in (zt1 (List.mem_of_getElem? (i := 50) rfl)) rfl⟩⟩
set_option maxRecDepth 100000 in
theorem flX0_9 : zfl RX0 9 0 0 := ⟨RX0, TX0, 7, rfl, by decide, uwX0, Or.inl (zgt_in (zt1 (List.mem_of_getElem? (i := 32) rfl)) rfl)⟩
set_option maxRecDepth 100000 in
theorem flX0_15 : zfl RX0 15 0 1 := ⟨RX0, TX0, 7, rfl, by decide, uwX0, Or.inl (zgt_in (zt1 (List.mem_of_getElem? (i := 34) rfl)) rfl)⟩
set_option maxRecDepth 100000 in
theorem flX0_18 : zfl RX0 18 0 2 := ⟨RX0, TX0, 7, rfl, by decide, uwX0, Or.inl (zgt_in (zt1 (List.mem_of_getElem? (i := 36) rfl)) rfl)⟩
set_option maxRecDepth 100000 in
theorem flX0_21 : zfl RX0 21 0 3 := ⟨RX0, TX0, 7, rfl, by decide, uwX0, Or.inl (zgt_in (zt1 (List.mem_of_getElem? (i := 40) rfl)) rfl)⟩
set_option maxRecDepth 100000 in
theorem flX0_24 : zfl RX0 24 0 4 := ⟨RX0, TX0, 7, rfl, by decide, uwX0, Or.inl (zgt_in (zt1 (List.mem_of_getElem? (i := 42) rfl)) rfl)⟩
set_option maxRecDepth 100000 in
theorem flX0_33 : zfl RX0 33 0 5 := ⟨RX0, TX0, 7, rfl, by decide, uwX0, Or.inl (zgt_in (zt1 (List.mem_of_getElem? (i := 47) rfl)) rfl)⟩
set_option maxRecDepth 100000 in
theorem flX0_37 : zfl RX0 37 0 6 := ⟨RX0, TX0, 7, rfl, by decide, uwX0, Or.inl (zgt_in (zt1 (List.mem_of_getElem? (i := 49) rfl)) rfl)⟩
set_option maxRecDepth 100000 in
theorem flX1_9 : zfl RX1 9 1 0 := ⟨RX1, TX1, 2, rfl, by decide, uwX1, Or.inl (zgt_in (zt1 (List.mem_of_getElem? (i := 73) rfl)) rfl)⟩
set_option maxRecDepth 100000 in
theorem flX1_15 : zfl RX1 15 1 1 := ⟨RX1, TX1, 2, rfl, by decide, uwX1, Or.inl (zgt_in (zt1 (List.mem_of_getElem? (i := 74) rfl)) rfl)⟩
set_option maxRecDepth 100000 in
theorem flX2_11 : zfl RX2 11 2 0 := ⟨RX2, TX2, 6, rfl, by decide, uwX2, Or.inl (zgt_in (zt1 (List.mem_of_getElem? (i := 138) rfl)) rfl)⟩
set_option maxRecDepth 100000 in
theorem flX2_18 : zfl RX2 18 2 1 := ⟨RX2, TX2, 6, rfl, by decide, uwX2, Or.inl (zgt_in (zt1 (List.mem_of_getElem? (i := 139) rfl)) rfl)⟩
set_option maxRecDepth 100000 in
theorem flX2_22 : zfl RX2 22 2 2 := ⟨RX2, TX2, 6, rfl, by decide, uwX2, Or.inl (zgt_in (zt1 (List.mem_of_getElem? (i := 140) rfl)) rfl)⟩
set_option maxRecDepth 100000 in
theorem flX2_25 : zfl RX2 25 2 3 := ⟨RX2, TX2, 6, rfl, by decide, uwX2, Or.inl (zgt_in (zt1 (List.mem_of_getElem? (i := 141) rfl)) rfl)⟩
set_option maxRecDepth 100000 in
theorem flX2_28 : zfl RX2 28 2 4 := ⟨RX2, TX2, 6, rfl, by decide, uwX2, Or.inl (zgt_in (zt1 (List.mem_of_getElem? (i := 142) rfl)) rfl)⟩
set_option maxRecDepth 100000 in
theorem flX2_31 : zfl RX2 31 2 5 := ⟨RX2, TX2, 6, rfl, by decide, uwX2, Or.inl (zgt_in (zt1 (List.mem_of_getElem? (i := 143) rfl)) rfl)⟩
set_option maxRecDepth 100000 in
theorem flX2_46 : zfl RX2 46 0 2 := ⟨RX0, TX0, 7, rfl, by decide, uwX0, Or.inr ⟨"CousinsByAgreement", zNW_in (zt1 (List.mem_of_getElem? (i := 38) rfl)) rfl⟩⟩
set_option maxRecDepth 100000 in
theorem flX3_9 : zfl RX3 9 3 0 := ⟨RX3, TX3, 4, rfl, by decide, uwX3, Or.inl (zgt_in (zt1 (List.mem_of_getElem? (i := 116) rfl)) rfl)⟩
set_option maxRecDepth 100000 in
theorem flX3_15 : zfl RX3 15 3 1 := ⟨RX3, TX3, 4, rfl, by decide, uwX3, Or.inl (zgt_in (zt1 (List.mem_of_getElem? (i := 117) rfl)) rfl)⟩
set_option maxRecDepth 100000 in
theorem flX3_18 : zfl RX3 18 3 2 := ⟨RX3, TX3, 4, rfl, by decide, uwX3, Or.inl (zgt_in (zt1 (List.mem_of_getElem? (i := 118) rfl)) rfl)⟩
set_option maxRecDepth 100000 in
theorem flX3_21 : zfl RX3 21 0 5 := ⟨RX0, TX0, 7, rfl, by decide, uwX0, Or.inr ⟨"CousinsByAgreement", zNW_in (zt1 (List.mem_of_getElem? (i := 46) rfl)) rfl⟩⟩
set_option maxRecDepth 100000 in
theorem flX3_27 : zfl RX3 27 3 3 := ⟨RX3, TX3, 4, rfl, by decide, uwX3, Or.inl (zgt_in (zt1 (List.mem_of_getElem? (i := 119) rfl)) rfl)⟩
set_option maxRecDepth 100000 in
theorem flX3_40 : zfl RX3 40 0 2 := ⟨RX0, TX0, 7, rfl, by decide, uwX0, Or.inr ⟨"CousinsByAgreement", zNW_in (zt1 (List.mem_of_getElem? (i := 37) rfl)) rfl⟩⟩
set_option maxRecDepth 100000 in
theorem flX4_9 : zfl RX4 9 4 0 := ⟨RX4, TX4, 3, rfl, by decide, uwX4, Or.inl (zgt_in (zt1 (List.mem_of_getElem? (i := 100) rfl)) rfl)⟩
set_option maxRecDepth 100000 in
theorem flX4_15 : zfl RX4 15 4 1 := ⟨RX4, TX4, 3, rfl, by decide, uwX4, Or.inl (zgt_in (zt1 (List.mem_of_getElem? (i := 101) rfl)) rfl)⟩
set_option maxRecDepth 100000 in
theorem flX4_18 : zfl RX4 18 0 5 := ⟨RX0, TX0, 7, rfl, by decide, uwX0, Or.inr ⟨"CousinsByAgreement", zNW_in (zt1 (List.mem_of_getElem? (i := 45) rfl)) rfl⟩⟩
set_option maxRecDepth 100000 in
theorem flX4_24 : zfl RX4 24 4 2 := ⟨RX4, TX4, 3, rfl, by decide, uwX4, Or.inl (zgt_in (zt1 (List.mem_of_getElem? (i := 102) rfl)) rfl)⟩
set_option maxRecDepth 100000 in
theorem flX4_25 : zfl RX4 25 0 4 := ⟨RX0, TX0, 7, rfl, by decide, uwX0, Or.inr ⟨"CousinsByAgreement", zNW_in (zt1 (List.mem_of_getElem? (i := 43) rfl)) rfl⟩⟩
set_option maxRecDepth 100000 in
theorem flX5_9 : zfl RX5 9 5 0 := ⟨RX5, TX5, 2, rfl, by decide, uwX5, Or.inl (zgt_in (zt1 (List.mem_of_getElem? (i := 87) rfl)) rfl)⟩
set_option maxRecDepth 100000 in
theorem flX5_15 : zfl RX5 15 0 5 := ⟨RX0, TX0, 7, rfl, by decide, uwX0, Or.inr ⟨"CousinsByAgreement", zNW_in (zt1 (List.mem_of_getElem? (i := 44) rfl)) rfl⟩⟩
set_option maxRecDepth 100000 in
theorem flX5_21 : zfl RX5 21 5 1 := ⟨RX5, TX5, 2, rfl, by decide, uwX5, Or.inl (zgt_in (zt1 (List.mem_of_getElem? (i := 88) rfl)) rfl)⟩
set_option maxRecDepth 100000 in
theorem flX7_7 : zfl RX7 7 7 0 := ⟨RX7, TX7, 28, rfl, by decide, uwX7, Or.inl (zgt_in (zt4 (List.mem_of_getElem? (i := 106) rfl)) rfl)⟩
set_option maxRecDepth 100000 in
theorem flX7_13 : zfl RX7 13 7 1 := ⟨RX7, TX7, 28, rfl, by decide, uwX7, Or.inl (zgt_in (zt4 (List.mem_of_getElem? (i := 107) rfl)) rfl)⟩
set_option maxRecDepth 100000 in
theorem flX7_16 : zfl RX7 16 7 2 := ⟨RX7, TX7, 28, rfl, by decide, uwX7, Or.inl (zgt_in (zt4 (List.mem_of_getElem? (i := 108) rfl)) rfl)⟩
set_option maxRecDepth 100000 in
theorem flX7_19 : zfl RX7 19 7 3 := ⟨RX7, TX7, 28, rfl, by decide, uwX7, Or.inl (zgt_in (zt4 (List.mem_of_getElem? (i := 109) rfl)) rfl)⟩
set_option maxRecDepth 100000 in
theorem flX7_22 : zfl RX7 22 7 4 := ⟨RX7, TX7, 28, rfl, by decide, uwX7, Or.inl (zgt_in (zt4 (List.mem_of_getElem? (i := 110) rfl)) rfl)⟩
set_option maxRecDepth 100000 in
theorem flX7_25 : zfl RX7 25 7 5 := ⟨RX7, TX7, 28, rfl, by decide, uwX7, Or.inl (zgt_in (zt4 (List.mem_of_getElem? (i := 111) rfl)) rfl)⟩
set_option maxRecDepth 100000 in
theorem flX7_28 : zfl RX7 28 7 8 := ⟨RX7, TX7, 28, rfl, by decide, uwX7, Or.inl (zgt_in (zt4 (List.mem_of_getElem? (i := 114) rfl)) rfl)⟩
set_option maxRecDepth 100000 in
theorem flX7_32 : zfl RX7 32 7 9 := ⟨RX7, TX7, 28, rfl, by decide, uwX7, Or.inl (zgt_in (zt4 (List.mem_of_getElem? (i := 115) rfl)) rfl)⟩
set_option maxRecDepth 100000 in
theorem flX7_35 : zfl RX7 35 7 10 := ⟨RX7, TX7, 28, rfl, by decide, uwX7, Or.inl (zgt_in (zt4 (List.mem_of_getElem? (i := 116) rfl)) rfl)⟩
set_option maxRecDepth 100000 in
theorem flX7_38 : zfl RX7 38 7 11 := ⟨RX7, TX7, 28, rfl, by decide, uwX7, Or.inl (zgt_in (zt4 (List.mem_of_getElem? (i := 117) rfl)) rfl)⟩
set_option maxRecDepth 100000 in
theorem flX7_41 : zfl RX7 41 7 12 := ⟨RX7, TX7, 28, rfl, by decide, uwX7, Or.inl (zgt_in (zt4 (List.mem_of_getElem? (i := 118) rfl)) rfl)⟩
set_option maxRecDepth 100000 in
theorem flX7_44 : zfl RX7 44 7 16 := ⟨RX7, TX7, 28, rfl, by decide, uwX7, Or.inl (zgt_in (zt4 (List.mem_of_getElem? (i := 122) rfl)) rfl)⟩
set_option maxRecDepth 100000 in
theorem flX7_47 : zfl RX7 47 7 20 := ⟨RX7, TX7, 28, rfl, by decide, uwX7, Or.inl (zgt_in (zt4 (List.mem_of_getElem? (i := 126) rfl)) rfl)⟩
set_option maxRecDepth 100000 in
theorem flX7_50 : zfl RX7 50 7 21 := ⟨RX7, TX7, 28, rfl, by decide, uwX7, Or.inl (zgt_in (zt4 (List.mem_of_getElem? (i := 127) rfl)) rfl)⟩
set_option maxRecDepth 100000 in
theorem flX7_53 : zfl RX7 53 7 22 := ⟨RX7, TX7, 28, rfl, by decide, uwX7, Or.inl (zgt_in (zt4 (List.mem_of_getElem? (i := 128) rfl)) rfl)⟩
set_option maxRecDepth 100000 in
theorem flX7_56 : zfl RX7 56 7 23 := ⟨RX7, TX7, 28, rfl, by decide, uwX7, Or.inl (zgt_in (zt4 (List.mem_of_getElem? (i := 129) rfl)) rfl)⟩
set_option maxRecDepth 100000 in
theorem flX7_59 : zfl RX7 59 7 24 := ⟨RX7, TX7, 28, rfl, by decide, uwX7, Or.inl (zgt_in (zt4 (List.mem_of_getElem? (i := 130) rfl)) rfl)⟩
set_option maxRecDepth 100000 in
theorem flX7_62 : zfl RX7 62 7 25 := ⟨RX7, TX7, 28, rfl, by decide, uwX7, Or.inl (zgt_in (zt4 (List.mem_of_getElem? (i := 131) rfl)) rfl)⟩
set_option maxRecDepth 100000 in
theorem flX7_65 : zfl RX7 65 7 6 := ⟨RX7, TX7, 28, rfl, by decide, uwX7, Or.inl (zgt_in (zt4 (List.mem_of_getElem? (i := 112) rfl)) rfl)⟩
set_option maxRecDepth 100000 in
theorem flX7_86 : zfl RX7 86 7 13 := ⟨RX7, TX7, 28, rfl, by decide, uwX7, Or.inl (zgt_in (zt4 (List.mem_of_getElem? (i := 119) rfl)) rfl)⟩
set_option maxRecDepth 100000 in
theorem flX7_93 : zfl RX7 93 7 14 := ⟨RX7, TX7, 28, rfl, by decide, uwX7, Or.inl (zgt_in (zt4 (List.mem_of_getElem? (i := 120) rfl)) rfl)⟩
set_option maxRecDepth 100000 in
theorem flX7_113 : zfl RX7 113 7 15 := ⟨RX7, TX7, 28, rfl, by decide, uwX7, Or.inl (zgt_in (zt4 (List.mem_of_getElem? (i := 121) rfl)) rfl)⟩
set_option maxRecDepth 100000 in
theorem flX7_126 : zfl RX7 126 7 7 := ⟨RX7, TX7, 28, rfl, by decide, uwX7, Or.inl (zgt_in (zt4 (List.mem_of_getElem? (i := 113) rfl)) rfl)⟩
set_option maxRecDepth 100000 in
theorem flX7_154 : zfl RX7 154 7 18 := ⟨RX7, TX7, 28, rfl, by decide, uwX7, Or.inl (zgt_in (zt4 (List.mem_of_getElem? (i := 124) rfl)) rfl)⟩
set_option maxRecDepth 100000 in
theorem flX7_158 : zfl RX7 158 7 19 := ⟨RX7, TX7, 28, rfl, by decide, uwX7, Or.inl (zgt_in (zt4 (List.mem_of_getElem? (i := 125) rfl)) rfl)⟩
set_option maxRecDepth 100000 in
theorem flX7_168 : zfl RX7 168 7 17 := ⟨RX7, TX7, 28, rfl, by decide, uwX7, Or.inl (zgt_in (zt4 (List.mem_of_getElem? (i := 123) rfl)) rfl)⟩
set_option maxRecDepth 100000 in
theorem flX7_297 : zfl RX7 297 7 26 := ⟨RX7, TX7, 28, rfl, by decide, uwX7, Or.inl (zgt_in (zt4 (List.mem_of_getElem? (i := 132) rfl)) rfl)⟩
set_option maxRecDepth 100000 in
theorem flX7_307 : zfl RX7 307 7 27 := ⟨RX7, TX7, 28, rfl, by decide, uwX7, Or.inl (zgt_in (zt4 (List.mem_of_getElem? (i := 133) rfl)) rfl)⟩
set_option maxRecDepth 100000 in
theorem csX6_213 : Cond.constant RX6 213 (1000000000 : Int32) ∈ zgt := zgt_in (zt3 (List.mem_of_getElem? (i := 164) rfl)) rfl
set_option maxRecDepth 100000 in
theorem csX6_240 : Cond.constantLong RX6 240 (4000000000000000000 : Int64) ∈ zgt := zgt_in (zt4 (List.mem_of_getElem? (i := 19) rfl)) rfl
set_option maxRecDepth 100000 in
theorem csX6_310 : Cond.constant RX6 310 (1664525 : Int32) ∈ zgt := zgt_in (zt4 (List.mem_of_getElem? (i := 77) rfl)) rfl
set_option maxRecDepth 100000 in
theorem csX6_311 : Cond.constant RX6 311 (1013904223 : Int32) ∈ zgt := zgt_in (zt4 (List.mem_of_getElem? (i := 78) rfl)) rfl
set_option maxRecDepth 100000 in
theorem csX6_312 : Cond.constant RX6 312 (2147483647 : Int32) ∈ zgt := zgt_in (zt4 (List.mem_of_getElem? (i := 79) rfl)) rfl
set_option maxRecDepth 100000 in
theorem csX7_68 : Cond.constant RX7 68 (1000000000 : Int32) ∈ zgt := zgt_in (zt5 (List.mem_of_getElem? (i := 220) rfl)) rfl
set_option maxRecDepth 100000 in
theorem csX7_69 : Cond.constantLong RX7 69 (4000000000000000000 : Int64) ∈ zgt := zgt_in (zt6 (List.mem_of_getElem? (i := 63) rfl)) rfl
set_option maxRecDepth 100000 in
theorem csX7_310 : Cond.constant RX7 310 (1664525 : Int32) ∈ zgt := zgt_in (zt6 (List.mem_of_getElem? (i := 117) rfl)) rfl
set_option maxRecDepth 100000 in
theorem csX7_311 : Cond.constant RX7 311 (1013904223 : Int32) ∈ zgt := zgt_in (zt6 (List.mem_of_getElem? (i := 118) rfl)) rfl
set_option maxRecDepth 100000 in
theorem csX7_312 : Cond.constant RX7 312 (2147483647 : Int32) ∈ zgt := zgt_in (zt6 (List.mem_of_getElem? (i := 119) rfl)) rfl
set_option maxRecDepth 100000 in
theorem csJ11_76 : Cond.constant RJ11 76 (56320 : Int32) ∈ zgt := zgt_in (zt2 (List.mem_of_getElem? (i := 96) rfl)) rfl
set_option maxRecDepth 100000 in
theorem csJ11_110 : Cond.constant RJ11 110 (55232 : Int32) ∈ zgt := zgt_in (zt2 (List.mem_of_getElem? (i := 92) rfl)) rfl
set_option maxRecDepth 100000 in
theorem csJ6_265 : Cond.constant RJ6 265 (1431655765 : Int32) ∈ zgt := zgt_in (zt2 (List.mem_of_getElem? (i := 219) rfl)) rfl
set_option maxRecDepth 100000 in
theorem csJ6_266 : Cond.constant RJ6 266 (858993459 : Int32) ∈ zgt := zgt_in (zt2 (List.mem_of_getElem? (i := 220) rfl)) rfl
set_option maxRecDepth 100000 in
theorem csJ6_267 : Cond.constant RJ6 267 (252645135 : Int32) ∈ zgt := zgt_in (zt2 (List.mem_of_getElem? (i := 221) rfl)) rfl
set_option maxRecDepth 100000 in
theorem csJ2_227 : Cond.constant RJ2 227 (65536 : Int32) ∈ zgt := zgt_in (zt2 (List.mem_of_getElem? (i := 53) rfl)) rfl
