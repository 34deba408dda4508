theorem sel_P_firstFault : Cond.selects R_P y_P_firstFault y_P_firstFault ∈ TBG := tbs 0 rfl
theorem sel_P_firstNeedFault : Cond.selects R_P y_P_firstNeedFault y_P_firstNeedFault ∈ TBG := tbs 1 rfl
theorem sel_P_firstNeedUnmet : Cond.selects R_P y_P_firstNeedUnmet y_P_firstNeedUnmet ∈ TBG := tbs 2 rfl
theorem sel_P_meetsNeed : Cond.selects R_P y_P_meetsNeed y_P_meetsNeed ∈ TBG := tbs 3 rfl
theorem sel_P_firstRestFault : Cond.selects R_P y_P_firstRestFault y_P_firstRestFault ∈ TBG := tbs 4 rfl
theorem sel_P_breaksRest : Cond.selects R_P y_P_breaksRest y_P_breaksRest ∈ TBG := tbs 5 rfl
theorem sel_P_firstMostFault : Cond.selects R_P y_P_firstMostFault y_P_firstMostFault ∈ TBG := tbs 6 rfl
theorem sel_P_firstNightsFault : Cond.selects R_P y_P_firstNightsFault y_P_firstNightsFault ∈ TBG := tbs 7 rfl
theorem sel_P_firstBarFault : Cond.selects R_P y_P_firstBarFault y_P_firstBarFault ∈ TBG := tbs 8 rfl
theorem sel_P_unmetSum : Cond.selects R_P y_P_unmetSum y_P_unmetSum ∈ TBG := tbs 9 rfl
theorem sel_P_costOfAll : Cond.selects R_P y_P_costOfAll y_P_costOfAll ∈ TBG := tbs 10 rfl
theorem sel_P_costOfOne : Cond.selects R_P y_P_costOfOne y_P_costOfOne ∈ TBG := tbs 11 rfl
theorem sel_P_startDays : Cond.selects R_P y_P_startDays y_P_startDays ∈ TBG := tbs 13 rfl
theorem sel_P_addPerson : Cond.selects R_P y_P_addPerson y_P_addPerson ∈ TBG := tbs 14 rfl
theorem sel_R_refuseUnknownDay : Cond.selects R_R y_R_refuseUnknownDay y_R_refuseUnknownDay ∈ TBG := tbs 15 rfl
theorem sel_P_putNeed : Cond.selects R_P y_P_putNeed y_P_putNeed ∈ TBG := tbs 16 rfl
theorem sel_P_putRules : Cond.selects R_P y_P_putRules y_P_putRules ∈ TBG := tbs 17 rfl
theorem sel_R_refuseUnknownPerson : Cond.selects R_R y_R_refuseUnknownPerson y_R_refuseUnknownPerson ∈ TBG := tbs 18 rfl
theorem sel_R_refuseFrozen : Cond.selects R_R y_R_refuseFrozen y_R_refuseFrozen ∈ TBG := tbs 19 rfl
theorem sel_P_addWish : Cond.selects R_P y_P_addWish y_P_addWish ∈ TBG := tbs 20 rfl
theorem sel_S_run : Cond.selects R_S y_S_run y_S_run ∈ TBG := tbs 21 rfl
theorem sel_S_takeOnlyRoster : Cond.selects R_S y_S_takeOnlyRoster y_S_takeOnlyRoster ∈ TBG := tbs 22 rfl
theorem sel_S_keepTrial : Cond.selects R_S y_S_keepTrial y_S_keepTrial ∈ TBG := tbs 23 rfl
theorem sel_S_goThrough : Cond.selects R_S y_S_goThrough y_S_goThrough ∈ TBG := tbs 24 rfl
theorem sel_S_open : Cond.selects R_S y_S_open y_S_open ∈ TBG := tbs 25 rfl
theorem sel_S_standsNext : Cond.selects R_S y_S_standsNext y_S_standsNext ∈ TBG := tbs 26 rfl
theorem sel_S_keepsRules : Cond.selects R_S y_S_keepsRules y_S_keepsRules ∈ TBG := tbs 27 rfl
theorem sel_S_staysBelowBest : Cond.selects R_S y_S_staysBelowBest y_S_staysBelowBest ∈ TBG := tbs 28 rfl
theorem sel_S_unmetBefore : Cond.selects R_S y_S_unmetBefore y_S_unmetBefore ∈ TBG := tbs 29 rfl
theorem sel_R_exchange : Cond.selects R_R y_R_exchange y_R_exchange ∈ TBG := tbs 30 rfl
theorem sel_M_throwing : Cond.selects R_M y_M_throwing y_M_throwing ∈ TBG := tbs 31 rfl
theorem sel_M_isDay : Cond.selects R_M y_M_isDay y_M_isDay ∈ TBG := tbs 32 rfl
theorem sel_M_isPerson : Cond.selects R_M y_M_isPerson y_M_isPerson ∈ TBG := tbs 33 rfl
theorem sel_M_areMet : Cond.selects R_M y_M_areMet y_M_areMet ∈ TBG := tbs 34 rfl
theorem sel_M_isMet : Cond.selects R_M y_M_isMet y_M_isMet ∈ TBG := tbs 35 rfl
theorem sel_M_search : Cond.selects R_M y_M_search y_M_search ∈ TBG := tbs 36 rfl
theorem sel_M_givesUp : Cond.selects R_M y_M_givesUp y_M_givesUp ∈ TBG := tbs 37 rfl
theorem sel_M_isTired : Cond.selects R_M y_M_isTired y_M_isTired ∈ TBG := tbs 38 rfl
theorem sel_M_unmetTo : Cond.selects R_M y_M_unmetTo y_M_unmetTo ∈ TBG := tbs 39 rfl
theorem sel_M_wrongWith : Cond.selects R_M y_M_wrongWith y_M_wrongWith ∈ TBG := tbs 40 rfl
theorem sel_M_costOf : Cond.selects R_M y_M_costOf y_M_costOf ∈ TBG := tbs 41 rfl
set_option maxRecDepth 100000 in
theorem q0 : Cond.initialized "RosterSolveLaw" ∈ TBG := tbm 0 rfl rfl
set_option maxRecDepth 100000 in
theorem q1 : Cond.initialized "RosterSolve" ∈ TBG := tbm 1 rfl rfl
set_option maxRecDepth 100000 in
theorem q2 : Cond.initialized "RosterSolve$Plan" ∈ TBG := tbm 2 rfl rfl
set_option maxRecDepth 100000 in
theorem q3 : Cond.initialized "RosterSolve$Search" ∈ TBG := tbm 3 rfl rfl
set_option maxRecDepth 100000 in
theorem q4 : Cond.initialized "RosterSolveModel" ∈ TBG := tbm 4 rfl rfl
set_option maxRecDepth 100000 in
theorem q5 : Cond.initialized "java/lang/Throwable" ∈ TBG := tbm 5 rfl rfl
set_option maxRecDepth 100000 in
theorem q6 : Cond.initialized "java/lang/Exception" ∈ TBG := tbm 6 rfl rfl
set_option maxRecDepth 100000 in
theorem q7 : Cond.initialized "java/lang/RuntimeException" ∈ TBG := tbm 7 rfl rfl
set_option maxRecDepth 100000 in
theorem q8 : Cond.initialized "java/lang/IndexOutOfBoundsException" ∈ TBG := tbm 8 rfl rfl
set_option maxRecDepth 100000 in
theorem q9 : Cond.initialized "java/lang/UnsupportedOperationException" ∈ TBG := tbm 9 rfl rfl
set_option maxRecDepth 100000 in
theorem q10 : Cond.initialized "java/lang/IllegalArgumentException" ∈ TBG := tbm 10 rfl rfl
set_option maxRecDepth 100000 in
theorem q11 : Cond.initialized "java/lang/IllegalStateException" ∈ TBG := tbm 11 rfl rfl
set_option maxRecDepth 100000 in
theorem q12 : Cond.initialized "java/lang/System" ∈ TBG := tbm 12 rfl rfl
set_option maxRecDepth 100000 in
theorem q13 : Cond.initialized "java/lang/ArithmeticException" ∈ TBG := tbm 13 rfl rfl
set_option maxRecDepth 100000 in
theorem q14 : Cond.classLink "RosterSolveLaw" 8 "RosterSolve" ∈ TBG := tbm 14 rfl rfl
set_option maxRecDepth 100000 in
theorem q15 : Cond.instantiable "RosterSolve" 6 ∈ TBG := tbm 15 rfl rfl
set_option maxRecDepth 100000 in
theorem q16 : Cond.methodLink "RosterSolveLaw" 68 y_R_init ∈ TBG := tbm 16 rfl rfl
set_option maxRecDepth 100000 in
theorem q17 : Cond.instanceMethod y_R_init ∈ TBG := tbm 17 rfl rfl
set_option maxRecDepth 100000 in
theorem q19 : Cond.methodLink "RosterSolve" 3 objectInit ∈ TBG := tbm 19 rfl rfl
set_option maxRecDepth 100000 in
theorem q20 : Cond.instanceMethod objectInit ∈ TBG := tbm 20 rfl rfl
set_option maxRecDepth 100000 in
theorem q22 : Cond.classLink "RosterSolve" 9 "RosterSolve$Plan" ∈ TBG := tbm 22 rfl rfl
set_option maxRecDepth 100000 in
theorem q23 : Cond.instantiable "RosterSolve$Plan" 12 ∈ TBG := tbm 23 rfl rfl
set_option maxRecDepth 100000 in
theorem q24 : Cond.methodLinkNest "RosterSolve" 11 y_P_init "RosterSolve" ∈ tables_1 := List.mem_of_getElem? (i := 24) rfl
set_option maxRecDepth 100000 in
theorem q25 : Cond.instanceMethod y_P_init ∈ TBG := tbm 25 rfl rfl
set_option maxRecDepth 100000 in
theorem q27 : Cond.methodLink "RosterSolve$Plan" 3 objectInit ∈ TBG := tbm 27 rfl rfl
set_option maxRecDepth 100000 in
theorem q28 : Cond.fieldLink "RosterSolve$Plan" 9 "RosterSolve$Plan" "persons" "I" ∈ TBG := tbm 28 rfl rfl
set_option maxRecDepth 100000 in
theorem q29 : Cond.fieldLinkNest "RosterSolve$Search" 66 "RosterSolve$Plan" "persons" "I" "RosterSolve" ∈ tables_1 := List.mem_of_getElem? (i := 29) rfl
set_option maxRecDepth 100000 in
theorem q30 : Cond.fieldLinkNest "RosterSolve" 51 "RosterSolve$Plan" "persons" "I" "RosterSolve" ∈ tables_1 := List.mem_of_getElem? (i := 30) rfl
set_option maxRecDepth 100000 in
theorem q31 : Cond.fieldLink "RosterSolve$Plan" 15 "RosterSolve$Plan" "days" "I" ∈ TBG := tbm 31 rfl rfl
set_option maxRecDepth 100000 in
theorem q32 : Cond.fieldLinkNest "RosterSolve$Search" 71 "RosterSolve$Plan" "days" "I" "RosterSolve" ∈ tables_1 := List.mem_of_getElem? (i := 32) rfl
set_option maxRecDepth 100000 in
theorem q33 : Cond.fieldLinkNest "RosterSolve" 96 "RosterSolve$Plan" "days" "I" "RosterSolve" ∈ tables_1 := List.mem_of_getElem? (i := 33) rfl
set_option maxRecDepth 100000 in
theorem q34 : Cond.fieldLink "RosterSolve$Plan" 18 "RosterSolve$Plan" "rest" "I" ∈ TBG := tbm 34 rfl rfl
set_option maxRecDepth 100000 in
theorem q35 : Cond.fieldLink "RosterSolve$Plan" 21 "RosterSolve$Plan" "most" "I" ∈ TBG := tbm 35 rfl rfl
set_option maxRecDepth 100000 in
theorem q36 : Cond.fieldLinkNest "RosterSolve$Search" 121 "RosterSolve$Plan" "most" "I" "RosterSolve" ∈ tables_1 := List.mem_of_getElem? (i := 36) rfl
set_option maxRecDepth 100000 in
theorem q37 : Cond.fieldLink "RosterSolve$Plan" 24 "RosterSolve$Plan" "nights" "I" ∈ TBG := tbm 37 rfl rfl
set_option maxRecDepth 100000 in
theorem q38 : Cond.fieldLinkNest "RosterSolve$Search" 124 "RosterSolve$Plan" "nights" "I" "RosterSolve" ∈ tables_1 := List.mem_of_getElem? (i := 38) rfl
set_option maxRecDepth 100000 in
theorem q39 : Cond.fieldLink "RosterSolve$Plan" 27 "RosterSolve$Plan" "wishes" "I" ∈ TBG := tbm 39 rfl rfl
set_option maxRecDepth 100000 in
theorem q40 : Cond.fieldLinkNest "RosterSolve" 89 "RosterSolve$Plan" "wishes" "I" "RosterSolve" ∈ tables_1 := List.mem_of_getElem? (i := 40) rfl
set_option maxRecDepth 100000 in
theorem q41 : Cond.fieldLink "RosterSolve$Plan" 30 "RosterSolve$Plan" "skills" "[I" ∈ TBG := tbm 41 rfl rfl
set_option maxRecDepth 100000 in
theorem q42 : Cond.fieldLink "RosterSolve$Plan" 34 "RosterSolve$Plan" "rates" "[I" ∈ TBG := tbm 42 rfl rfl
set_option maxRecDepth 100000 in
theorem q43 : Cond.fieldLink "RosterSolve$Plan" 37 "RosterSolve$Plan" "needPersons" "[I" ∈ TBG := tbm 43 rfl rfl
set_option maxRecDepth 100000 in
theorem q44 : Cond.fieldLink "RosterSolve$Plan" 40 "RosterSolve$Plan" "needSkills" "[I" ∈ TBG := tbm 44 rfl rfl
set_option maxRecDepth 100000 in
theorem q45 : Cond.fieldLink "RosterSolve$Plan" 43 "RosterSolve$Plan" "barred" "[Z" ∈ TBG := tbm 45 rfl rfl
set_option maxRecDepth 100000 in
theorem q46 : Cond.fieldLinkNest "RosterSolve" 78 "RosterSolve$Plan" "barred" "[Z" "RosterSolve" ∈ tables_1 := List.mem_of_getElem? (i := 46) rfl
set_option maxRecDepth 100000 in
theorem q47 : Cond.fieldLinkNest "RosterSolve$Search" 106 "RosterSolve$Plan" "barred" "[Z" "RosterSolve" ∈ tables_1 := List.mem_of_getElem? (i := 47) rfl
set_option maxRecDepth 100000 in
theorem q48 : Cond.fieldLink "RosterSolve$Plan" 47 "RosterSolve$Plan" "missed" "[I" ∈ TBG := tbm 48 rfl rfl
set_option maxRecDepth 100000 in
theorem q49 : Cond.fieldLinkNest "RosterSolve$Search" 133 "RosterSolve$Plan" "missed" "[I" "RosterSolve" ∈ tables_1 := List.mem_of_getElem? (i := 49) rfl
set_option maxRecDepth 100000 in
theorem q75 : Cond.arrayClass .int ∈ TBG := tbm 75 rfl rfl
set_option maxRecDepth 100000 in
theorem q76 : Cond.arrayClass .boolean ∈ TBG := tbm 76 rfl rfl
set_option maxRecDepth 100000 in
theorem q77 : Cond.classLink "RosterSolve" 16 "RosterSolve$Search" ∈ TBG := tbm 77 rfl rfl
set_option maxRecDepth 100000 in
theorem q78 : Cond.instantiable "RosterSolve$Search" 15 ∈ TBG := tbm 78 rfl rfl
set_option maxRecDepth 100000 in
theorem q79 : Cond.methodLinkNest "RosterSolve" 18 y_S_init "RosterSolve" ∈ tables_1 := List.mem_of_getElem? (i := 79) rfl
set_option maxRecDepth 100000 in
theorem q80 : Cond.instanceMethod y_S_init ∈ TBG := tbm 80 rfl rfl
set_option maxRecDepth 100000 in
theorem q82 : Cond.methodLink "RosterSolve$Search" 3 objectInit ∈ TBG := tbm 82 rfl rfl
set_option maxRecDepth 100000 in
theorem q83 : Cond.fieldLink "RosterSolve$Search" 9 "RosterSolve$Search" "plan" "LRosterSolve$Plan;" ∈ TBG := tbm 83 rfl rfl
set_option maxRecDepth 100000 in
theorem q84 : Cond.fieldLink "RosterSolve$Search" 15 "RosterSolve$Search" "best" "[I" ∈ TBG := tbm 84 rfl rfl
set_option maxRecDepth 100000 in
theorem q85 : Cond.fieldLinkNest "RosterSolve" 109 "RosterSolve$Search" "best" "[I" "RosterSolve" ∈ tables_1 := List.mem_of_getElem? (i := 85) rfl
set_option maxRecDepth 100000 in
theorem q86 : Cond.fieldLink "RosterSolve$Search" 19 "RosterSolve$Search" "trial" "[I" ∈ TBG := tbm 86 rfl rfl
set_option maxRecDepth 100000 in
theorem q87 : Cond.fieldLink "RosterSolve$Search" 22 "RosterSolve$Search" "nextShift" "[I" ∈ TBG := tbm 87 rfl rfl
set_option maxRecDepth 100000 in
theorem q88 : Cond.fieldLink "RosterSolve$Search" 25 "RosterSolve$Search" "lastShift" "[I" ∈ TBG := tbm 88 rfl rfl
set_option maxRecDepth 100000 in
theorem q89 : Cond.fieldLink "RosterSolve$Search" 28 "RosterSolve$Search" "shiftsHad" "[I" ∈ TBG := tbm 89 rfl rfl
set_option maxRecDepth 100000 in
theorem q90 : Cond.fieldLink "RosterSolve$Search" 31 "RosterSolve$Search" "nightsHad" "[I" ∈ TBG := tbm 90 rfl rfl
set_option maxRecDepth 100000 in
theorem q91 : Cond.fieldLink "RosterSolve$Search" 34 "RosterSolve$Search" "unmetHad" "[I" ∈ TBG := tbm 91 rfl rfl
set_option maxRecDepth 100000 in
theorem q92 : Cond.fieldLink "RosterSolve$Search" 37 "RosterSolve$Search" "limit" "I" ∈ TBG := tbm 92 rfl rfl
set_option maxRecDepth 100000 in
theorem q93 : Cond.fieldLink "RosterSolve$Search" 41 "RosterSolve$Search" "frozenDays" "I" ∈ TBG := tbm 93 rfl rfl
set_option maxRecDepth 100000 in
theorem q94 : Cond.fieldLink "RosterSolve$Search" 44 "RosterSolve$Search" "steps" "I" ∈ TBG := tbm 94 rfl rfl
set_option maxRecDepth 100000 in
theorem q95 : Cond.fieldLinkNest "RosterSolve" 125 "RosterSolve$Search" "steps" "I" "RosterSolve" ∈ tables_1 := List.mem_of_getElem? (i := 95) rfl
set_option maxRecDepth 100000 in
theorem q96 : Cond.fieldLink "RosterSolve$Search" 47 "RosterSolve$Search" "rightOnes" "I" ∈ TBG := tbm 96 rfl rfl
set_option maxRecDepth 100000 in
theorem q97 : Cond.fieldLinkNest "RosterSolve" 106 "RosterSolve$Search" "rightOnes" "I" "RosterSolve" ∈ tables_1 := List.mem_of_getElem? (i := 97) rfl
set_option maxRecDepth 100000 in
theorem q98 : Cond.fieldLink "RosterSolve$Search" 50 "RosterSolve$Search" "bestUnmet" "I" ∈ TBG := tbm 98 rfl rfl
set_option maxRecDepth 100000 in
theorem q99 : Cond.fieldLinkNest "RosterSolve" 118 "RosterSolve$Search" "bestUnmet" "I" "RosterSolve" ∈ tables_1 := List.mem_of_getElem? (i := 99) rfl
set_option maxRecDepth 100000 in
theorem q100 : Cond.fieldLink "RosterSolve$Search" 53 "RosterSolve$Search" "stopped" "Z" ∈ TBG := tbm 100 rfl rfl
set_option maxRecDepth 100000 in
theorem q101 : Cond.fieldLink "RosterSolve$Search" 57 "RosterSolve$Search" "exact" "Z" ∈ TBG := tbm 101 rfl rfl
set_option maxRecDepth 100000 in
theorem q102 : Cond.fieldLinkNest "RosterSolve" 121 "RosterSolve$Search" "exact" "Z" "RosterSolve" ∈ tables_1 := List.mem_of_getElem? (i := 102) rfl
set_option maxRecDepth 100000 in
theorem q134 : Cond.fieldLink "RosterSolve" 12 "RosterSolve" "plan" "LRosterSolve$Plan;" ∈ TBG := tbm 134 rfl rfl
set_option maxRecDepth 100000 in
theorem q135 : Cond.fieldLink "RosterSolve" 21 "RosterSolve" "search" "LRosterSolve$Search;" ∈ TBG := tbm 135 rfl rfl
set_option maxRecDepth 100000 in
theorem q136 : Cond.fieldLink "RosterSolve" 25 "RosterSolve" "roster" "[I" ∈ TBG := tbm 136 rfl rfl
set_option maxRecDepth 100000 in
theorem q137 : Cond.fieldLink "RosterSolve" 29 "RosterSolve" "published" "[I" ∈ TBG := tbm 137 rfl rfl
set_option maxRecDepth 100000 in
theorem q138 : Cond.fieldLink "RosterSolve" 32 "RosterSolve" "frozen" "I" ∈ TBG := tbm 138 rfl rfl
set_option maxRecDepth 100000 in
theorem q139 : Cond.fieldLink "RosterSolve" 36 "RosterSolve" "editions" "I" ∈ TBG := tbm 139 rfl rfl
set_option maxRecDepth 100000 in
theorem q153 : Cond.methodLink "RosterSolveLaw" 121 y_R_wrong ∈ TBG := tbm 153 rfl rfl
set_option maxRecDepth 100000 in
theorem q154 : Cond.instanceMethod y_R_wrong ∈ TBG := tbm 154 rfl rfl
set_option maxRecDepth 100000 in
theorem q155 : Cond.selects "RosterSolve" y_R_wrong y_R_wrong ∈ TBG := tbm 155 rfl rfl
set_option maxRecDepth 100000 in
theorem q157 : Cond.methodLinkNest "RosterSolve" 134 y_P_firstFault "RosterSolve" ∈ tables_1 := List.mem_of_getElem? (i := 157) rfl
set_option maxRecDepth 100000 in
theorem q159 : Cond.instanceMethod y_P_firstFault ∈ TBG := tbm 159 rfl rfl
set_option maxRecDepth 100000 in
theorem q161 : Cond.methodLink "RosterSolve$Plan" 58 y_P_firstNeedFault ∈ TBG := tbm 161 rfl rfl
set_option maxRecDepth 100000 in
theorem q163 : Cond.instanceMethod y_P_firstNeedFault ∈ TBG := tbm 163 rfl rfl
set_option maxRecDepth 100000 in
theorem q165 : Cond.methodLink "RosterSolve$Plan" 74 y_P_firstNeedUnmet ∈ TBG := tbm 165 rfl rfl
set_option maxRecDepth 100000 in
theorem q167 : Cond.instanceMethod y_P_firstNeedUnmet ∈ TBG := tbm 167 rfl rfl
set_option maxRecDepth 100000 in
theorem q169 : Cond.methodLink "RosterSolve$Plan" 82 y_P_meetsNeed ∈ TBG := tbm 169 rfl rfl
set_option maxRecDepth 100000 in
theorem q171 : Cond.instanceMethod y_P_meetsNeed ∈ TBG := tbm 171 rfl rfl
set_option maxRecDepth 100000 in
theorem q173 : Cond.methodLinkNest "RosterSolve$Plan" 86 y_R_cell "RosterSolve" ∈ tables_1 := List.mem_of_getElem? (i := 173) rfl
set_option maxRecDepth 100000 in
theorem q174 : Cond.static y_R_cell ∈ TBG := tbm 174 rfl rfl
set_option maxRecDepth 100000 in
theorem q176 : Cond.methodLinkNest "RosterSolve$Plan" 54 y_R_slot "RosterSolve" ∈ tables_1 := List.mem_of_getElem? (i := 176) rfl
set_option maxRecDepth 100000 in
theorem q177 : Cond.static y_R_slot ∈ TBG := tbm 177 rfl rfl
set_option maxRecDepth 100000 in
theorem q179 : Cond.methodLink "RosterSolve$Plan" 78 y_P_faultNumber ∈ TBG := tbm 179 rfl rfl
set_option maxRecDepth 100000 in
theorem q180 : Cond.static y_P_faultNumber ∈ TBG := tbm 180 rfl rfl
set_option maxRecDepth 100000 in
theorem q182 : Cond.methodLink "RosterSolve$Plan" 62 y_P_firstRestFault ∈ TBG := tbm 182 rfl rfl
set_option maxRecDepth 100000 in
theorem q184 : Cond.instanceMethod y_P_firstRestFault ∈ TBG := tbm 184 rfl rfl
set_option maxRecDepth 100000 in
theorem q186 : Cond.methodLink "RosterSolve$Plan" 89 y_P_breaksRest ∈ TBG := tbm 186 rfl rfl
set_option maxRecDepth 100000 in
theorem q188 : Cond.instanceMethod y_P_breaksRest ∈ TBG := tbm 188 rfl rfl
set_option maxRecDepth 100000 in
theorem q190 : Cond.methodLink "RosterSolve$Plan" 93 y_P_hoursBetween ∈ TBG := tbm 190 rfl rfl
set_option maxRecDepth 100000 in
theorem q191 : Cond.static y_P_hoursBetween ∈ TBG := tbm 191 rfl rfl
set_option maxRecDepth 100000 in
theorem q193 : Cond.methodLink "RosterSolve$Plan" 65 y_P_firstMostFault ∈ TBG := tbm 193 rfl rfl
set_option maxRecDepth 100000 in
theorem q195 : Cond.instanceMethod y_P_firstMostFault ∈ TBG := tbm 195 rfl rfl
set_option maxRecDepth 100000 in
theorem q197 : Cond.methodLink "RosterSolve$Plan" 68 y_P_firstNightsFault ∈ TBG := tbm 197 rfl rfl
set_option maxRecDepth 100000 in
theorem q199 : Cond.instanceMethod y_P_firstNightsFault ∈ TBG := tbm 199 rfl rfl
set_option maxRecDepth 100000 in
theorem q201 : Cond.methodLink "RosterSolve$Plan" 71 y_P_firstBarFault ∈ TBG := tbm 201 rfl rfl
set_option maxRecDepth 100000 in
theorem q203 : Cond.instanceMethod y_P_firstBarFault ∈ TBG := tbm 203 rfl rfl
set_option maxRecDepth 100000 in
theorem q205 : Cond.methodLinkNest "RosterSolve$Plan" 96 y_R_choice "RosterSolve" ∈ tables_1 := List.mem_of_getElem? (i := 205) rfl
set_option maxRecDepth 100000 in
theorem q206 : Cond.static y_R_choice ∈ TBG := tbm 206 rfl rfl
set_option maxRecDepth 100000 in
theorem q208 : Cond.methodLink "RosterSolve" 99 y_R_cell ∈ TBG := tbm 208 rfl rfl
set_option maxRecDepth 100000 in
theorem q209 : Cond.methodLink "RosterSolveLaw" 125 y_R_unmet ∈ TBG := tbm 209 rfl rfl
set_option maxRecDepth 100000 in
theorem q210 : Cond.instanceMethod y_R_unmet ∈ TBG := tbm 210 rfl rfl
set_option maxRecDepth 100000 in
theorem q211 : Cond.selects "RosterSolve" y_R_unmet y_R_unmet ∈ TBG := tbm 211 rfl rfl
set_option maxRecDepth 100000 in
theorem q213 : Cond.methodLinkNest "RosterSolve" 145 y_P_unmetSum "RosterSolve" ∈ tables_1 := List.mem_of_getElem? (i := 213) rfl
set_option maxRecDepth 100000 in
theorem q215 : Cond.instanceMethod y_P_unmetSum ∈ TBG := tbm 215 rfl rfl
set_option maxRecDepth 100000 in
theorem q217 : Cond.methodLink "RosterSolveLaw" 129 y_R_cost ∈ TBG := tbm 217 rfl rfl
set_option maxRecDepth 100000 in
theorem q218 : Cond.instanceMethod y_R_cost ∈ TBG := tbm 218 rfl rfl
set_option maxRecDepth 100000 in
theorem q219 : Cond.selects "RosterSolve" y_R_cost y_R_cost ∈ TBG := tbm 219 rfl rfl
set_option maxRecDepth 100000 in
theorem q221 : Cond.methodLinkNest "RosterSolve" 148 y_P_costOfAll "RosterSolve" ∈ tables_1 := List.mem_of_getElem? (i := 221) rfl
set_option maxRecDepth 100000 in
theorem q223 : Cond.instanceMethod y_P_costOfAll ∈ TBG := tbm 223 rfl rfl
set_option maxRecDepth 100000 in
theorem q225 : Cond.methodLink "RosterSolve$Plan" 99 y_P_costOfOne ∈ TBG := tbm 225 rfl rfl
set_option maxRecDepth 100000 in
theorem q227 : Cond.instanceMethod y_P_costOfOne ∈ TBG := tbm 227 rfl rfl
set_option maxRecDepth 100000 in
theorem q229 : Cond.methodLink "RosterSolveLaw" 136 y_R_publish ∈ TBG := tbm 229 rfl rfl
set_option maxRecDepth 100000 in
theorem q230 : Cond.instanceMethod y_R_publish ∈ TBG := tbm 230 rfl rfl
set_option maxRecDepth 100000 in
theorem q231 : Cond.selects "RosterSolve" y_R_publish y_R_publish ∈ TBG := tbm 231 rfl rfl
set_option maxRecDepth 100000 in
theorem q233 : Cond.methodLink "RosterSolve" 112 ⟨"java/lang/System", "arraycopy", "(Ljava/lang/Object;ILjava/lang/Object;II)V"⟩ ∈ TBG := tbm 233 rfl rfl
set_option maxRecDepth 100000 in
theorem q234 : Cond.static ⟨"java/lang/System", "arraycopy", "(Ljava/lang/Object;ILjava/lang/Object;II)V"⟩ ∈ TBG := tbm 234 rfl rfl
set_option maxRecDepth 100000 in
theorem q235 : Cond.native ⟨"java/lang/System", "arraycopy", "(Ljava/lang/Object;ILjava/lang/Object;II)V"⟩ ∈ TBG := tbm 235 rfl rfl
set_option maxRecDepth 100000 in
theorem q236 : Cond.methodLink "RosterSolveLaw" 72 y_L_days ∈ TBG := tbm 236 rfl rfl
set_option maxRecDepth 100000 in
theorem q237 : Cond.static y_L_days ∈ TBG := tbm 237 rfl rfl
set_option maxRecDepth 100000 in
theorem q239 : Cond.classLink "RosterSolveLaw" 13 "java/lang/IndexOutOfBoundsException" ∈ TBG := tbm 239 rfl rfl
set_option maxRecDepth 100000 in
theorem q240 : Cond.methodLink "RosterSolveLaw" 7 y_R_days ∈ TBG := tbm 240 rfl rfl
set_option maxRecDepth 100000 in
theorem q241 : Cond.instanceMethod y_R_days ∈ TBG := tbm 241 rfl rfl
set_option maxRecDepth 100000 in
theorem q242 : Cond.selects "RosterSolve" y_R_days y_R_days ∈ TBG := tbm 242 rfl rfl
set_option maxRecDepth 100000 in
theorem q244 : Cond.methodLink "RosterSolve" 39 y_R_refuseOutside ∈ TBG := tbm 244 rfl rfl
set_option maxRecDepth 100000 in
theorem q245 : Cond.static y_R_refuseOutside ∈ TBG := tbm 245 rfl rfl
set_option maxRecDepth 100000 in
theorem q247 : Cond.classLink "RosterSolve" 171 "java/lang/IndexOutOfBoundsException" ∈ TBG := tbm 247 rfl rfl
set_option maxRecDepth 100000 in
theorem q248 : Cond.instantiable "java/lang/IndexOutOfBoundsException" 6 ∈ TBG := tbm 248 rfl rfl
set_option maxRecDepth 100000 in
theorem q249 : Cond.castable "java/lang/IndexOutOfBoundsException" "java/lang/IndexOutOfBoundsException" ∈ tables_1 := List.mem_of_getElem? (i := 249) rfl
set_option maxRecDepth 100000 in
theorem q250 : Cond.declares ⟨"java/lang/RuntimeException", "<init>", "()V"⟩ ∈ tables_1 := List.mem_of_getElem? (i := 250) rfl
set_option maxRecDepth 100000 in
theorem q251 : Cond.declares ⟨"java/lang/RuntimeException", "<init>", "(Ljava/lang/String;)V"⟩ ∈ tables_1 := List.mem_of_getElem? (i := 251) rfl
set_option maxRecDepth 100000 in
theorem q252 : Cond.declares ⟨"java/lang/Exception", "<init>", "()V"⟩ ∈ tables_1 := List.mem_of_getElem? (i := 252) rfl
set_option maxRecDepth 100000 in
theorem q253 : Cond.declares ⟨"java/lang/Exception", "<init>", "(Ljava/lang/String;)V"⟩ ∈ tables_1 := List.mem_of_getElem? (i := 253) rfl
set_option maxRecDepth 100000 in
theorem q254 : Cond.declares ⟨"java/lang/Throwable", "<init>", "()V"⟩ ∈ tables_1 := List.mem_of_getElem? (i := 254) rfl
set_option maxRecDepth 100000 in
theorem q255 : Cond.declares ⟨"java/lang/Throwable", "<init>", "(Ljava/lang/String;)V"⟩ ∈ tables_1 := List.mem_of_getElem? (i := 255) rfl
set_option maxRecDepth 100000 in
theorem q256 : Cond.selects "java/lang/IndexOutOfBoundsException" ⟨"java/lang/Throwable", "fillInStackTrace", "(I)Ljava/lang/Throwable;"⟩ ⟨"java/lang/Throwable", "fillInStackTrace", "(I)Ljava/lang/Throwable;"⟩ ∈ TBG := tbm 256 rfl rfl
set_option maxRecDepth 100000 in
theorem q257 : Cond.selects "java/lang/IndexOutOfBoundsException" ⟨"java/lang/Throwable", "fillInStackTrace", "()Ljava/lang/Throwable;"⟩ ⟨"java/lang/Throwable", "fillInStackTrace", "()Ljava/lang/Throwable;"⟩ ∈ TBG := tbm 257 rfl rfl
set_option maxRecDepth 100000 in
theorem q268 : Cond.fieldLink "java/lang/Throwable" 198 "java/lang/Throwable" "backtrace" "Ljava/lang/Object;" ∈ TBG := tbm 268 rfl rfl
set_option maxRecDepth 100000 in
theorem q270 : Cond.instanceMethod ⟨"java/lang/Throwable", "<init>", "()V"⟩ ∈ TBG := tbm 270 rfl rfl
set_option maxRecDepth 100000 in
theorem q272 : Cond.methodLink "java/lang/Throwable" 1 objectInit ∈ TBG := tbm 272 rfl rfl
set_option maxRecDepth 100000 in
theorem q273 : Cond.fieldLink "java/lang/Throwable" 13 "java/lang/Throwable" "UNASSIGNED_STACK" "[Ljava/lang/StackTraceElement;" ∈ TBG := tbm 273 rfl rfl
set_option maxRecDepth 100000 in
theorem q275 : Cond.fieldLink "java/lang/Throwable" 20 "java/lang/Throwable" "SUPPRESSED_SENTINEL" "Ljava/util/List;" ∈ TBG := tbm 275 rfl rfl
set_option maxRecDepth 100000 in
theorem q277 : Cond.methodLink "java/lang/Throwable" 27 ⟨"java/lang/Throwable", "fillInStackTrace", "()Ljava/lang/Throwable;"⟩ ∈ TBG := tbm 277 rfl rfl
set_option maxRecDepth 100000 in
theorem q278 : Cond.instanceMethod ⟨"java/lang/Throwable", "fillInStackTrace", "()Ljava/lang/Throwable;"⟩ ∈ TBG := tbm 278 rfl rfl
set_option maxRecDepth 100000 in
theorem q279 : Cond.sameMethod "java/lang/Throwable" "java/lang/Throwable" "fillInStackTrace" "()Ljava/lang/Throwable;" ∈ TBG := tbm 279 rfl rfl
set_option maxRecDepth 100000 in
theorem q280 : Cond.selects "java/lang/ArithmeticException" ⟨"java/lang/Throwable", "fillInStackTrace", "()Ljava/lang/Throwable;"⟩ ⟨"java/lang/Throwable", "fillInStackTrace", "()Ljava/lang/Throwable;"⟩ ∈ TBG := tbm 280 rfl rfl
set_option maxRecDepth 100000 in
theorem q281 : Cond.selects "java/lang/IllegalArgumentException" ⟨"java/lang/Throwable", "fillInStackTrace", "()Ljava/lang/Throwable;"⟩ ⟨"java/lang/Throwable", "fillInStackTrace", "()Ljava/lang/Throwable;"⟩ ∈ TBG := tbm 281 rfl rfl
set_option maxRecDepth 100000 in
theorem q282 : Cond.selects "java/lang/IllegalStateException" ⟨"java/lang/Throwable", "fillInStackTrace", "()Ljava/lang/Throwable;"⟩ ⟨"java/lang/Throwable", "fillInStackTrace", "()Ljava/lang/Throwable;"⟩ ∈ TBG := tbm 282 rfl rfl
set_option maxRecDepth 100000 in
theorem q283 : Cond.selects "java/lang/UnsupportedOperationException" ⟨"java/lang/Throwable", "fillInStackTrace", "()Ljava/lang/Throwable;"⟩ ⟨"java/lang/Throwable", "fillInStackTrace", "()Ljava/lang/Throwable;"⟩ ∈ TBG := tbm 283 rfl rfl
set_option maxRecDepth 100000 in
theorem q285 : Cond.methodLink "java/lang/Throwable" 202 ⟨"java/lang/Throwable", "fillInStackTrace", "(I)Ljava/lang/Throwable;"⟩ ∈ TBG := tbm 285 rfl rfl
set_option maxRecDepth 100000 in
theorem q287 : Cond.instanceMethod ⟨"java/lang/Throwable", "fillInStackTrace", "(I)Ljava/lang/Throwable;"⟩ ∈ TBG := tbm 287 rfl rfl
set_option maxRecDepth 100000 in
theorem q288 : Cond.instantiable "java/lang/Throwable" 6 ∈ TBG := tbm 288 rfl rfl
set_option maxRecDepth 100000 in
theorem q289 : Cond.native ⟨"java/lang/Throwable", "fillInStackTrace", "(I)Ljava/lang/Throwable;"⟩ ∈ TBG := tbm 289 rfl rfl
set_option maxRecDepth 100000 in
theorem q290 : Cond.stringRef "RosterSolve" 173 "a number outside its range" ∈ tables_1 := List.mem_of_getElem? (i := 290) rfl
set_option maxRecDepth 100000 in
theorem q291 : Cond.methodLink "RosterSolve" 175 ⟨"java/lang/IndexOutOfBoundsException", "<init>", "(Ljava/lang/String;)V"⟩ ∈ TBG := tbm 291 rfl rfl
set_option maxRecDepth 100000 in
theorem q292 : Cond.instanceMethod ⟨"java/lang/IndexOutOfBoundsException", "<init>", "(Ljava/lang/String;)V"⟩ ∈ TBG := tbm 292 rfl rfl
set_option maxRecDepth 100000 in
theorem q294 : Cond.methodLink "java/lang/IndexOutOfBoundsException" 7 ⟨"java/lang/RuntimeException", "<init>", "(Ljava/lang/String;)V"⟩ ∈ TBG := tbm 294 rfl rfl
set_option maxRecDepth 100000 in
theorem q295 : Cond.instanceMethod ⟨"java/lang/RuntimeException", "<init>", "(Ljava/lang/String;)V"⟩ ∈ TBG := tbm 295 rfl rfl
set_option maxRecDepth 100000 in
theorem q297 : Cond.methodLink "java/lang/RuntimeException" 7 ⟨"java/lang/Exception", "<init>", "(Ljava/lang/String;)V"⟩ ∈ TBG := tbm 297 rfl rfl
set_option maxRecDepth 100000 in
theorem q298 : Cond.instanceMethod ⟨"java/lang/Exception", "<init>", "(Ljava/lang/String;)V"⟩ ∈ TBG := tbm 298 rfl rfl
set_option maxRecDepth 100000 in
theorem q300 : Cond.methodLink "java/lang/Exception" 7 ⟨"java/lang/Throwable", "<init>", "(Ljava/lang/String;)V"⟩ ∈ TBG := tbm 300 rfl rfl
set_option maxRecDepth 100000 in
theorem q301 : Cond.instanceMethod ⟨"java/lang/Throwable", "<init>", "(Ljava/lang/String;)V"⟩ ∈ TBG := tbm 301 rfl rfl
set_option maxRecDepth 100000 in
theorem q303 : Cond.fieldLink "java/lang/Throwable" 198 "java/lang/Throwable" "backtrace" "Ljava/lang/Object;" ∈ TBG := tbm 303 rfl rfl
set_option maxRecDepth 100000 in
theorem q304 : Cond.fieldLink "java/lang/Throwable" 31 "java/lang/Throwable" "detailMessage" "Ljava/lang/String;" ∈ TBG := tbm 304 rfl rfl
set_option maxRecDepth 100000 in
theorem q305 : Cond.fieldLink "java/lang/Throwable" 7 "java/lang/Throwable" "cause" "Ljava/lang/Throwable;" ∈ TBG := tbm 305 rfl rfl
set_option maxRecDepth 100000 in
theorem q306 : Cond.fieldLink "java/lang/Throwable" 17 "java/lang/Throwable" "stackTrace" "[Ljava/lang/StackTraceElement;" ∈ TBG := tbm 306 rfl rfl
set_option maxRecDepth 100000 in
theorem q307 : Cond.fieldLink "java/lang/Throwable" 24 "java/lang/Throwable" "suppressedExceptions" "Ljava/util/List;" ∈ TBG := tbm 307 rfl rfl
set_option maxRecDepth 100000 in
theorem q316 : Cond.arrayClass .byte ∈ TBG := tbm 316 rfl rfl
set_option maxRecDepth 100000 in
theorem q317 : Cond.methodLinkNest "RosterSolve" 43 y_P_startDays "RosterSolve" ∈ tables_1 := List.mem_of_getElem? (i := 317) rfl
set_option maxRecDepth 100000 in
theorem q319 : Cond.instanceMethod y_P_startDays ∈ TBG := tbm 319 rfl rfl
set_option maxRecDepth 100000 in
theorem q321 : Cond.methodLinkNest "RosterSolve$Plan" 50 y_R_clearRow "RosterSolve" ∈ tables_1 := List.mem_of_getElem? (i := 321) rfl
set_option maxRecDepth 100000 in
theorem q322 : Cond.static y_R_clearRow ∈ TBG := tbm 322 rfl rfl
set_option maxRecDepth 100000 in
theorem q324 : Cond.methodLink "RosterSolve" 47 y_R_clearRow ∈ TBG := tbm 324 rfl rfl
set_option maxRecDepth 100000 in
theorem q325 : Cond.methodLink "RosterSolveLaw" 82 y_L_person ∈ TBG := tbm 325 rfl rfl
set_option maxRecDepth 100000 in
theorem q326 : Cond.static y_L_person ∈ TBG := tbm 326 rfl rfl
set_option maxRecDepth 100000 in
theorem q328 : Cond.classLink "RosterSolveLaw" 19 "java/lang/UnsupportedOperationException" ∈ TBG := tbm 328 rfl rfl
set_option maxRecDepth 100000 in
theorem q329 : Cond.methodLink "RosterSolveLaw" 15 y_R_person ∈ TBG := tbm 329 rfl rfl
set_option maxRecDepth 100000 in
theorem q330 : Cond.instanceMethod y_R_person ∈ TBG := tbm 330 rfl rfl
set_option maxRecDepth 100000 in
theorem q331 : Cond.selects "RosterSolve" y_R_person y_R_person ∈ TBG := tbm 331 rfl rfl
set_option maxRecDepth 100000 in
theorem q333 : Cond.methodLink "RosterSolve" 54 y_R_refuseFull ∈ TBG := tbm 333 rfl rfl
set_option maxRecDepth 100000 in
theorem q334 : Cond.static y_R_refuseFull ∈ TBG := tbm 334 rfl rfl
set_option maxRecDepth 100000 in
theorem q336 : Cond.classLink "RosterSolve" 176 "java/lang/UnsupportedOperationException" ∈ TBG := tbm 336 rfl rfl
set_option maxRecDepth 100000 in
theorem q337 : Cond.instantiable "java/lang/UnsupportedOperationException" 6 ∈ TBG := tbm 337 rfl rfl
set_option maxRecDepth 100000 in
theorem q338 : Cond.castable "java/lang/UnsupportedOperationException" "java/lang/UnsupportedOperationException" ∈ tables_1 := List.mem_of_getElem? (i := 338) rfl
set_option maxRecDepth 100000 in
theorem q339 : Cond.selects "java/lang/UnsupportedOperationException" ⟨"java/lang/Throwable", "fillInStackTrace", "(I)Ljava/lang/Throwable;"⟩ ⟨"java/lang/Throwable", "fillInStackTrace", "(I)Ljava/lang/Throwable;"⟩ ∈ TBG := tbm 339 rfl rfl
set_option maxRecDepth 100000 in
theorem q345 : Cond.stringRef "RosterSolve" 178 "no room" ∈ tables_1 := List.mem_of_getElem? (i := 345) rfl
set_option maxRecDepth 100000 in
theorem q346 : Cond.methodLink "RosterSolve" 180 ⟨"java/lang/UnsupportedOperationException", "<init>", "(Ljava/lang/String;)V"⟩ ∈ TBG := tbm 346 rfl rfl
set_option maxRecDepth 100000 in
theorem q347 : Cond.instanceMethod ⟨"java/lang/UnsupportedOperationException", "<init>", "(Ljava/lang/String;)V"⟩ ∈ TBG := tbm 347 rfl rfl
set_option maxRecDepth 100000 in
theorem q349 : Cond.methodLink "java/lang/UnsupportedOperationException" 7 ⟨"java/lang/RuntimeException", "<init>", "(Ljava/lang/String;)V"⟩ ∈ TBG := tbm 349 rfl rfl
set_option maxRecDepth 100000 in
theorem q352 : Cond.methodLinkNest "RosterSolve" 58 y_P_addPerson "RosterSolve" ∈ tables_1 := List.mem_of_getElem? (i := 352) rfl
set_option maxRecDepth 100000 in
theorem q354 : Cond.instanceMethod y_P_addPerson ∈ TBG := tbm 354 rfl rfl
set_option maxRecDepth 100000 in
theorem q356 : Cond.methodLink "RosterSolveLaw" 86 y_L_need ∈ TBG := tbm 356 rfl rfl
set_option maxRecDepth 100000 in
theorem q357 : Cond.static y_L_need ∈ TBG := tbm 357 rfl rfl
set_option maxRecDepth 100000 in
theorem q359 : Cond.classLink "RosterSolveLaw" 25 "java/lang/IllegalArgumentException" ∈ TBG := tbm 359 rfl rfl
set_option maxRecDepth 100000 in
theorem q360 : Cond.methodLink "RosterSolveLaw" 21 y_R_need ∈ TBG := tbm 360 rfl rfl
set_option maxRecDepth 100000 in
theorem q361 : Cond.instanceMethod y_R_need ∈ TBG := tbm 361 rfl rfl
set_option maxRecDepth 100000 in
theorem q362 : Cond.selects "RosterSolve" y_R_need y_R_need ∈ TBG := tbm 362 rfl rfl
set_option maxRecDepth 100000 in
theorem q364 : Cond.methodLink "RosterSolve" 62 y_R_refuseUnknownDay ∈ TBG := tbm 364 rfl rfl
set_option maxRecDepth 100000 in
theorem q366 : Cond.instanceMethod y_R_refuseUnknownDay ∈ TBG := tbm 366 rfl rfl
set_option maxRecDepth 100000 in
theorem q368 : Cond.methodLink "RosterSolve" 65 y_R_refuseUnknown ∈ TBG := tbm 368 rfl rfl
set_option maxRecDepth 100000 in
theorem q369 : Cond.static y_R_refuseUnknown ∈ TBG := tbm 369 rfl rfl
set_option maxRecDepth 100000 in
theorem q371 : Cond.classLink "RosterSolve" 164 "java/lang/IllegalArgumentException" ∈ TBG := tbm 371 rfl rfl
set_option maxRecDepth 100000 in
theorem q372 : Cond.instantiable "java/lang/IllegalArgumentException" 6 ∈ TBG := tbm 372 rfl rfl
set_option maxRecDepth 100000 in
theorem q373 : Cond.castable "java/lang/IllegalArgumentException" "java/lang/IllegalArgumentException" ∈ tables_1 := List.mem_of_getElem? (i := 373) rfl
set_option maxRecDepth 100000 in
theorem q374 : Cond.selects "java/lang/IllegalArgumentException" ⟨"java/lang/Throwable", "fillInStackTrace", "(I)Ljava/lang/Throwable;"⟩ ⟨"java/lang/Throwable", "fillInStackTrace", "(I)Ljava/lang/Throwable;"⟩ ∈ TBG := tbm 374 rfl rfl
set_option maxRecDepth 100000 in
theorem q380 : Cond.stringRef "RosterSolve" 166 "an unknown number" ∈ tables_1 := List.mem_of_getElem? (i := 380) rfl
set_option maxRecDepth 100000 in
theorem q381 : Cond.methodLink "RosterSolve" 168 ⟨"java/lang/IllegalArgumentException", "<init>", "(Ljava/lang/String;)V"⟩ ∈ TBG := tbm 381 rfl rfl
set_option maxRecDepth 100000 in
theorem q382 : Cond.instanceMethod ⟨"java/lang/IllegalArgumentException", "<init>", "(Ljava/lang/String;)V"⟩ ∈ TBG := tbm 382 rfl rfl
set_option maxRecDepth 100000 in
theorem q384 : Cond.methodLink "java/lang/IllegalArgumentException" 7 ⟨"java/lang/RuntimeException", "<init>", "(Ljava/lang/String;)V"⟩ ∈ TBG := tbm 384 rfl rfl
set_option maxRecDepth 100000 in
theorem q387 : Cond.methodLinkNest "RosterSolve" 68 y_P_putNeed "RosterSolve" ∈ tables_1 := List.mem_of_getElem? (i := 387) rfl
set_option maxRecDepth 100000 in
theorem q389 : Cond.instanceMethod y_P_putNeed ∈ TBG := tbm 389 rfl rfl
set_option maxRecDepth 100000 in
theorem q391 : Cond.methodLink "RosterSolveLaw" 90 y_L_rules ∈ TBG := tbm 391 rfl rfl
set_option maxRecDepth 100000 in
theorem q392 : Cond.static y_L_rules ∈ TBG := tbm 392 rfl rfl
set_option maxRecDepth 100000 in
theorem q394 : Cond.methodLink "RosterSolveLaw" 27 y_R_rules ∈ TBG := tbm 394 rfl rfl
set_option maxRecDepth 100000 in
theorem q395 : Cond.instanceMethod y_R_rules ∈ TBG := tbm 395 rfl rfl
set_option maxRecDepth 100000 in
theorem q396 : Cond.selects "RosterSolve" y_R_rules y_R_rules ∈ TBG := tbm 396 rfl rfl
set_option maxRecDepth 100000 in
theorem q398 : Cond.methodLinkNest "RosterSolve" 72 y_P_putRules "RosterSolve" ∈ tables_1 := List.mem_of_getElem? (i := 398) rfl
set_option maxRecDepth 100000 in
theorem q400 : Cond.instanceMethod y_P_putRules ∈ TBG := tbm 400 rfl rfl
set_option maxRecDepth 100000 in
theorem q402 : Cond.methodLink "RosterSolveLaw" 94 y_L_bar ∈ TBG := tbm 402 rfl rfl
set_option maxRecDepth 100000 in
theorem q403 : Cond.static y_L_bar ∈ TBG := tbm 403 rfl rfl
set_option maxRecDepth 100000 in
theorem q405 : Cond.methodLink "RosterSolveLaw" 31 y_R_bar ∈ TBG := tbm 405 rfl rfl
set_option maxRecDepth 100000 in
theorem q406 : Cond.instanceMethod y_R_bar ∈ TBG := tbm 406 rfl rfl
set_option maxRecDepth 100000 in
theorem q407 : Cond.selects "RosterSolve" y_R_bar y_R_bar ∈ TBG := tbm 407 rfl rfl
set_option maxRecDepth 100000 in
theorem q409 : Cond.methodLink "RosterSolve" 75 y_R_refuseUnknownPerson ∈ TBG := tbm 409 rfl rfl
set_option maxRecDepth 100000 in
theorem q411 : Cond.instanceMethod y_R_refuseUnknownPerson ∈ TBG := tbm 411 rfl rfl
set_option maxRecDepth 100000 in
theorem q413 : Cond.methodLink "RosterSolve" 82 y_R_choice ∈ TBG := tbm 413 rfl rfl
set_option maxRecDepth 100000 in
theorem q414 : Cond.methodLink "RosterSolveLaw" 98 y_L_wish ∈ TBG := tbm 414 rfl rfl
set_option maxRecDepth 100000 in
theorem q415 : Cond.static y_L_wish ∈ TBG := tbm 415 rfl rfl
set_option maxRecDepth 100000 in
theorem q417 : Cond.classLink "RosterSolveLaw" 39 "java/lang/IllegalStateException" ∈ TBG := tbm 417 rfl rfl
set_option maxRecDepth 100000 in
theorem q418 : Cond.methodLink "RosterSolveLaw" 35 y_R_wish ∈ TBG := tbm 418 rfl rfl
set_option maxRecDepth 100000 in
theorem q419 : Cond.instanceMethod y_R_wish ∈ TBG := tbm 419 rfl rfl
set_option maxRecDepth 100000 in
theorem q420 : Cond.selects "RosterSolve" y_R_wish y_R_wish ∈ TBG := tbm 420 rfl rfl
set_option maxRecDepth 100000 in
theorem q422 : Cond.methodLink "RosterSolve" 86 y_R_refuseFrozen ∈ TBG := tbm 422 rfl rfl
set_option maxRecDepth 100000 in
theorem q424 : Cond.instanceMethod y_R_refuseFrozen ∈ TBG := tbm 424 rfl rfl
set_option maxRecDepth 100000 in
theorem q426 : Cond.classLink "RosterSolve" 138 "java/lang/IllegalStateException" ∈ TBG := tbm 426 rfl rfl
set_option maxRecDepth 100000 in
theorem q427 : Cond.instantiable "java/lang/IllegalStateException" 6 ∈ TBG := tbm 427 rfl rfl
set_option maxRecDepth 100000 in
theorem q428 : Cond.castable "java/lang/IllegalStateException" "java/lang/IllegalStateException" ∈ tables_1 := List.mem_of_getElem? (i := 428) rfl
set_option maxRecDepth 100000 in
theorem q429 : Cond.selects "java/lang/IllegalStateException" ⟨"java/lang/Throwable", "fillInStackTrace", "(I)Ljava/lang/Throwable;"⟩ ⟨"java/lang/Throwable", "fillInStackTrace", "(I)Ljava/lang/Throwable;"⟩ ∈ TBG := tbm 429 rfl rfl
set_option maxRecDepth 100000 in
theorem q435 : Cond.stringRef "RosterSolve" 162 "the day is frozen" ∈ tables_1 := List.mem_of_getElem? (i := 435) rfl
set_option maxRecDepth 100000 in
theorem q436 : Cond.methodLink "RosterSolve" 142 ⟨"java/lang/IllegalStateException", "<init>", "(Ljava/lang/String;)V"⟩ ∈ TBG := tbm 436 rfl rfl
set_option maxRecDepth 100000 in
theorem q437 : Cond.instanceMethod ⟨"java/lang/IllegalStateException", "<init>", "(Ljava/lang/String;)V"⟩ ∈ TBG := tbm 437 rfl rfl
set_option maxRecDepth 100000 in
theorem q439 : Cond.methodLink "java/lang/IllegalStateException" 7 ⟨"java/lang/RuntimeException", "<init>", "(Ljava/lang/String;)V"⟩ ∈ TBG := tbm 439 rfl rfl
set_option maxRecDepth 100000 in
theorem q442 : Cond.methodLinkNest "RosterSolve" 92 y_P_addWish "RosterSolve" ∈ tables_1 := List.mem_of_getElem? (i := 442) rfl
set_option maxRecDepth 100000 in
theorem q444 : Cond.instanceMethod y_P_addWish ∈ TBG := tbm 444 rfl rfl
set_option maxRecDepth 100000 in
theorem q446 : Cond.methodLink "RosterSolveLaw" 102 y_L_freeze ∈ TBG := tbm 446 rfl rfl
set_option maxRecDepth 100000 in
theorem q447 : Cond.static y_L_freeze ∈ TBG := tbm 447 rfl rfl
set_option maxRecDepth 100000 in
theorem q449 : Cond.methodLink "RosterSolveLaw" 41 y_R_freeze ∈ TBG := tbm 449 rfl rfl
set_option maxRecDepth 100000 in
theorem q450 : Cond.instanceMethod y_R_freeze ∈ TBG := tbm 450 rfl rfl
set_option maxRecDepth 100000 in
theorem q451 : Cond.selects "RosterSolve" y_R_freeze y_R_freeze ∈ TBG := tbm 451 rfl rfl
set_option maxRecDepth 100000 in
theorem q453 : Cond.methodLink "RosterSolveLaw" 105 y_L_set ∈ TBG := tbm 453 rfl rfl
set_option maxRecDepth 100000 in
theorem q454 : Cond.static y_L_set ∈ TBG := tbm 454 rfl rfl
set_option maxRecDepth 100000 in
theorem q456 : Cond.methodLink "RosterSolveLaw" 44 y_R_set ∈ TBG := tbm 456 rfl rfl
set_option maxRecDepth 100000 in
theorem q457 : Cond.instanceMethod y_R_set ∈ TBG := tbm 457 rfl rfl
set_option maxRecDepth 100000 in
theorem q458 : Cond.selects "RosterSolve" y_R_set y_R_set ∈ TBG := tbm 458 rfl rfl
set_option maxRecDepth 100000 in
theorem q460 : Cond.methodLink "RosterSolveLaw" 108 y_L_solve ∈ TBG := tbm 460 rfl rfl
set_option maxRecDepth 100000 in
theorem q461 : Cond.static y_L_solve ∈ TBG := tbm 461 rfl rfl
set_option maxRecDepth 100000 in
theorem q463 : Cond.methodLink "RosterSolveLaw" 47 y_R_solve ∈ TBG := tbm 463 rfl rfl
set_option maxRecDepth 100000 in
theorem q464 : Cond.instanceMethod y_R_solve ∈ TBG := tbm 464 rfl rfl
set_option maxRecDepth 100000 in
theorem q465 : Cond.selects "RosterSolve" y_R_solve y_R_solve ∈ TBG := tbm 465 rfl rfl
set_option maxRecDepth 100000 in
theorem q467 : Cond.methodLinkNest "RosterSolve" 102 y_S_run "RosterSolve" ∈ tables_1 := List.mem_of_getElem? (i := 467) rfl
set_option maxRecDepth 100000 in
theorem q469 : Cond.instanceMethod y_S_run ∈ TBG := tbm 469 rfl rfl
set_option maxRecDepth 100000 in
theorem q471 : Cond.methodLink "RosterSolve$Search" 60 ⟨"java/lang/System", "arraycopy", "(Ljava/lang/Object;ILjava/lang/Object;II)V"⟩ ∈ TBG := tbm 471 rfl rfl
set_option maxRecDepth 100000 in
theorem q472 : Cond.methodLink "RosterSolve$Search" 74 y_S_takeOnlyRoster ∈ TBG := tbm 472 rfl rfl
set_option maxRecDepth 100000 in
theorem q474 : Cond.instanceMethod y_S_takeOnlyRoster ∈ TBG := tbm 474 rfl rfl
set_option maxRecDepth 100000 in
theorem q476 : Cond.methodLinkNest "RosterSolve$Search" 81 y_P_firstNeedFault "RosterSolve" ∈ tables_1 := List.mem_of_getElem? (i := 476) rfl
set_option maxRecDepth 100000 in
theorem q477 : Cond.methodLink "RosterSolve$Search" 85 y_S_keepTrial ∈ TBG := tbm 477 rfl rfl
set_option maxRecDepth 100000 in
theorem q479 : Cond.instanceMethod y_S_keepTrial ∈ TBG := tbm 479 rfl rfl
set_option maxRecDepth 100000 in
theorem q481 : Cond.methodLink "RosterSolve$Search" 77 y_S_goThrough ∈ TBG := tbm 481 rfl rfl
set_option maxRecDepth 100000 in
theorem q483 : Cond.instanceMethod y_S_goThrough ∈ TBG := tbm 483 rfl rfl
set_option maxRecDepth 100000 in
theorem q485 : Cond.methodLink "RosterSolve$Search" 89 y_S_open ∈ TBG := tbm 485 rfl rfl
set_option maxRecDepth 100000 in
theorem q487 : Cond.instanceMethod y_S_open ∈ TBG := tbm 487 rfl rfl
set_option maxRecDepth 100000 in
theorem q489 : Cond.methodLinkNest "RosterSolve$Search" 94 y_R_cell "RosterSolve" ∈ tables_1 := List.mem_of_getElem? (i := 489) rfl
set_option maxRecDepth 100000 in
theorem q490 : Cond.constant "RosterSolve$Search" 93 (40002 : Int32) ∈ TBG := tbm 490 rfl rfl
set_option maxRecDepth 100000 in
theorem q491 : Cond.methodLink "RosterSolve$Search" 98 y_S_standsNext ∈ TBG := tbm 491 rfl rfl
set_option maxRecDepth 100000 in
theorem q493 : Cond.instanceMethod y_S_standsNext ∈ TBG := tbm 493 rfl rfl
set_option maxRecDepth 100000 in
theorem q495 : Cond.methodLink "RosterSolve$Search" 102 y_S_keepsRules ∈ TBG := tbm 495 rfl rfl
set_option maxRecDepth 100000 in
theorem q497 : Cond.instanceMethod y_S_keepsRules ∈ TBG := tbm 497 rfl rfl
set_option maxRecDepth 100000 in
theorem q499 : Cond.methodLinkNest "RosterSolve$Search" 127 y_P_breaksRest "RosterSolve" ∈ tables_1 := List.mem_of_getElem? (i := 499) rfl
set_option maxRecDepth 100000 in
theorem q500 : Cond.methodLinkNest "RosterSolve$Search" 110 y_R_choice "RosterSolve" ∈ tables_1 := List.mem_of_getElem? (i := 500) rfl
set_option maxRecDepth 100000 in
theorem q501 : Cond.methodLink "RosterSolve$Search" 114 y_S_staysBelowBest ∈ TBG := tbm 501 rfl rfl
set_option maxRecDepth 100000 in
theorem q503 : Cond.instanceMethod y_S_staysBelowBest ∈ TBG := tbm 503 rfl rfl
set_option maxRecDepth 100000 in
theorem q505 : Cond.methodLink "RosterSolve$Search" 130 y_S_unmetBefore ∈ TBG := tbm 505 rfl rfl
set_option maxRecDepth 100000 in
theorem q507 : Cond.instanceMethod y_S_unmetBefore ∈ TBG := tbm 507 rfl rfl
set_option maxRecDepth 100000 in
theorem q509 : Cond.methodLinkNest "RosterSolve$Search" 117 y_P_firstNeedUnmet "RosterSolve" ∈ tables_1 := List.mem_of_getElem? (i := 509) rfl
set_option maxRecDepth 100000 in
theorem q510 : Cond.methodLink "RosterSolveLaw" 112 y_L_solved ∈ TBG := tbm 510 rfl rfl
set_option maxRecDepth 100000 in
theorem q511 : Cond.static y_L_solved ∈ TBG := tbm 511 rfl rfl
set_option maxRecDepth 100000 in
theorem q513 : Cond.methodLink "RosterSolveLaw" 51 y_R_solved ∈ TBG := tbm 513 rfl rfl
set_option maxRecDepth 100000 in
theorem q514 : Cond.instanceMethod y_R_solved ∈ TBG := tbm 514 rfl rfl
set_option maxRecDepth 100000 in
theorem q515 : Cond.selects "RosterSolve" y_R_solved y_R_solved ∈ TBG := tbm 515 rfl rfl
set_option maxRecDepth 100000 in
theorem q517 : Cond.methodLink "RosterSolveLaw" 115 y_L_swap ∈ TBG := tbm 517 rfl rfl
set_option maxRecDepth 100000 in
theorem q518 : Cond.static y_L_swap ∈ TBG := tbm 518 rfl rfl
set_option maxRecDepth 100000 in
theorem q520 : Cond.methodLink "RosterSolveLaw" 54 y_R_swap ∈ TBG := tbm 520 rfl rfl
set_option maxRecDepth 100000 in
theorem q521 : Cond.instanceMethod y_R_swap ∈ TBG := tbm 521 rfl rfl
set_option maxRecDepth 100000 in
theorem q522 : Cond.selects "RosterSolve" y_R_swap y_R_swap ∈ TBG := tbm 522 rfl rfl
set_option maxRecDepth 100000 in
theorem q524 : Cond.methodLink "RosterSolve" 128 y_R_refuseSame ∈ TBG := tbm 524 rfl rfl
set_option maxRecDepth 100000 in
theorem q525 : Cond.static y_R_refuseSame ∈ TBG := tbm 525 rfl rfl
set_option maxRecDepth 100000 in
theorem q527 : Cond.stringRef "RosterSolve" 169 "the two persons are one" ∈ tables_1 := List.mem_of_getElem? (i := 527) rfl
set_option maxRecDepth 100000 in
theorem q528 : Cond.methodLink "RosterSolve" 131 y_R_exchange ∈ TBG := tbm 528 rfl rfl
set_option maxRecDepth 100000 in
theorem q530 : Cond.instanceMethod y_R_exchange ∈ TBG := tbm 530 rfl rfl
set_option maxRecDepth 100000 in
theorem q532 : Cond.stringRef "RosterSolve" 140 "the roster would not be right" ∈ tables_1 := List.mem_of_getElem? (i := 532) rfl
set_option maxRecDepth 100000 in
theorem q533 : Cond.methodLink "RosterSolveLaw" 118 y_L_shift ∈ TBG := tbm 533 rfl rfl
set_option maxRecDepth 100000 in
theorem q534 : Cond.static y_L_shift ∈ TBG := tbm 534 rfl rfl
set_option maxRecDepth 100000 in
theorem q536 : Cond.methodLink "RosterSolveLaw" 57 y_R_shift ∈ TBG := tbm 536 rfl rfl
set_option maxRecDepth 100000 in
theorem q537 : Cond.instanceMethod y_R_shift ∈ TBG := tbm 537 rfl rfl
set_option maxRecDepth 100000 in
theorem q538 : Cond.selects "RosterSolve" y_R_shift y_R_shift ∈ TBG := tbm 538 rfl rfl
set_option maxRecDepth 100000 in
theorem q540 : Cond.methodLink "RosterSolveLaw" 133 y_L_share ∈ TBG := tbm 540 rfl rfl
set_option maxRecDepth 100000 in
theorem q541 : Cond.static y_L_share ∈ TBG := tbm 541 rfl rfl
set_option maxRecDepth 100000 in
theorem q543 : Cond.classLink "RosterSolveLaw" 63 "java/lang/ArithmeticException" ∈ TBG := tbm 543 rfl rfl
set_option maxRecDepth 100000 in
theorem q544 : Cond.methodLink "RosterSolveLaw" 60 y_R_share ∈ TBG := tbm 544 rfl rfl
set_option maxRecDepth 100000 in
theorem q545 : Cond.instanceMethod y_R_share ∈ TBG := tbm 545 rfl rfl
set_option maxRecDepth 100000 in
theorem q546 : Cond.selects "RosterSolve" y_R_share y_R_share ∈ TBG := tbm 546 rfl rfl
set_option maxRecDepth 100000 in
theorem q548 : Cond.classLink "RosterSolve" 151 "java/lang/ArithmeticException" ∈ TBG := tbm 548 rfl rfl
set_option maxRecDepth 100000 in
theorem q549 : Cond.instantiable "java/lang/ArithmeticException" 6 ∈ TBG := tbm 549 rfl rfl
set_option maxRecDepth 100000 in
theorem q550 : Cond.castable "java/lang/ArithmeticException" "java/lang/ArithmeticException" ∈ tables_1 := List.mem_of_getElem? (i := 550) rfl
set_option maxRecDepth 100000 in
theorem q551 : Cond.selects "java/lang/ArithmeticException" ⟨"java/lang/Throwable", "fillInStackTrace", "(I)Ljava/lang/Throwable;"⟩ ⟨"java/lang/Throwable", "fillInStackTrace", "(I)Ljava/lang/Throwable;"⟩ ∈ TBG := tbm 551 rfl rfl
set_option maxRecDepth 100000 in
theorem q557 : Cond.stringRef "RosterSolve" 153 "all cost 0" ∈ tables_1 := List.mem_of_getElem? (i := 557) rfl
set_option maxRecDepth 100000 in
theorem q558 : Cond.methodLink "RosterSolve" 155 ⟨"java/lang/ArithmeticException", "<init>", "(Ljava/lang/String;)V"⟩ ∈ TBG := tbm 558 rfl rfl
set_option maxRecDepth 100000 in
theorem q559 : Cond.instanceMethod ⟨"java/lang/ArithmeticException", "<init>", "(Ljava/lang/String;)V"⟩ ∈ TBG := tbm 559 rfl rfl
set_option maxRecDepth 100000 in
theorem q561 : Cond.methodLink "java/lang/ArithmeticException" 7 ⟨"java/lang/RuntimeException", "<init>", "(Ljava/lang/String;)V"⟩ ∈ TBG := tbm 561 rfl rfl
set_option maxRecDepth 100000 in
theorem q564 : Cond.constantLong "RosterSolve" 156 (1000 : Int64) ∈ TBG := tbm 564 rfl rfl
set_option maxRecDepth 100000 in
theorem q565 : Cond.methodLinkNest "RosterSolve" 158 y_P_costOfOne "RosterSolve" ∈ tables_1 := List.mem_of_getElem? (i := 565) rfl
set_option maxRecDepth 100000 in
theorem q566 : Cond.methodLink "RosterSolveLaw" 140 y_L_count ∈ TBG := tbm 566 rfl rfl
set_option maxRecDepth 100000 in
theorem q567 : Cond.static y_L_count ∈ TBG := tbm 567 rfl rfl
set_option maxRecDepth 100000 in
theorem q569 : Cond.methodLink "RosterSolveLaw" 65 y_R_count ∈ TBG := tbm 569 rfl rfl
set_option maxRecDepth 100000 in
theorem q570 : Cond.instanceMethod y_R_count ∈ TBG := tbm 570 rfl rfl
set_option maxRecDepth 100000 in
theorem q571 : Cond.selects "RosterSolve" y_R_count y_R_count ∈ TBG := tbm 571 rfl rfl
set_option maxRecDepth 100000 in
theorem q573 : Cond.classLink "RosterSolveLaw" 69 "RosterSolveModel" ∈ TBG := tbm 573 rfl rfl
set_option maxRecDepth 100000 in
theorem q574 : Cond.instantiable "RosterSolveModel" 26 ∈ TBG := tbm 574 rfl rfl
set_option maxRecDepth 100000 in
theorem q575 : Cond.methodLink "RosterSolveLaw" 71 y_M_init ∈ TBG := tbm 575 rfl rfl
set_option maxRecDepth 100000 in
theorem q576 : Cond.instanceMethod y_M_init ∈ TBG := tbm 576 rfl rfl
set_option maxRecDepth 100000 in
theorem q578 : Cond.methodLink "RosterSolveModel" 1 objectInit ∈ TBG := tbm 578 rfl rfl
set_option maxRecDepth 100000 in
theorem q579 : Cond.fieldLink "RosterSolveModel" 63 "RosterSolveModel" "thrown" "I" ∈ TBG := tbm 579 rfl rfl
set_option maxRecDepth 100000 in
theorem q580 : Cond.fieldLink "RosterSolveModel" 66 "RosterSolveModel" "persons" "I" ∈ TBG := tbm 580 rfl rfl
set_option maxRecDepth 100000 in
theorem q581 : Cond.fieldLink "RosterSolveModel" 73 "RosterSolveModel" "days" "I" ∈ TBG := tbm 581 rfl rfl
set_option maxRecDepth 100000 in
theorem q582 : Cond.fieldLink "RosterSolveModel" 80 "RosterSolveModel" "frozen" "I" ∈ TBG := tbm 582 rfl rfl
set_option maxRecDepth 100000 in
theorem q583 : Cond.fieldLink "RosterSolveModel" 7 "RosterSolveModel" "skills" "[I" ∈ TBG := tbm 583 rfl rfl
set_option maxRecDepth 100000 in
theorem q584 : Cond.fieldLink "RosterSolveModel" 13 "RosterSolveModel" "rate" "[I" ∈ TBG := tbm 584 rfl rfl
set_option maxRecDepth 100000 in
theorem q585 : Cond.fieldLink "RosterSolveModel" 16 "RosterSolveModel" "roster" "[I" ∈ TBG := tbm 585 rfl rfl
set_option maxRecDepth 100000 in
theorem q586 : Cond.fieldLink "RosterSolveModel" 19 "RosterSolveModel" "tried" "[I" ∈ TBG := tbm 586 rfl rfl
set_option maxRecDepth 100000 in
theorem q587 : Cond.fieldLink "RosterSolveModel" 22 "RosterSolveModel" "best" "[I" ∈ TBG := tbm 587 rfl rfl
set_option maxRecDepth 100000 in
theorem q588 : Cond.fieldLink "RosterSolveModel" 25 "RosterSolveModel" "published" "[I" ∈ TBG := tbm 588 rfl rfl
set_option maxRecDepth 100000 in
theorem q589 : Cond.fieldLink "RosterSolveModel" 150 "RosterSolveModel" "editions" "I" ∈ TBG := tbm 589 rfl rfl
set_option maxRecDepth 100000 in
theorem q590 : Cond.fieldLink "RosterSolveModel" 28 "RosterSolveModel" "needs" "[I" ∈ TBG := tbm 590 rfl rfl
set_option maxRecDepth 100000 in
theorem q591 : Cond.fieldLink "RosterSolveModel" 31 "RosterSolveModel" "needSkills" "[I" ∈ TBG := tbm 591 rfl rfl
set_option maxRecDepth 100000 in
theorem q592 : Cond.fieldLink "RosterSolveModel" 34 "RosterSolveModel" "bars" "[Z" ∈ TBG := tbm 592 rfl rfl
set_option maxRecDepth 100000 in
theorem q593 : Cond.fieldLink "RosterSolveModel" 38 "RosterSolveModel" "rest" "I" ∈ TBG := tbm 593 rfl rfl
set_option maxRecDepth 100000 in
theorem q594 : Cond.fieldLink "RosterSolveModel" 42 "RosterSolveModel" "most" "I" ∈ TBG := tbm 594 rfl rfl
set_option maxRecDepth 100000 in
theorem q595 : Cond.fieldLink "RosterSolveModel" 45 "RosterSolveModel" "nights" "I" ∈ TBG := tbm 595 rfl rfl
set_option maxRecDepth 100000 in
theorem q596 : Cond.fieldLink "RosterSolveModel" 83 "RosterSolveModel" "wishes" "I" ∈ TBG := tbm 596 rfl rfl
set_option maxRecDepth 100000 in
theorem q597 : Cond.fieldLink "RosterSolveModel" 48 "RosterSolveModel" "wishPerson" "[I" ∈ TBG := tbm 597 rfl rfl
set_option maxRecDepth 100000 in
theorem q598 : Cond.fieldLink "RosterSolveModel" 51 "RosterSolveModel" "wishDay" "[I" ∈ TBG := tbm 598 rfl rfl
set_option maxRecDepth 100000 in
theorem q599 : Cond.fieldLink "RosterSolveModel" 54 "RosterSolveModel" "wishShift" "[I" ∈ TBG := tbm 599 rfl rfl
set_option maxRecDepth 100000 in
theorem q600 : Cond.fieldLink "RosterSolveModel" 57 "RosterSolveModel" "wishWants" "[Z" ∈ TBG := tbm 600 rfl rfl
set_option maxRecDepth 100000 in
theorem q601 : Cond.fieldLink "RosterSolveModel" 60 "RosterSolveModel" "weight" "[I" ∈ TBG := tbm 601 rfl rfl
set_option maxRecDepth 100000 in
theorem q602 : Cond.fieldLink "RosterSolveModel" 122 "RosterSolveModel" "exact" "Z" ∈ TBG := tbm 602 rfl rfl
set_option maxRecDepth 100000 in
theorem q603 : Cond.fieldLink "RosterSolveModel" 119 "RosterSolveModel" "steps" "I" ∈ TBG := tbm 603 rfl rfl
set_option maxRecDepth 100000 in
theorem q604 : Cond.fieldLink "RosterSolveModel" 130 "RosterSolveModel" "rights" "I" ∈ TBG := tbm 604 rfl rfl
set_option maxRecDepth 100000 in
theorem q658 : Cond.methodLink "RosterSolveLaw" 78 y_M_thrown ∈ TBG := tbm 658 rfl rfl
set_option maxRecDepth 100000 in
theorem q659 : Cond.instanceMethod y_M_thrown ∈ TBG := tbm 659 rfl rfl
set_option maxRecDepth 100000 in
theorem q660 : Cond.selects "RosterSolveModel" y_M_thrown y_M_thrown ∈ TBG := tbm 660 rfl rfl
set_option maxRecDepth 100000 in
theorem q662 : Cond.methodLink "RosterSolveLaw" 77 y_M_days ∈ TBG := tbm 662 rfl rfl
set_option maxRecDepth 100000 in
theorem q663 : Cond.instanceMethod y_M_days ∈ TBG := tbm 663 rfl rfl
set_option maxRecDepth 100000 in
theorem q664 : Cond.selects "RosterSolveModel" y_M_days y_M_days ∈ TBG := tbm 664 rfl rfl
set_option maxRecDepth 100000 in
theorem q666 : Cond.methodLink "RosterSolveModel" 69 y_M_in ∈ TBG := tbm 666 rfl rfl
set_option maxRecDepth 100000 in
theorem q667 : Cond.static y_M_in ∈ TBG := tbm 667 rfl rfl
set_option maxRecDepth 100000 in
theorem q669 : Cond.methodLink "RosterSolveModel" 76 y_M_throwing ∈ TBG := tbm 669 rfl rfl
set_option maxRecDepth 100000 in
theorem q671 : Cond.instanceMethod y_M_throwing ∈ TBG := tbm 671 rfl rfl
set_option maxRecDepth 100000 in
theorem q673 : Cond.methodLink "RosterSolveLaw" 85 y_M_person ∈ TBG := tbm 673 rfl rfl
set_option maxRecDepth 100000 in
theorem q674 : Cond.instanceMethod y_M_person ∈ TBG := tbm 674 rfl rfl
set_option maxRecDepth 100000 in
theorem q675 : Cond.selects "RosterSolveModel" y_M_person y_M_person ∈ TBG := tbm 675 rfl rfl
set_option maxRecDepth 100000 in
theorem q677 : Cond.methodLink "RosterSolveLaw" 89 y_M_need ∈ TBG := tbm 677 rfl rfl
set_option maxRecDepth 100000 in
theorem q678 : Cond.instanceMethod y_M_need ∈ TBG := tbm 678 rfl rfl
set_option maxRecDepth 100000 in
theorem q679 : Cond.selects "RosterSolveModel" y_M_need y_M_need ∈ TBG := tbm 679 rfl rfl
set_option maxRecDepth 100000 in
theorem q681 : Cond.methodLink "RosterSolveModel" 86 y_M_isDay ∈ TBG := tbm 681 rfl rfl
set_option maxRecDepth 100000 in
theorem q683 : Cond.instanceMethod y_M_isDay ∈ TBG := tbm 683 rfl rfl
set_option maxRecDepth 100000 in
theorem q685 : Cond.methodLink "RosterSolveLaw" 93 y_M_rules ∈ TBG := tbm 685 rfl rfl
set_option maxRecDepth 100000 in
theorem q686 : Cond.instanceMethod y_M_rules ∈ TBG := tbm 686 rfl rfl
set_option maxRecDepth 100000 in
theorem q687 : Cond.selects "RosterSolveModel" y_M_rules y_M_rules ∈ TBG := tbm 687 rfl rfl
set_option maxRecDepth 100000 in
theorem q689 : Cond.methodLink "RosterSolveLaw" 97 y_M_bar ∈ TBG := tbm 689 rfl rfl
set_option maxRecDepth 100000 in
theorem q690 : Cond.instanceMethod y_M_bar ∈ TBG := tbm 690 rfl rfl
set_option maxRecDepth 100000 in
theorem q691 : Cond.selects "RosterSolveModel" y_M_bar y_M_bar ∈ TBG := tbm 691 rfl rfl
set_option maxRecDepth 100000 in
theorem q693 : Cond.methodLink "RosterSolveModel" 90 y_M_isPerson ∈ TBG := tbm 693 rfl rfl
set_option maxRecDepth 100000 in
theorem q695 : Cond.instanceMethod y_M_isPerson ∈ TBG := tbm 695 rfl rfl
set_option maxRecDepth 100000 in
theorem q697 : Cond.methodLink "RosterSolveLaw" 101 y_M_wish ∈ TBG := tbm 697 rfl rfl
set_option maxRecDepth 100000 in
theorem q698 : Cond.instanceMethod y_M_wish ∈ TBG := tbm 698 rfl rfl
set_option maxRecDepth 100000 in
theorem q699 : Cond.selects "RosterSolveModel" y_M_wish y_M_wish ∈ TBG := tbm 699 rfl rfl
set_option maxRecDepth 100000 in
theorem q701 : Cond.methodLink "RosterSolveLaw" 104 y_M_freeze ∈ TBG := tbm 701 rfl rfl
set_option maxRecDepth 100000 in
theorem q702 : Cond.instanceMethod y_M_freeze ∈ TBG := tbm 702 rfl rfl
set_option maxRecDepth 100000 in
theorem q703 : Cond.selects "RosterSolveModel" y_M_freeze y_M_freeze ∈ TBG := tbm 703 rfl rfl
set_option maxRecDepth 100000 in
theorem q705 : Cond.methodLink "RosterSolveLaw" 107 y_M_set ∈ TBG := tbm 705 rfl rfl
set_option maxRecDepth 100000 in
theorem q706 : Cond.instanceMethod y_M_set ∈ TBG := tbm 706 rfl rfl
set_option maxRecDepth 100000 in
theorem q707 : Cond.selects "RosterSolveModel" y_M_set y_M_set ∈ TBG := tbm 707 rfl rfl
set_option maxRecDepth 100000 in
theorem q709 : Cond.methodLink "RosterSolveLaw" 111 y_M_solve ∈ TBG := tbm 709 rfl rfl
set_option maxRecDepth 100000 in
theorem q710 : Cond.instanceMethod y_M_solve ∈ TBG := tbm 710 rfl rfl
set_option maxRecDepth 100000 in
theorem q711 : Cond.selects "RosterSolveModel" y_M_solve y_M_solve ∈ TBG := tbm 711 rfl rfl
set_option maxRecDepth 100000 in
theorem q713 : Cond.methodLink "RosterSolveModel" 111 y_M_areMet ∈ TBG := tbm 713 rfl rfl
set_option maxRecDepth 100000 in
theorem q715 : Cond.instanceMethod y_M_areMet ∈ TBG := tbm 715 rfl rfl
set_option maxRecDepth 100000 in
theorem q717 : Cond.methodLink "RosterSolveModel" 97 y_M_isMet ∈ TBG := tbm 717 rfl rfl
set_option maxRecDepth 100000 in
theorem q719 : Cond.instanceMethod y_M_isMet ∈ TBG := tbm 719 rfl rfl
set_option maxRecDepth 100000 in
theorem q721 : Cond.methodLink "RosterSolveModel" 133 y_M_search ∈ TBG := tbm 721 rfl rfl
set_option maxRecDepth 100000 in
theorem q723 : Cond.instanceMethod y_M_search ∈ TBG := tbm 723 rfl rfl
set_option maxRecDepth 100000 in
theorem q725 : Cond.methodLink "RosterSolveModel" 126 y_M_givesUp ∈ TBG := tbm 725 rfl rfl
set_option maxRecDepth 100000 in
theorem q727 : Cond.instanceMethod y_M_givesUp ∈ TBG := tbm 727 rfl rfl
set_option maxRecDepth 100000 in
theorem q729 : Cond.methodLink "RosterSolveModel" 101 y_M_isTired ∈ TBG := tbm 729 rfl rfl
set_option maxRecDepth 100000 in
theorem q731 : Cond.instanceMethod y_M_isTired ∈ TBG := tbm 731 rfl rfl
set_option maxRecDepth 100000 in
theorem q733 : Cond.methodLink "RosterSolveModel" 93 y_M_between ∈ TBG := tbm 733 rfl rfl
set_option maxRecDepth 100000 in
theorem q734 : Cond.static y_M_between ∈ TBG := tbm 734 rfl rfl
set_option maxRecDepth 100000 in
theorem q736 : Cond.methodLink "RosterSolveModel" 108 y_M_many ∈ TBG := tbm 736 rfl rfl
set_option maxRecDepth 100000 in
theorem q737 : Cond.static y_M_many ∈ TBG := tbm 737 rfl rfl
set_option maxRecDepth 100000 in
theorem q739 : Cond.methodLink "RosterSolveModel" 104 y_M_nightsTo ∈ TBG := tbm 739 rfl rfl
set_option maxRecDepth 100000 in
theorem q740 : Cond.static y_M_nightsTo ∈ TBG := tbm 740 rfl rfl
set_option maxRecDepth 100000 in
theorem q742 : Cond.methodLink "RosterSolveModel" 115 y_M_unmetTo ∈ TBG := tbm 742 rfl rfl
set_option maxRecDepth 100000 in
theorem q744 : Cond.instanceMethod y_M_unmetTo ∈ TBG := tbm 744 rfl rfl
set_option maxRecDepth 100000 in
theorem q746 : Cond.methodLink "RosterSolveLaw" 114 y_M_solved ∈ TBG := tbm 746 rfl rfl
set_option maxRecDepth 100000 in
theorem q747 : Cond.instanceMethod y_M_solved ∈ TBG := tbm 747 rfl rfl
set_option maxRecDepth 100000 in
theorem q748 : Cond.selects "RosterSolveModel" y_M_solved y_M_solved ∈ TBG := tbm 748 rfl rfl
set_option maxRecDepth 100000 in
theorem q750 : Cond.methodLink "RosterSolveLaw" 117 y_M_swap ∈ TBG := tbm 750 rfl rfl
set_option maxRecDepth 100000 in
theorem q751 : Cond.instanceMethod y_M_swap ∈ TBG := tbm 751 rfl rfl
set_option maxRecDepth 100000 in
theorem q752 : Cond.selects "RosterSolveModel" y_M_swap y_M_swap ∈ TBG := tbm 752 rfl rfl
set_option maxRecDepth 100000 in
theorem q754 : Cond.methodLink "RosterSolveModel" 137 y_M_wrongWith ∈ TBG := tbm 754 rfl rfl
set_option maxRecDepth 100000 in
theorem q756 : Cond.instanceMethod y_M_wrongWith ∈ TBG := tbm 756 rfl rfl
set_option maxRecDepth 100000 in
theorem q758 : Cond.methodLink "RosterSolveLaw" 120 y_M_shift ∈ TBG := tbm 758 rfl rfl
set_option maxRecDepth 100000 in
theorem q759 : Cond.instanceMethod y_M_shift ∈ TBG := tbm 759 rfl rfl
set_option maxRecDepth 100000 in
theorem q760 : Cond.selects "RosterSolveModel" y_M_shift y_M_shift ∈ TBG := tbm 760 rfl rfl
set_option maxRecDepth 100000 in
theorem q762 : Cond.methodLink "RosterSolveLaw" 124 y_M_wrong ∈ TBG := tbm 762 rfl rfl
set_option maxRecDepth 100000 in
theorem q763 : Cond.instanceMethod y_M_wrong ∈ TBG := tbm 763 rfl rfl
set_option maxRecDepth 100000 in
theorem q764 : Cond.selects "RosterSolveModel" y_M_wrong y_M_wrong ∈ TBG := tbm 764 rfl rfl
set_option maxRecDepth 100000 in
theorem q766 : Cond.methodLink "RosterSolveLaw" 128 y_M_unmet ∈ TBG := tbm 766 rfl rfl
set_option maxRecDepth 100000 in
theorem q767 : Cond.instanceMethod y_M_unmet ∈ TBG := tbm 767 rfl rfl
set_option maxRecDepth 100000 in
theorem q768 : Cond.selects "RosterSolveModel" y_M_unmet y_M_unmet ∈ TBG := tbm 768 rfl rfl
set_option maxRecDepth 100000 in
theorem q770 : Cond.methodLink "RosterSolveLaw" 132 y_M_cost ∈ TBG := tbm 770 rfl rfl
set_option maxRecDepth 100000 in
theorem q771 : Cond.instanceMethod y_M_cost ∈ TBG := tbm 771 rfl rfl
set_option maxRecDepth 100000 in
theorem q772 : Cond.selects "RosterSolveModel" y_M_cost y_M_cost ∈ TBG := tbm 772 rfl rfl
set_option maxRecDepth 100000 in
theorem q774 : Cond.methodLink "RosterSolveModel" 141 y_M_costOf ∈ TBG := tbm 774 rfl rfl
set_option maxRecDepth 100000 in
theorem q776 : Cond.instanceMethod y_M_costOf ∈ TBG := tbm 776 rfl rfl
set_option maxRecDepth 100000 in
theorem q778 : Cond.methodLink "RosterSolveLaw" 135 y_M_share ∈ TBG := tbm 778 rfl rfl
set_option maxRecDepth 100000 in
theorem q779 : Cond.instanceMethod y_M_share ∈ TBG := tbm 779 rfl rfl
set_option maxRecDepth 100000 in
theorem q780 : Cond.selects "RosterSolveModel" y_M_share y_M_share ∈ TBG := tbm 780 rfl rfl
set_option maxRecDepth 100000 in
theorem q782 : Cond.methodLink "RosterSolveModel" 144 y_M_cost ∈ TBG := tbm 782 rfl rfl
set_option maxRecDepth 100000 in
theorem q783 : Cond.constantLong "RosterSolveModel" 148 (1000 : Int64) ∈ TBG := tbm 783 rfl rfl
set_option maxRecDepth 100000 in
theorem q784 : Cond.methodLink "RosterSolveLaw" 139 y_M_publish ∈ TBG := tbm 784 rfl rfl
set_option maxRecDepth 100000 in
theorem q785 : Cond.instanceMethod y_M_publish ∈ TBG := tbm 785 rfl rfl
set_option maxRecDepth 100000 in
theorem q786 : Cond.selects "RosterSolveModel" y_M_publish y_M_publish ∈ TBG := tbm 786 rfl rfl
set_option maxRecDepth 100000 in
theorem q788 : Cond.methodLink "RosterSolveLaw" 142 y_M_count ∈ TBG := tbm 788 rfl rfl
set_option maxRecDepth 100000 in
theorem q789 : Cond.instanceMethod y_M_count ∈ TBG := tbm 789 rfl rfl
set_option maxRecDepth 100000 in
theorem q790 : Cond.selects "RosterSolveModel" y_M_count y_M_count ∈ TBG := tbm 790 rfl rfl
set_option maxRecDepth 100000 in
theorem q792 : Cond.arrayClass .long ∈ TBG := tbm 792 rfl rfl
set_option maxRecDepth 100000 in
theorem q793 : Cond.sameMethod "java/lang/Throwable" "java/lang/Throwable" "fillInStackTrace" "(I)Ljava/lang/Throwable;" ∈ TBG := tbm 793 rfl rfl
