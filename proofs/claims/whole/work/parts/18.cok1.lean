set_option maxRecDepth 100000 in
theorem co_X0_init : am_cok m_X0_init := am_cok_of (by decide +kernel)
set_option maxRecDepth 100000 in
theorem co_X0_resultsAt : am_cok m_X0_resultsAt := am_cok_of (by decide +kernel)
set_option maxRecDepth 100000 in
theorem co_X0_helpers : am_cok m_X0_helpers := am_cok_of (by decide +kernel)
set_option maxRecDepth 100000 in
theorem co_X0_spoilers : am_cok m_X0_spoilers := am_cok_of (by decide +kernel)
set_option maxRecDepth 100000 in
theorem co_X0_othersThatAre : am_cok m_X0_othersThatAre := am_cok_of (by decide +kernel)
set_option maxRecDepth 100000 in
theorem co_X0_effectOf : am_cok m_X0_effectOf := am_cok_of (by decide +kernel)
set_option maxRecDepth 100000 in
theorem co_X0_wisest : am_cok m_X0_wisest := am_cok_of (by decide +kernel)
set_option maxRecDepth 100000 in
theorem co_X0_othersAble : am_cok m_X0_othersAble := am_cok_of (by decide +kernel)
set_option maxRecDepth 100000 in
theorem co_X1_init : am_cok m_X1_init := am_cok_of (by decide +kernel)
set_option maxRecDepth 100000 in
theorem co_X1_servedOfRow : am_cok m_X1_servedOfRow := am_cok_of (by decide +kernel)
set_option maxRecDepth 100000 in
theorem co_X1_servedOfDay : am_cok m_X1_servedOfDay := am_cok_of (by decide +kernel)
set_option maxRecDepth 100000 in
theorem co_X1_tillBehind : am_cok m_X1_tillBehind := am_cok_of (by decide +kernel)
set_option maxRecDepth 100000 in
theorem co_X1_handsBack : am_cok m_X1_handsBack := am_cok_of (by decide +kernel)
set_option maxRecDepth 100000 in
theorem co_X1_fitting : am_cok m_X1_fitting := am_cok_of (by decide +kernel)
set_option maxRecDepth 100000 in
theorem co_X1_chosenPipe : am_cok m_X1_chosenPipe := am_cok_of (by decide +kernel)
set_option maxRecDepth 100000 in
theorem co_X1_setLetters : am_cok m_X1_setLetters := am_cok_of (by decide +kernel)
set_option maxRecDepth 100000 in
theorem co_X1_worthOf : am_cok m_X1_worthOf := am_cok_of (by decide +kernel)
set_option maxRecDepth 100000 in
theorem co_X2_init : am_cok m_X2_init := am_cok_of (by decide +kernel)
set_option maxRecDepth 100000 in
theorem co_X2_reads : am_cok m_X2_reads := am_cok_of (by decide +kernel)
set_option maxRecDepth 100000 in
theorem co_X2_addCoin : am_cok m_X2_addCoin := am_cok_of (by decide +kernel)
set_option maxRecDepth 100000 in
theorem co_X2_become : am_cok m_X2_become := am_cok_of (by decide +kernel)
set_option maxRecDepth 100000 in
theorem co_X2_addSet : am_cok m_X2_addSet := am_cok_of (by decide +kernel)
set_option maxRecDepth 100000 in
theorem co_X2_isBetter : am_cok m_X2_isBetter := am_cok_of (by decide +kernel)
set_option maxRecDepth 100000 in
theorem co_X2_carries : am_cok m_X2_carries := am_cok_of (by decide +kernel)
set_option maxRecDepth 100000 in
theorem co_X2_givesByRules : am_cok m_X2_givesByRules := am_cok_of (by decide +kernel)
set_option maxRecDepth 100000 in
theorem co_X3_init : am_cok m_X3_init := am_cok_of (by decide +kernel)
set_option maxRecDepth 100000 in
theorem co_X3_starts : am_cok m_X3_starts := am_cok_of (by decide +kernel)
set_option maxRecDepth 100000 in
theorem co_X3_reads : am_cok m_X3_reads := am_cok_of (by decide +kernel)
set_option maxRecDepth 100000 in
theorem co_X3_advances : am_cok m_X3_advances := am_cok_of (by decide +kernel)
set_option maxRecDepth 100000 in
theorem co_X3_swap : am_cok m_X3_swap := am_cok_of (by decide +kernel)
set_option maxRecDepth 100000 in
theorem co_X3_asNumber : am_cok m_X3_asNumber := am_cok_of (by decide +kernel)
set_option maxRecDepth 100000 in
theorem co_X3_turns : am_cok m_X3_turns := am_cok_of (by decide +kernel)
set_option maxRecDepth 100000 in
theorem co_X3_moveUp : am_cok m_X3_moveUp := am_cok_of (by decide +kernel)
set_option maxRecDepth 100000 in
theorem co_X4_init : am_cok m_X4_init := am_cok_of (by decide +kernel)
set_option maxRecDepth 100000 in
theorem co_X4_startsFrom : am_cok m_X4_startsFrom := am_cok_of (by decide +kernel)
set_option maxRecDepth 100000 in
theorem co_X4_search : am_cok m_X4_search := am_cok_of (by decide +kernel)
set_option maxRecDepth 100000 in
theorem co_X4_reach : am_cok m_X4_reach := am_cok_of (by decide +kernel)
set_option maxRecDepth 100000 in
theorem co_X4_collect : am_cok m_X4_collect := am_cok_of (by decide +kernel)
set_option maxRecDepth 100000 in
theorem co_X4_puts : am_cok m_X4_puts := am_cok_of (by decide +kernel)
set_option maxRecDepth 100000 in
theorem co_X5_init : am_cok m_X5_init := am_cok_of (by decide +kernel)
set_option maxRecDepth 100000 in
theorem co_X5_behind : am_cok m_X5_behind := am_cok_of (by decide +kernel)
set_option maxRecDepth 100000 in
theorem co_X5_startsFrom : am_cok m_X5_startsFrom := am_cok_of (by decide +kernel)
set_option maxRecDepth 100000 in
theorem co_X5_goesOn : am_cok m_X5_goesOn := am_cok_of (by decide +kernel)
set_option maxRecDepth 100000 in
theorem co_X5_goesThrough : am_cok m_X5_goesThrough := am_cok_of (by decide +kernel)
set_option maxRecDepth 100000 in
theorem co_X5_firstUnserved : am_cok m_X5_firstUnserved := am_cok_of (by decide +kernel)
set_option maxRecDepth 100000 in
theorem co_X5_fewestTurns : am_cok m_X5_fewestTurns := am_cok_of (by decide +kernel)
set_option maxRecDepth 100000 in
theorem co_X5_leastFloat : am_cok m_X5_leastFloat := am_cok_of (by decide +kernel)
set_option maxRecDepth 100000 in
theorem co_X5_pipeWith : am_cok m_X5_pipeWith := am_cok_of (by decide +kernel)
set_option maxRecDepth 100000 in
theorem co_X5_mostInLine : am_cok m_X5_mostInLine := am_cok_of (by decide +kernel)
set_option maxRecDepth 100000 in
theorem co_X5_choosesFor : am_cok m_X5_choosesFor := am_cok_of (by decide +kernel)
set_option maxRecDepth 100000 in
theorem co_X5_raises : am_cok m_X5_raises := am_cok_of (by decide +kernel)
set_option maxRecDepth 100000 in
theorem co_X5_greatestSet : am_cok m_X5_greatestSet := am_cok_of (by decide +kernel)
set_option maxRecDepth 100000 in
theorem co_X5_extend : am_cok m_X5_extend := am_cok_of (by decide +kernel)
set_option maxRecDepth 100000 in
theorem co_X5_keepGreater : am_cok m_X5_keepGreater := am_cok_of (by decide +kernel)
set_option maxRecDepth 100000 in
theorem co_X6_init : am_cok m_X6_init := am_cok_of (by decide +kernel)
set_option maxRecDepth 100000 in
theorem co_X6_become : am_cok m_X6_become := am_cok_of (by decide +kernel)
set_option maxRecDepth 100000 in
theorem co_X6_reads : am_cok m_X6_reads := am_cok_of (by decide +kernel)
set_option maxRecDepth 100000 in
theorem co_X6_emit : am_cok m_X6_emit := am_cok_of (by decide +kernel)
set_option maxRecDepth 100000 in
theorem co_X6_readsClause : am_cok m_X6_readsClause := am_cok_of (by decide +kernel)
set_option maxRecDepth 100000 in
theorem co_X6_readsCondition : am_cok m_X6_readsCondition := am_cok_of (by decide +kernel)
set_option maxRecDepth 100000 in
theorem co_X6_readsTruth : am_cok m_X6_readsTruth := am_cok_of (by decide +kernel)
set_option maxRecDepth 100000 in
theorem co_X6_readsUnit : am_cok m_X6_readsUnit := am_cok_of (by decide +kernel)
set_option maxRecDepth 100000 in
theorem co_X6_readsInner : am_cok m_X6_readsInner := am_cok_of (by decide +kernel)
set_option maxRecDepth 100000 in
theorem co_X6_readsSum : am_cok m_X6_readsSum := am_cok_of (by decide +kernel)
set_option maxRecDepth 100000 in
theorem co_X6_readsTerm : am_cok m_X6_readsTerm := am_cok_of (by decide +kernel)
set_option maxRecDepth 100000 in
theorem co_X6_readsAtom : am_cok m_X6_readsAtom := am_cok_of (by decide +kernel)
set_option maxRecDepth 100000 in
theorem co_X6_comparison : am_cok m_X6_comparison := am_cok_of (by decide +kernel)
set_option maxRecDepth 100000 in
theorem co_X6_letterOf : am_cok m_X6_letterOf := am_cok_of (by decide +kernel)
set_option maxRecDepth 100000 in
theorem co_X6_worth : am_cok m_X6_worth := am_cok_of (by decide +kernel)
set_option maxRecDepth 100000 in
theorem co_X6_nextAnswer : am_cok m_X6_nextAnswer := am_cok_of (by decide +kernel)
set_option maxRecDepth 100000 in
theorem co_X6_reckon : am_cok m_X6_reckon := am_cok_of (by decide +kernel)
set_option maxRecDepth 100000 in
theorem co_X6_within : am_cok m_X6_within := am_cok_of (by decide +kernel)
set_option maxRecDepth 100000 in
theorem co_X7_init : am_cok m_X7_init := am_cok_of (by decide +kernel)
set_option maxRecDepth 100000 in
theorem co_X7_isOpen : am_cok m_X7_isOpen := am_cok_of (by decide +kernel)
set_option maxRecDepth 100000 in
theorem co_X7_hasKind : am_cok m_X7_hasKind := am_cok_of (by decide +kernel)
set_option maxRecDepth 100000 in
theorem co_X7_hasPipe : am_cok m_X7_hasPipe := am_cok_of (by decide +kernel)
set_option maxRecDepth 100000 in
theorem co_X7_become : am_cok m_X7_become := am_cok_of (by decide +kernel)
set_option maxRecDepth 100000 in
theorem co_X7_reads : am_cok m_X7_reads := am_cok_of (by decide +kernel)
set_option maxRecDepth 100000 in
theorem co_X7_readsValues : am_cok m_X7_readsValues := am_cok_of (by decide +kernel)
set_option maxRecDepth 100000 in
theorem co_X7_readsParts : am_cok m_X7_readsParts := am_cok_of (by decide +kernel)
set_option maxRecDepth 100000 in
theorem co_X7_partOf : am_cok m_X7_partOf := am_cok_of (by decide +kernel)
set_option maxRecDepth 100000 in
theorem co_X7_readsPart : am_cok m_X7_readsPart := am_cok_of (by decide +kernel)
set_option maxRecDepth 100000 in
theorem co_X8_init : am_cok m_X8_init := am_cok_of (by decide +kernel)
set_option maxRecDepth 100000 in
theorem co_X8_append : am_cok m_X8_append := am_cok_of (by decide +kernel)
set_option maxRecDepth 100000 in
theorem co_X8_sign : am_cok m_X8_sign := am_cok_of (by decide +kernel)
set_option maxRecDepth 100000 in
theorem co_X8_accepts : am_cok m_X8_accepts := am_cok_of (by decide +kernel)
set_option maxRecDepth 100000 in
theorem co_X8_isDigit : am_cok m_X8_isDigit := am_cok_of (by decide +kernel)
set_option maxRecDepth 100000 in
theorem co_X8_digits : am_cok m_X8_digits := am_cok_of (by decide +kernel)
set_option maxRecDepth 100000 in
theorem co_X8_bounded : am_cok m_X8_bounded := am_cok_of (by decide +kernel)
set_option maxRecDepth 100000 in
theorem co_X9_init : am_cok m_X9_init := am_cok_of (by decide +kernel)
set_option maxRecDepth 100000 in
theorem co_X9_add : am_cok m_X9_add := am_cok_of (by decide +kernel)
set_option maxRecDepth 100000 in
theorem co_X9_sort : am_cok m_X9_sort := am_cok_of (by decide +kernel)
set_option maxRecDepth 100000 in
theorem co_X9_answer : am_cok m_X9_answer := am_cok_of (by decide +kernel)
set_option maxRecDepth 100000 in
theorem co_X9_fullest : am_cok m_X9_fullest := am_cok_of (by decide +kernel)
set_option maxRecDepth 100000 in
theorem co_X9_emptiest : am_cok m_X9_emptiest := am_cok_of (by decide +kernel)
set_option maxRecDepth 100000 in
theorem co_X10_number : am_cok m_X10_number := am_cok_of (by decide +kernel)
set_option maxRecDepth 100000 in
theorem co_X10_pipeOf : am_cok m_X10_pipeOf := am_cok_of (by decide +kernel)
set_option maxRecDepth 100000 in
theorem co_X10_trayOf : am_cok m_X10_trayOf := am_cok_of (by decide +kernel)
set_option maxRecDepth 100000 in
theorem co_X10_withPipe : am_cok m_X10_withPipe := am_cok_of (by decide +kernel)
set_option maxRecDepth 100000 in
theorem co_X10_height : am_cok m_X10_height := am_cok_of (by decide +kernel)
set_option maxRecDepth 100000 in
theorem co_X10_coinsIn : am_cok m_X10_coinsIn := am_cok_of (by decide +kernel)
set_option maxRecDepth 100000 in
theorem co_X10_coinsAbove : am_cok m_X10_coinsAbove := am_cok_of (by decide +kernel)
set_option maxRecDepth 100000 in
theorem co_X10_digitOnTray : am_cok m_X10_digitOnTray := am_cok_of (by decide +kernel)
set_option maxRecDepth 100000 in
theorem co_X10_trayWith : am_cok m_X10_trayWith := am_cok_of (by decide +kernel)
set_option maxRecDepth 100000 in
theorem co_X11_init : am_cok m_X11_init := am_cok_of (by decide +kernel)
set_option maxRecDepth 100000 in
theorem co_X11_newCustomers : am_cok m_X11_newCustomers := am_cok_of (by decide +kernel)
set_option maxRecDepth 100000 in
theorem co_X11_newRules : am_cok m_X11_newRules := am_cok_of (by decide +kernel)
set_option maxRecDepth 100000 in
theorem co_X11_feed : am_cok m_X11_feed := am_cok_of (by decide +kernel)
set_option maxRecDepth 100000 in
theorem co_X11_end : am_cok m_X11_end := am_cok_of (by decide +kernel)
set_option maxRecDepth 100000 in
theorem co_X11_fault : am_cok m_X11_fault := am_cok_of (by decide +kernel)
set_option maxRecDepth 100000 in
theorem co_X11_text : am_cok m_X11_text := am_cok_of (by decide +kernel)
set_option maxRecDepth 100000 in
theorem co_X11_opensShop : am_cok m_X11_opensShop := am_cok_of (by decide +kernel)
set_option maxRecDepth 100000 in
theorem co_X11_addsCustomer : am_cok m_X11_addsCustomer := am_cok_of (by decide +kernel)
set_option maxRecDepth 100000 in
theorem co_X11_addsRule : am_cok m_X11_addsRule := am_cok_of (by decide +kernel)
set_option maxRecDepth 100000 in
theorem co_X11_value : am_cok m_X11_value := am_cok_of (by decide +kernel)
set_option maxRecDepth 100000 in
theorem co_X11_customer : am_cok m_X11_customer := am_cok_of (by decide +kernel)
set_option maxRecDepth 100000 in
theorem co_X11_lay : am_cok m_X11_lay := am_cok_of (by decide +kernel)
set_option maxRecDepth 100000 in
theorem co_X11_lift : am_cok m_X11_lift := am_cok_of (by decide +kernel)
set_option maxRecDepth 100000 in
theorem co_X11_coin : am_cok m_X11_coin := am_cok_of (by decide +kernel)
set_option maxRecDepth 100000 in
theorem co_X11_tray : am_cok m_X11_tray := am_cok_of (by decide +kernel)
set_option maxRecDepth 100000 in
theorem co_X11_till : am_cok m_X11_till := am_cok_of (by decide +kernel)
set_option maxRecDepth 100000 in
theorem co_X11_result : am_cok m_X11_result := am_cok_of (by decide +kernel)
set_option maxRecDepth 100000 in
theorem co_X11_serve : am_cok m_X11_serve := am_cok_of (by decide +kernel)
set_option maxRecDepth 100000 in
theorem co_X11_findsResults : am_cok m_X11_findsResults := am_cok_of (by decide +kernel)
set_option maxRecDepth 100000 in
theorem co_X11_row : am_cok m_X11_row := am_cok_of (by decide +kernel)
set_option maxRecDepth 100000 in
theorem co_X11_left : am_cok m_X11_left := am_cok_of (by decide +kernel)
set_option maxRecDepth 100000 in
theorem co_X11_aside : am_cok m_X11_aside := am_cok_of (by decide +kernel)
set_option maxRecDepth 100000 in
theorem co_X11_steps : am_cok m_X11_steps := am_cok_of (by decide +kernel)
set_option maxRecDepth 100000 in
theorem co_X11_most : am_cok m_X11_most := am_cok_of (by decide +kernel)
set_option maxRecDepth 100000 in
theorem co_X11_dawn : am_cok m_X11_dawn := am_cok_of (by decide +kernel)
set_option maxRecDepth 100000 in
theorem co_X11_breaks : am_cok m_X11_breaks := am_cok_of (by decide +kernel)
set_option maxRecDepth 100000 in
theorem co_X11_by : am_cok m_X11_by := am_cok_of (by decide +kernel)
set_option maxRecDepth 100000 in
theorem co_X11_gives : am_cok m_X11_gives := am_cok_of (by decide +kernel)
