set_option maxRecDepth 100000 in
theorem co_X11_run : am_cok m_X11_run := am_cok_of (by decide +kernel)
set_option maxRecDepth 100000 in
theorem co_X11_worst : am_cok m_X11_worst := am_cok_of (by decide +kernel)
set_option maxRecDepth 100000 in
theorem co_X11_day : am_cok m_X11_day := am_cok_of (by decide +kernel)
set_option maxRecDepth 100000 in
theorem co_X11_best : am_cok m_X11_best := am_cok_of (by decide +kernel)
set_option maxRecDepth 100000 in
theorem co_X11_served : am_cok m_X11_served := am_cok_of (by decide +kernel)
set_option maxRecDepth 100000 in
theorem co_X11_cover : am_cok m_X11_cover := am_cok_of (by decide +kernel)
set_option maxRecDepth 100000 in
theorem co_X11_change : am_cok m_X11_change := am_cok_of (by decide +kernel)
set_option maxRecDepth 100000 in
theorem co_X11_amounts : am_cok m_X11_amounts := am_cok_of (by decide +kernel)
set_option maxRecDepth 100000 in
theorem co_X11_helps : am_cok m_X11_helps := am_cok_of (by decide +kernel)
set_option maxRecDepth 100000 in
theorem co_X11_spoils : am_cok m_X11_spoils := am_cok_of (by decide +kernel)
set_option maxRecDepth 100000 in
theorem co_X11_wise : am_cok m_X11_wise := am_cok_of (by decide +kernel)
set_option maxRecDepth 100000 in
theorem co_X11_rich : am_cok m_X11_rich := am_cok_of (by decide +kernel)
set_option maxRecDepth 100000 in
theorem co_X11_chain : am_cok m_X11_chain := am_cok_of (by decide +kernel)
set_option maxRecDepth 100000 in
theorem co_X11_mean : am_cok m_X11_mean := am_cok_of (by decide +kernel)
set_option maxRecDepth 100000 in
theorem co_X11_image : am_cok m_X11_image := am_cok_of (by decide +kernel)
set_option maxRecDepth 100000 in
theorem co_X11_back : am_cok m_X11_back := am_cok_of (by decide +kernel)
set_option maxRecDepth 100000 in
theorem co_X11_count : am_cok m_X11_count := am_cok_of (by decide +kernel)
set_option maxRecDepth 100000 in
theorem co_X11_isCustomer : am_cok m_X11_isCustomer := am_cok_of (by decide +kernel)
set_option maxRecDepth 100000 in
theorem co_X11_isRule : am_cok m_X11_isRule := am_cok_of (by decide +kernel)
set_option maxRecDepth 100000 in
theorem co_X12_init : am_cok m_X12_init := am_cok_of (by decide +kernel)
set_option maxRecDepth 100000 in
theorem co_X12_thrown : am_cok m_X12_thrown := am_cok_of (by decide +kernel)
set_option maxRecDepth 100000 in
theorem co_X12_isIn : am_cok m_X12_isIn := am_cok_of (by decide +kernel)
set_option maxRecDepth 100000 in
theorem co_X12_has : am_cok m_X12_has := am_cok_of (by decide +kernel)
set_option maxRecDepth 100000 in
theorem co_X12_bytesIn : am_cok m_X12_bytesIn := am_cok_of (by decide +kernel)
set_option maxRecDepth 100000 in
theorem co_X12_put : am_cok m_X12_put := am_cok_of (by decide +kernel)
set_option maxRecDepth 100000 in
theorem co_X12_feed : am_cok m_X12_feed := am_cok_of (by decide +kernel)
set_option maxRecDepth 100000 in
theorem co_X12_end : am_cok m_X12_end := am_cok_of (by decide +kernel)
set_option maxRecDepth 100000 in
theorem co_X12_look : am_cok m_X12_look := am_cok_of (by decide +kernel)
set_option maxRecDepth 100000 in
theorem co_X12_fails : am_cok m_X12_fails := am_cok_of (by decide +kernel)
set_option maxRecDepth 100000 in
theorem co_X12_goesIn : am_cok m_X12_goesIn := am_cok_of (by decide +kernel)
set_option maxRecDepth 100000 in
theorem co_X12_takes : am_cok m_X12_takes := am_cok_of (by decide +kernel)
set_option maxRecDepth 100000 in
theorem co_X12_isDigit : am_cok m_X12_isDigit := am_cok_of (by decide +kernel)
set_option maxRecDepth 100000 in
theorem co_X12_within : am_cok m_X12_within := am_cok_of (by decide +kernel)
set_option maxRecDepth 100000 in
theorem co_X12_atom : am_cok m_X12_atom := am_cok_of (by decide +kernel)
set_option maxRecDepth 100000 in
theorem co_X12_term : am_cok m_X12_term := am_cok_of (by decide +kernel)
set_option maxRecDepth 100000 in
theorem co_X12_sum : am_cok m_X12_sum := am_cok_of (by decide +kernel)
set_option maxRecDepth 100000 in
theorem co_X12_isSign : am_cok m_X12_isSign := am_cok_of (by decide +kernel)
set_option maxRecDepth 100000 in
theorem co_X12_compares : am_cok m_X12_compares := am_cok_of (by decide +kernel)
set_option maxRecDepth 100000 in
theorem co_X12_unit : am_cok m_X12_unit := am_cok_of (by decide +kernel)
set_option maxRecDepth 100000 in
theorem co_X12_part : am_cok m_X12_part := am_cok_of (by decide +kernel)
set_option maxRecDepth 100000 in
theorem co_X12_condition : am_cok m_X12_condition := am_cok_of (by decide +kernel)
set_option maxRecDepth 100000 in
theorem co_X12_clause : am_cok m_X12_clause := am_cok_of (by decide +kernel)
set_option maxRecDepth 100000 in
theorem co_X12_opens : am_cok m_X12_opens := am_cok_of (by decide +kernel)
set_option maxRecDepth 100000 in
theorem co_X12_goThrough : am_cok m_X12_goThrough := am_cok_of (by decide +kernel)
set_option maxRecDepth 100000 in
theorem co_X12_here : am_cok m_X12_here := am_cok_of (by decide +kernel)
set_option maxRecDepth 100000 in
theorem co_X12_number : am_cok m_X12_number := am_cok_of (by decide +kernel)
set_option maxRecDepth 100000 in
theorem co_X12_readShop : am_cok m_X12_readShop := am_cok_of (by decide +kernel)
set_option maxRecDepth 100000 in
theorem co_X12_readCustomer : am_cok m_X12_readCustomer := am_cok_of (by decide +kernel)
set_option maxRecDepth 100000 in
theorem co_X12_fault : am_cok m_X12_fault := am_cok_of (by decide +kernel)
set_option maxRecDepth 100000 in
theorem co_X12_text : am_cok m_X12_text := am_cok_of (by decide +kernel)
set_option maxRecDepth 100000 in
theorem co_X12_isKind : am_cok m_X12_isKind := am_cok_of (by decide +kernel)
set_option maxRecDepth 100000 in
theorem co_X12_isPipe : am_cok m_X12_isPipe := am_cok_of (by decide +kernel)
set_option maxRecDepth 100000 in
theorem co_X12_onTray : am_cok m_X12_onTray := am_cok_of (by decide +kernel)
set_option maxRecDepth 100000 in
theorem co_X12_top : am_cok m_X12_top := am_cok_of (by decide +kernel)
set_option maxRecDepth 100000 in
theorem co_X12_push : am_cok m_X12_push := am_cok_of (by decide +kernel)
set_option maxRecDepth 100000 in
theorem co_X12_tillNow : am_cok m_X12_tillNow := am_cok_of (by decide +kernel)
set_option maxRecDepth 100000 in
theorem co_X12_opensAs : am_cok m_X12_opensAs := am_cok_of (by decide +kernel)
set_option maxRecDepth 100000 in
theorem co_X12_value : am_cok m_X12_value := am_cok_of (by decide +kernel)
set_option maxRecDepth 100000 in
theorem co_X12_isCustomer : am_cok m_X12_isCustomer := am_cok_of (by decide +kernel)
set_option maxRecDepth 100000 in
theorem co_X12_customer : am_cok m_X12_customer := am_cok_of (by decide +kernel)
set_option maxRecDepth 100000 in
theorem co_X12_lay : am_cok m_X12_lay := am_cok_of (by decide +kernel)
set_option maxRecDepth 100000 in
theorem co_X12_lift : am_cok m_X12_lift := am_cok_of (by decide +kernel)
set_option maxRecDepth 100000 in
theorem co_X12_coin : am_cok m_X12_coin := am_cok_of (by decide +kernel)
set_option maxRecDepth 100000 in
theorem co_X12_tray : am_cok m_X12_tray := am_cok_of (by decide +kernel)
set_option maxRecDepth 100000 in
theorem co_X12_till : am_cok m_X12_till := am_cok_of (by decide +kernel)
set_option maxRecDepth 100000 in
theorem co_X12_place : am_cok m_X12_place := am_cok_of (by decide +kernel)
set_option maxRecDepth 100000 in
theorem co_X12_keepResult : am_cok m_X12_keepResult := am_cok_of (by decide +kernel)
set_option maxRecDepth 100000 in
theorem co_X12_goIn : am_cok m_X12_goIn := am_cok_of (by decide +kernel)
set_option maxRecDepth 100000 in
theorem co_X12_trayKind : am_cok m_X12_trayKind := am_cok_of (by decide +kernel)
set_option maxRecDepth 100000 in
theorem co_X12_goChange : am_cok m_X12_goChange := am_cok_of (by decide +kernel)
set_option maxRecDepth 100000 in
theorem co_X12_goGives : am_cok m_X12_goGives := am_cok_of (by decide +kernel)
set_option maxRecDepth 100000 in
theorem co_X12_layResults : am_cok m_X12_layResults := am_cok_of (by decide +kernel)
set_option maxRecDepth 100000 in
theorem co_X12_result : am_cok m_X12_result := am_cok_of (by decide +kernel)
set_option maxRecDepth 100000 in
theorem co_X12_serve : am_cok m_X12_serve := am_cok_of (by decide +kernel)
set_option maxRecDepth 100000 in
theorem co_X12_layOrder : am_cok m_X12_layOrder := am_cok_of (by decide +kernel)
set_option maxRecDepth 100000 in
theorem co_X12_keepThen : am_cok m_X12_keepThen := am_cok_of (by decide +kernel)
set_option maxRecDepth 100000 in
theorem co_X12_goOn : am_cok m_X12_goOn := am_cok_of (by decide +kernel)
set_option maxRecDepth 100000 in
theorem co_X12_beginAt : am_cok m_X12_beginAt := am_cok_of (by decide +kernel)
set_option maxRecDepth 100000 in
theorem co_X12_goOrder : am_cok m_X12_goOrder := am_cok_of (by decide +kernel)
set_option maxRecDepth 100000 in
theorem co_X12_isServed : am_cok m_X12_isServed := am_cok_of (by decide +kernel)
set_option maxRecDepth 100000 in
theorem co_X12_row : am_cok m_X12_row := am_cok_of (by decide +kernel)
set_option maxRecDepth 100000 in
theorem co_X12_left : am_cok m_X12_left := am_cok_of (by decide +kernel)
set_option maxRecDepth 100000 in
theorem co_X12_stepsOf : am_cok m_X12_stepsOf := am_cok_of (by decide +kernel)
set_option maxRecDepth 100000 in
theorem co_X12_steps : am_cok m_X12_steps := am_cok_of (by decide +kernel)
set_option maxRecDepth 100000 in
theorem co_X12_ten : am_cok m_X12_ten := am_cok_of (by decide +kernel)
set_option maxRecDepth 100000 in
theorem co_X12_aside : am_cok m_X12_aside := am_cok_of (by decide +kernel)
set_option maxRecDepth 100000 in
theorem co_X12_most : am_cok m_X12_most := am_cok_of (by decide +kernel)
set_option maxRecDepth 100000 in
theorem co_X12_areServed : am_cok m_X12_areServed := am_cok_of (by decide +kernel)
set_option maxRecDepth 100000 in
theorem co_X12_isLaid : am_cok m_X12_isLaid := am_cok_of (by decide +kernel)
set_option maxRecDepth 100000 in
theorem co_X12_dawn : am_cok m_X12_dawn := am_cok_of (by decide +kernel)
set_option maxRecDepth 100000 in
theorem co_X12_breaks : am_cok m_X12_breaks := am_cok_of (by decide +kernel)
set_option maxRecDepth 100000 in
theorem co_X12_isBetterGift : am_cok m_X12_isBetterGift := am_cok_of (by decide +kernel)
set_option maxRecDepth 100000 in
theorem co_X12_goGift : am_cok m_X12_goGift := am_cok_of (by decide +kernel)
set_option maxRecDepth 100000 in
theorem co_X12_layGift : am_cok m_X12_layGift := am_cok_of (by decide +kernel)
set_option maxRecDepth 100000 in
theorem co_X12_isRule : am_cok m_X12_isRule := am_cok_of (by decide +kernel)
set_option maxRecDepth 100000 in
theorem co_X12_givesBack : am_cok m_X12_givesBack := am_cok_of (by decide +kernel)
set_option maxRecDepth 100000 in
theorem co_X12_worthIn : am_cok m_X12_worthIn := am_cok_of (by decide +kernel)
set_option maxRecDepth 100000 in
theorem co_X12_putIn : am_cok m_X12_putIn := am_cok_of (by decide +kernel)
set_option maxRecDepth 100000 in
theorem co_X12_serves : am_cok m_X12_serves := am_cok_of (by decide +kernel)
set_option maxRecDepth 100000 in
theorem co_X12_by : am_cok m_X12_by := am_cok_of (by decide +kernel)
set_option maxRecDepth 100000 in
theorem co_X12_gives : am_cok m_X12_gives := am_cok_of (by decide +kernel)
set_option maxRecDepth 100000 in
theorem co_X12_runs : am_cok m_X12_runs := am_cok_of (by decide +kernel)
set_option maxRecDepth 100000 in
theorem co_X12_run : am_cok m_X12_run := am_cok_of (by decide +kernel)
set_option maxRecDepth 100000 in
theorem co_X12_worst : am_cok m_X12_worst := am_cok_of (by decide +kernel)
set_option maxRecDepth 100000 in
theorem co_X12_dayBy : am_cok m_X12_dayBy := am_cok_of (by decide +kernel)
set_option maxRecDepth 100000 in
theorem co_X12_isDay : am_cok m_X12_isDay := am_cok_of (by decide +kernel)
set_option maxRecDepth 100000 in
theorem co_X12_day : am_cok m_X12_day := am_cok_of (by decide +kernel)
set_option maxRecDepth 100000 in
theorem co_X12_best : am_cok m_X12_best := am_cok_of (by decide +kernel)
set_option maxRecDepth 100000 in
theorem co_X12_served : am_cok m_X12_served := am_cok_of (by decide +kernel)
set_option maxRecDepth 100000 in
theorem co_X12_cover : am_cok m_X12_cover := am_cok_of (by decide +kernel)
set_option maxRecDepth 100000 in
theorem co_X12_liftsFor : am_cok m_X12_liftsFor := am_cok_of (by decide +kernel)
set_option maxRecDepth 100000 in
theorem co_X12_lifts : am_cok m_X12_lifts := am_cok_of (by decide +kernel)
set_option maxRecDepth 100000 in
theorem co_X12_change : am_cok m_X12_change := am_cok_of (by decide +kernel)
set_option maxRecDepth 100000 in
theorem co_X12_amounts : am_cok m_X12_amounts := am_cok_of (by decide +kernel)
set_option maxRecDepth 100000 in
theorem co_X12_keepOwn : am_cok m_X12_keepOwn := am_cok_of (by decide +kernel)
set_option maxRecDepth 100000 in
theorem co_X12_manyFrom : am_cok m_X12_manyFrom := am_cok_of (by decide +kernel)
set_option maxRecDepth 100000 in
theorem co_X12_behindHowMany : am_cok m_X12_behindHowMany := am_cok_of (by decide +kernel)
set_option maxRecDepth 100000 in
theorem co_X12_helps : am_cok m_X12_helps := am_cok_of (by decide +kernel)
set_option maxRecDepth 100000 in
theorem co_X12_spoils : am_cok m_X12_spoils := am_cok_of (by decide +kernel)
set_option maxRecDepth 100000 in
theorem co_X12_wise : am_cok m_X12_wise := am_cok_of (by decide +kernel)
set_option maxRecDepth 100000 in
theorem co_X12_coinsIn : am_cok m_X12_coinsIn := am_cok_of (by decide +kernel)
set_option maxRecDepth 100000 in
theorem co_X12_rich : am_cok m_X12_rich := am_cok_of (by decide +kernel)
set_option maxRecDepth 100000 in
theorem co_X12_goChain : am_cok m_X12_goChain := am_cok_of (by decide +kernel)
set_option maxRecDepth 100000 in
theorem co_X12_chain : am_cok m_X12_chain := am_cok_of (by decide +kernel)
set_option maxRecDepth 100000 in
theorem co_X12_mean : am_cok m_X12_mean := am_cok_of (by decide +kernel)
set_option maxRecDepth 100000 in
theorem co_X12_coins : am_cok m_X12_coins := am_cok_of (by decide +kernel)
set_option maxRecDepth 100000 in
theorem co_X12_image : am_cok m_X12_image := am_cok_of (by decide +kernel)
set_option maxRecDepth 100000 in
theorem co_X12_back : am_cok m_X12_back := am_cok_of (by decide +kernel)
set_option maxRecDepth 100000 in
theorem co_X12_count : am_cok m_X12_count := am_cok_of (by decide +kernel)
set_option maxRecDepth 100000 in
theorem co_J6_numberOfLeadingZeros_0f7a4 : am_cok m_J6_numberOfLeadingZeros_0f7a4 := am_cok_of (by decide +kernel)
set_option maxRecDepth 100000 in
theorem co_J6_bitCount_0f7a4 : am_cok m_J6_bitCount_0f7a4 := am_cok_of (by decide +kernel)
set_option maxRecDepth 100000 in
theorem co_J7_fill_53178 : am_cok m_J7_fill_53178 := am_cok_of (by decide +kernel)
set_option maxRecDepth 100000 in
theorem co_J7_copyOf_59c91 : am_cok m_J7_copyOf_59c91 := am_cok_of (by decide +kernel)
