/-! every method's table against its bytes and the tables' words -/
def ms_ck (x : mm_M × mm_I) : Bool := ms_okM x.2 && decide (x.2.2.2.1 = x.1.2.1) && x.1.2.2.all (fun e => ms_ok x.2.1.cls (x.2.1.name == "<init>") x.2.2.1 e && ms_okR x.2 e.2)
theorem ck_X0_init : ms_ck ((0, 1, mc_X0_init), (yX0_init, cX0_init, 1, none)) = true := by decide +kernel
theorem ck_X0_doesBar : ms_ck ((0, 2, mc_X0_doesBar), (yX0_doesBar, cX0_doesBar, 2, (some .boolean))) = true := by decide +kernel
theorem ck_X0_setBar : ms_ck ((0, 3, mc_X0_setBar), (yX0_setBar, cX0_setBar, 3, none)) = true := by decide +kernel
theorem ck_X0_wouldOwe : ms_ck ((0, 2, mc_X0_wouldOwe), (yX0_wouldOwe, cX0_wouldOwe, 2, (some .int))) = true := by decide +kernel
theorem ck_X0_settle : ms_ck ((0, 2, mc_X0_settle), (yX0_settle, cX0_settle, 2, (some .int))) = true := by decide +kernel
theorem ck_X1_init : ms_ck ((1, 1, mc_X1_init), (yX1_init, cX1_init, 1, none)) = true := by decide +kernel
theorem ck_X1_isFull : ms_ck ((1, 1, mc_X1_isFull), (yX1_isFull, cX1_isFull, 1, (some .boolean))) = true := by decide +kernel
theorem ck_X1_add : ms_ck ((1, 4, mc_X1_add), (yX1_add, cX1_add, 4, (some .int))) = true := by decide +kernel
theorem ck_X1_latestDay : ms_ck ((1, 1, mc_X1_latestDay), (yX1_latestDay, cX1_latestDay, 1, (some .int))) = true := by decide +kernel
theorem ck_X1_textOf : ms_ck ((1, 4, mc_X1_textOf), (yX1_textOf, cX1_textOf, 4, (some .int))) = true := by decide +kernel
theorem ck_X1_lawOf : ms_ck ((1, 5, mc_X1_lawOf), (yX1_lawOf, cX1_lawOf, 5, (some .int))) = true := by decide +kernel
theorem ck_X2_init : ms_ck ((2, 1, mc_X2_init), (yX2_init, cX2_init, 1, none)) = true := by decide +kernel
theorem ck_X2_begin : ms_ck ((2, 3, mc_X2_begin), (yX2_begin, cX2_begin, 3, none)) = true := by decide +kernel
theorem ck_X2_addFit : ms_ck ((2, 3, mc_X2_addFit), (yX2_addFit, cX2_addFit, 3, none)) = true := by decide +kernel
theorem ck_X2_offerOf : ms_ck ((2, 2, mc_X2_offerOf), (yX2_offerOf, cX2_offerOf, 2, (some .int))) = true := by decide +kernel
theorem ck_X2_mostPairsOfAll : ms_ck ((2, 1, mc_X2_mostPairsOfAll), (yX2_mostPairsOfAll, cX2_mostPairsOfAll, 1, (some .int))) = true := by decide +kernel
theorem ck_X2_allOffers : ms_ck ((2, 1, mc_X2_allOffers), (yX2_allOffers, cX2_allOffers, 1, (some .int))) = true := by decide +kernel
theorem ck_X2_mostPairsFrom : ms_ck ((2, 5, mc_X2_mostPairsFrom), (yX2_mostPairsFrom, cX2_mostPairsFrom, 5, (some .int))) = true := by decide +kernel
theorem ck_X2_takeOne : ms_ck ((2, 6, mc_X2_takeOne), (yX2_takeOne, cX2_takeOne, 6, (some .boolean))) = true := by decide +kernel
theorem ck_X2_match : ms_ck ((2, 4, mc_X2_match), (yX2_match, cX2_match, 4, none)) = true := by decide +kernel
theorem ck_X2_leastOffer : ms_ck ((2, 7, mc_X2_leastOffer), (yX2_leastOffer, cX2_leastOffer, 7, (some .int))) = true := by decide +kernel
theorem ck_X2_reach : ms_ck ((2, 2, mc_X2_reach), (yX2_reach, cX2_reach, 2, none)) = true := by decide +kernel
theorem ck_X2_reachFurther : ms_ck ((2, 2, mc_X2_reachFurther), (yX2_reachFurther, cX2_reachFurther, 2, none)) = true := by decide +kernel
theorem ck_X2_asksNotReached : ms_ck ((2, 1, mc_X2_asksNotReached), (yX2_asksNotReached, cX2_asksNotReached, 1, (some .int))) = true := by decide +kernel
theorem ck_X3_init : ms_ck ((3, 1, mc_X3_init), (yX3_init, cX3_init, 1, none)) = true := by decide +kernel
theorem ck_X3_oldestDay : ms_ck ((3, 1, mc_X3_oldestDay), (yX3_oldestDay, cX3_oldestDay, 1, (some .int))) = true := by decide +kernel
theorem ck_X3_notesOfOldestDay : ms_ck ((3, 1, mc_X3_notesOfOldestDay), (yX3_notesOfOldestDay, cX3_notesOfOldestDay, 1, (some .int))) = true := by decide +kernel
theorem ck_X3_put : ms_ck ((3, 4, mc_X3_put), (yX3_put, cX3_put, 4, none)) = true := by decide +kernel
theorem ck_X3_insertHeap : ms_ck ((3, 5, mc_X3_insertHeap), (yX3_insertHeap, cX3_insertHeap, 5, none)) = true := by decide +kernel
theorem ck_X3_moveOldest : ms_ck ((3, 8, mc_X3_moveOldest), (yX3_moveOldest, cX3_moveOldest, 8, (some .int))) = true := by decide +kernel
theorem ck_X3_dropNewest : ms_ck ((3, 5, mc_X3_dropNewest), (yX3_dropNewest, cX3_dropNewest, 5, none)) = true := by decide +kernel
theorem ck_X3_dropBefore : ms_ck ((3, 5, mc_X3_dropBefore), (yX3_dropBefore, cX3_dropBefore, 5, (some .int))) = true := by decide +kernel
theorem ck_X3_removeOldestHeaps : ms_ck ((3, 3, mc_X3_removeOldestHeaps), (yX3_removeOldestHeaps, cX3_removeOldestHeaps, 3, none)) = true := by decide +kernel
theorem ck_X4_init : ms_ck ((4, 1, mc_X4_init), (yX4_init, cX4_init, 1, none)) = true := by decide +kernel
theorem ck_X4_read : ms_ck ((4, 4, mc_X4_read), (yX4_read, cX4_read, 4, none)) = true := by decide +kernel
theorem ck_X4_readLaw : ms_ck ((4, 3, mc_X4_readLaw), (yX4_readLaw, cX4_readLaw, 3, none)) = true := by decide +kernel
theorem ck_X4_canStand : ms_ck ((4, 2, mc_X4_canStand), (yX4_canStand, cX4_canStand, 2, (some .boolean))) = true := by decide +kernel
theorem ck_X4_fail : ms_ck ((4, 2, mc_X4_fail), (yX4_fail, cX4_fail, 2, none)) = true := by decide +kernel
theorem ck_X4_scan : ms_ck ((4, 2, mc_X4_scan), (yX4_scan, cX4_scan, 2, none)) = true := by decide +kernel
theorem ck_X4_skipBlanks : ms_ck ((4, 2, mc_X4_skipBlanks), (yX4_skipBlanks, cX4_skipBlanks, 2, none)) = true := by decide +kernel
theorem ck_X4_scanName : ms_ck ((4, 3, mc_X4_scanName), (yX4_scanName, cX4_scanName, 3, none)) = true := by decide +kernel
theorem ck_X4_nameOf : ms_ck ((4, 1, mc_X4_nameOf), (yX4_nameOf, cX4_nameOf, 1, (some (.object "java/lang/String")))) = true := by decide +kernel
theorem ck_X4_scanNumber : ms_ck ((4, 2, mc_X4_scanNumber), (yX4_scanNumber, cX4_scanNumber, 2, none)) = true := by decide +kernel
theorem ck_X5_init : ms_ck ((5, 3, mc_X5_init), (yX5_init, cX5_init, 3, none)) = true := by decide +kernel
theorem ck_X5_has : ms_ck ((5, 2, mc_X5_has), (yX5_has, cX5_has, 2, (some .boolean))) = true := by decide +kernel
theorem ck_X5_at : ms_ck ((5, 2, mc_X5_at), (yX5_at, cX5_at, 2, (some .int))) = true := by decide +kernel
theorem ck_X5_write : ms_ck ((5, 3, mc_X5_write), (yX5_write, cX5_write, 3, none)) = true := by decide +kernel
theorem ck_X6_init : ms_ck ((6, 1, mc_X6_init), (yX6_init, cX6_init, 1, none)) = true := by decide +kernel
theorem ck_X6_append : ms_ck ((6, 4, mc_X6_append), (yX6_append, cX6_append, 4, (some .boolean))) = true := by decide +kernel
theorem ck_X6_at : ms_ck ((6, 2, mc_X6_at), (yX6_at, cX6_at, 2, (some .int))) = true := by decide +kernel
theorem ck_X6_isLetter : ms_ck ((6, 3, mc_X6_isLetter), (yX6_isLetter, cX6_isLetter, 3, (some .boolean))) = true := by decide +kernel
theorem ck_X6_isFigure : ms_ck ((6, 3, mc_X6_isFigure), (yX6_isFigure, cX6_isFigure, 3, (some .boolean))) = true := by decide +kernel
theorem ck_X6_spells : ms_ck ((6, 5, mc_X6_spells), (yX6_spells, cX6_spells, 5, (some .boolean))) = true := by decide +kernel
theorem ck_X7_init : ms_ck ((7, 1, mc_X7_init), (yX7_init, cX7_init, 1, none)) = true := by decide +kernel
theorem ck_X7_has : ms_ck ((7, 2, mc_X7_has), (yX7_has, cX7_has, 2, (some .boolean))) = true := by decide +kernel
theorem ck_X7_familyOf : ms_ck ((7, 2, mc_X7_familyOf), (yX7_familyOf, cX7_familyOf, 2, (some .int))) = true := by decide +kernel
theorem ck_X7_fromOf : ms_ck ((7, 2, mc_X7_fromOf), (yX7_fromOf, cX7_fromOf, 2, (some .int))) = true := by decide +kernel
theorem ck_X7_toOf : ms_ck ((7, 2, mc_X7_toOf), (yX7_toOf, cX7_toOf, 2, (some .int))) = true := by decide +kernel
theorem ck_X7_add : ms_ck ((7, 4, mc_X7_add), (yX7_add, cX7_add, 4, (some .boolean))) = true := by decide +kernel
theorem ck_X7_remove : ms_ck ((7, 3, mc_X7_remove), (yX7_remove, cX7_remove, 3, none)) = true := by decide +kernel
theorem ck_X7_areOf : ms_ck ((7, 3, mc_X7_areOf), (yX7_areOf, cX7_areOf, 3, (some .boolean))) = true := by decide +kernel
theorem ck_X8_init : ms_ck ((8, 1, mc_X8_init), (yX8_init, cX8_init, 1, none)) = true := by decide +kernel
theorem ck_X8_feed : ms_ck ((8, 3, mc_X8_feed), (yX8_feed, cX8_feed, 3, (some .int))) = true := by decide +kernel
theorem ck_X8_end : ms_ck ((8, 3, mc_X8_end), (yX8_end, cX8_end, 3, (some .int))) = true := by decide +kernel
theorem ck_X8_vote : ms_ck ((8, 3, mc_X8_vote), (yX8_vote, cX8_vote, 3, (some .int))) = true := by decide +kernel
theorem ck_X8_fault : ms_ck ((8, 1, mc_X8_fault), (yX8_fault, cX8_fault, 1, (some .int))) = true := by decide +kernel
theorem ck_X8_unwind : ms_ck ((8, 1, mc_X8_unwind), (yX8_unwind, cX8_unwind, 1, (some .int))) = true := by decide +kernel
theorem ck_X8_rule : ms_ck ((8, 3, mc_X8_rule), (yX8_rule, cX8_rule, 3, (some .int))) = true := by decide +kernel
theorem ck_X8_go : ms_ck ((8, 3, mc_X8_go), (yX8_go, cX8_go, 3, (some .int))) = true := by decide +kernel
theorem ck_X8_join : ms_ck ((8, 3, mc_X8_join), (yX8_join, cX8_join, 3, (some .int))) = true := by decide +kernel
theorem ck_X8_leave : ms_ck ((8, 4, mc_X8_leave), (yX8_leave, cX8_leave, 4, (some .int))) = true := by decide +kernel
theorem ck_X8_bar : ms_ck ((8, 6, mc_X8_bar), (yX8_bar, cX8_bar, 6, (some .int))) = true := by decide +kernel
theorem ck_X8_told : ms_ck ((8, 4, mc_X8_told), (yX8_told, cX8_told, 4, (some .int))) = true := by decide +kernel
theorem ck_X8_ask : ms_ck ((8, 4, mc_X8_ask), (yX8_ask, cX8_ask, 4, (some .int))) = true := by decide +kernel
theorem ck_X8_offer : ms_ck ((8, 4, mc_X8_offer), (yX8_offer, cX8_offer, 4, (some .int))) = true := by decide +kernel
theorem ck_X8_price : ms_ck ((8, 2, mc_X8_price), (yX8_price, cX8_price, 2, (some .int))) = true := by decide +kernel
theorem ck_X8_fits : ms_ck ((8, 3, mc_X8_fits), (yX8_fits, cX8_fits, 3, (some .int))) = true := by decide +kernel
theorem ck_X8_met : ms_ck ((8, 1, mc_X8_met), (yX8_met, cX8_met, 1, (some .int))) = true := by decide +kernel
theorem ck_X8_sitter : ms_ck ((8, 2, mc_X8_sitter), (yX8_sitter, cX8_sitter, 2, (some .int))) = true := by decide +kernel
theorem ck_X8_why : ms_ck ((8, 2, mc_X8_why), (yX8_why, cX8_why, 2, (some .int))) = true := by decide +kernel
theorem ck_X8_would : ms_ck ((8, 2, mc_X8_would), (yX8_would, cX8_would, 2, (some .int))) = true := by decide +kernel
theorem ck_X8_broken : ms_ck ((8, 4, mc_X8_broken), (yX8_broken, cX8_broken, 4, (some .int))) = true := by decide +kernel
theorem ck_X8_evening : ms_ck ((8, 3, mc_X8_evening), (yX8_evening, cX8_evening, 3, (some .int))) = true := by decide +kernel
theorem ck_X8_sheet : ms_ck ((8, 4, mc_X8_sheet), (yX8_sheet, cX8_sheet, 4, (some .int))) = true := by decide +kernel
theorem ck_X8_lay : ms_ck ((8, 5, mc_X8_lay), (yX8_lay, cX8_lay, 5, (some .int))) = true := by decide +kernel
theorem ck_X8_offers : ms_ck ((8, 9, mc_X8_offers), (yX8_offers, cX8_offers, 9, (some .int))) = true := by decide +kernel
theorem ck_X8_count : ms_ck ((8, 2, mc_X8_count), (yX8_count, cX8_count, 2, (some .int))) = true := by decide +kernel
theorem ck_X8_familyAt : ms_ck ((8, 2, mc_X8_familyAt), (yX8_familyAt, cX8_familyAt, 2, (some (.object "SitterCircle$Family")))) = true := by decide +kernel
theorem ck_X8_expireNotes : ms_ck ((8, 6, mc_X8_expireNotes), (yX8_expireNotes, cX8_expireNotes, 6, none)) = true := by decide +kernel
theorem ck_X8_familiesHere : ms_ck ((8, 6, mc_X8_familiesHere), (yX8_familiesHere, cX8_familiesHere, 6, (some .int))) = true := by decide +kernel
theorem ck_X8_sumTold : ms_ck ((8, 4, mc_X8_sumTold), (yX8_sumTold, cX8_sumTold, 4, (some .int))) = true := by decide +kernel
theorem ck_X8_addVisit : ms_ck ((8, 5, mc_X8_addVisit), (yX8_addVisit, cX8_addVisit, 5, (some .int))) = true := by decide +kernel
theorem ck_X8_priceOf : ms_ck ((8, 6, mc_X8_priceOf), (yX8_priceOf, cX8_priceOf, 6, (some .int))) = true := by decide +kernel
theorem ck_X8_areFitting : ms_ck ((8, 9, mc_X8_areFitting), (yX8_areFitting, cX8_areFitting, 9, (some .boolean))) = true := by decide +kernel
theorem ck_X8_lookForFits : ms_ck ((8, 4, mc_X8_lookForFits), (yX8_lookForFits, cX8_lookForFits, 4, none)) = true := by decide +kernel
theorem ck_X8_mostPairs : ms_ck ((8, 2, mc_X8_mostPairs), (yX8_mostPairs, cX8_mostPairs, 2, (some .int))) = true := by decide +kernel
theorem ck_X8_findTheMatch : ms_ck ((8, 1, mc_X8_findTheMatch), (yX8_findTheMatch, cX8_findTheMatch, 1, none)) = true := by decide +kernel
theorem ck_X8_hold : ms_ck ((8, 6, mc_X8_hold), (yX8_hold, cX8_hold, 6, (some .boolean))) = true := by decide +kernel
theorem ck_X8_pay : ms_ck ((8, 5, mc_X8_pay), (yX8_pay, cX8_pay, 5, none)) = true := by decide +kernel
theorem ck_X8_isSheet : ms_ck ((8, 1, mc_X8_isSheet), (yX8_isSheet, cX8_isSheet, 1, (some .boolean))) = true := by decide +kernel
theorem ck_X8_isLane : ms_ck ((8, 1, mc_X8_isLane), (yX8_isLane, cX8_isLane, 1, (some .boolean))) = true := by decide +kernel
theorem ck_X8_offerFrom : ms_ck ((8, 4, mc_X8_offerFrom), (yX8_offerFrom, cX8_offerFrom, 4, (some .int))) = true := by decide +kernel
theorem ck_X9_init : ms_ck ((9, 2, mc_X9_init), (yX9_init, cX9_init, 2, none)) = true := by decide +kernel
theorem ck_X9_in : ms_ck ((9, 6, mc_X9_in), (yX9_in, cX9_in, 6, (some .boolean))) = true := by decide +kernel
theorem ck_X9_feed : ms_ck ((9, 4, mc_X9_feed), (yX9_feed, cX9_feed, 4, (some .int))) = true := by decide +kernel
theorem ck_X9_end : ms_ck ((9, 3, mc_X9_end), (yX9_end, cX9_end, 3, (some .int))) = true := by decide +kernel
theorem ck_X9_fails : ms_ck ((9, 3, mc_X9_fails), (yX9_fails, cX9_fails, 3, none)) = true := by decide +kernel
theorem ck_X9_look : ms_ck ((9, 2, mc_X9_look), (yX9_look, cX9_look, 2, (some .int))) = true := by decide +kernel
theorem ck_X9_isName : ms_ck ((9, 8, mc_X9_isName), (yX9_isName, cX9_isName, 8, (some .boolean))) = true := by decide +kernel
theorem ck_X9_nameNow : ms_ck ((9, 1, mc_X9_nameNow), (yX9_nameNow, cX9_nameNow, 1, (some .int))) = true := by decide +kernel
theorem ck_X9_next : ms_ck ((9, 2, mc_X9_next), (yX9_next, cX9_next, 2, none)) = true := by decide +kernel
theorem ck_X9_readLaw : ms_ck ((9, 3, mc_X9_readLaw), (yX9_readLaw, cX9_readLaw, 3, none)) = true := by decide +kernel
theorem ck_X9_vote : ms_ck ((9, 4, mc_X9_vote), (yX9_vote, cX9_vote, 4, (some .int))) = true := by decide +kernel
theorem ck_X9_fault : ms_ck ((9, 1, mc_X9_fault), (yX9_fault, cX9_fault, 1, (some .int))) = true := by decide +kernel
theorem ck_X9_unwind : ms_ck ((9, 1, mc_X9_unwind), (yX9_unwind, cX9_unwind, 1, (some .int))) = true := by decide +kernel
theorem ck_X9_textOf : ms_ck ((9, 4, mc_X9_textOf), (yX9_textOf, cX9_textOf, 4, (some .int))) = true := by decide +kernel
theorem ck_X9_law : ms_ck ((9, 5, mc_X9_law), (yX9_law, cX9_law, 5, (some .int))) = true := by decide +kernel
theorem ck_X9_rule : ms_ck ((9, 3, mc_X9_rule), (yX9_rule, cX9_rule, 3, (some .int))) = true := by decide +kernel
theorem ck_X9_isFamily : ms_ck ((9, 2, mc_X9_isFamily), (yX9_isFamily, cX9_isFamily, 2, (some .boolean))) = true := by decide +kernel
theorem ck_X9_expires : ms_ck ((9, 4, mc_X9_expires), (yX9_expires, cX9_expires, 4, none)) = true := by decide +kernel
theorem ck_X9_go : ms_ck ((9, 3, mc_X9_go), (yX9_go, cX9_go, 3, (some .int))) = true := by decide +kernel
theorem ck_X9_has : ms_ck ((9, 4, mc_X9_has), (yX9_has, cX9_has, 4, (some .int))) = true := by decide +kernel
theorem ck_X9_join : ms_ck ((9, 3, mc_X9_join), (yX9_join, cX9_join, 3, (some .int))) = true := by decide +kernel
theorem ck_X9_leave : ms_ck ((9, 5, mc_X9_leave), (yX9_leave, cX9_leave, 5, (some .int))) = true := by decide +kernel
theorem ck_X9_bar : ms_ck ((9, 5, mc_X9_bar), (yX9_bar, cX9_bar, 5, (some .int))) = true := by decide +kernel
theorem ck_X9_oldest : ms_ck ((9, 3, mc_X9_oldest), (yX9_oldest, cX9_oldest, 3, (some .int))) = true := by decide +kernel
theorem ck_X9_told : ms_ck ((9, 4, mc_X9_told), (yX9_told, cX9_told, 4, (some .int))) = true := by decide +kernel
theorem ck_X9_may : ms_ck ((9, 5, mc_X9_may), (yX9_may, cX9_may, 5, (some .boolean))) = true := by decide +kernel
theorem ck_X9_pays : ms_ck ((9, 8, mc_X9_pays), (yX9_pays, cX9_pays, 8, none)) = true := by decide +kernel
theorem ck_X9_isSpan : ms_ck ((9, 4, mc_X9_isSpan), (yX9_isSpan, cX9_isSpan, 4, (some .boolean))) = true := by decide +kernel
theorem ck_X9_ask : ms_ck ((9, 4, mc_X9_ask), (yX9_ask, cX9_ask, 4, (some .int))) = true := by decide +kernel
theorem ck_X9_offer : ms_ck ((9, 4, mc_X9_offer), (yX9_offer, cX9_offer, 4, (some .int))) = true := by decide +kernel
theorem ck_X9_priceOf : ms_ck ((9, 5, mc_X9_priceOf), (yX9_priceOf, cX9_priceOf, 5, (some .int))) = true := by decide +kernel
theorem ck_X9_price : ms_ck ((9, 2, mc_X9_price), (yX9_price, cX9_price, 2, (some .int))) = true := by decide +kernel
theorem ck_X9_isFit : ms_ck ((9, 6, mc_X9_isFit), (yX9_isFit, cX9_isFit, 6, (some .boolean))) = true := by decide +kernel
theorem ck_X9_fits : ms_ck ((9, 3, mc_X9_fits), (yX9_fits, cX9_fits, 3, (some .int))) = true := by decide +kernel
theorem ck_X9_findFits : ms_ck ((9, 4, mc_X9_findFits), (yX9_findFits, cX9_findFits, 4, none)) = true := by decide +kernel
theorem ck_X9_grows : ms_ck ((9, 7, mc_X9_grows), (yX9_grows, cX9_grows, 7, (some .boolean))) = true := by decide +kernel
theorem ck_X9_change : ms_ck ((9, 5, mc_X9_change), (yX9_change, cX9_change, 5, none)) = true := by decide +kernel
theorem ck_X9_most : ms_ck ((9, 5, mc_X9_most), (yX9_most, cX9_most, 5, (some .int))) = true := by decide +kernel
theorem ck_X9_matches : ms_ck ((9, 6, mc_X9_matches), (yX9_matches, cX9_matches, 6, (some .int))) = true := by decide +kernel
theorem ck_X9_met : ms_ck ((9, 1, mc_X9_met), (yX9_met, cX9_met, 1, (some .int))) = true := by decide +kernel
theorem ck_X9_sitter : ms_ck ((9, 2, mc_X9_sitter), (yX9_sitter, cX9_sitter, 2, (some .int))) = true := by decide +kernel
theorem ck_X9_why : ms_ck ((9, 7, mc_X9_why), (yX9_why, cX9_why, 7, (some .int))) = true := by decide +kernel
theorem ck_X9_would : ms_ck ((9, 2, mc_X9_would), (yX9_would, cX9_would, 2, (some .int))) = true := by decide +kernel
theorem ck_X9_broken : ms_ck ((9, 4, mc_X9_broken), (yX9_broken, cX9_broken, 4, (some .int))) = true := by decide +kernel
theorem ck_X9_evening : ms_ck ((9, 6, mc_X9_evening), (yX9_evening, cX9_evening, 6, (some .int))) = true := by decide +kernel
theorem ck_X9_isSheet : ms_ck ((9, 2, mc_X9_isSheet), (yX9_isSheet, cX9_isSheet, 2, (some .boolean))) = true := by decide +kernel
theorem ck_X9_sheet : ms_ck ((9, 5, mc_X9_sheet), (yX9_sheet, cX9_sheet, 5, (some .int))) = true := by decide +kernel
theorem ck_X9_lay : ms_ck ((9, 4, mc_X9_lay), (yX9_lay, cX9_lay, 4, (some .int))) = true := by decide +kernel
theorem ck_X9_offers : ms_ck ((9, 12, mc_X9_offers), (yX9_offers, cX9_offers, 12, (some .int))) = true := by decide +kernel
theorem ck_X9_count : ms_ck ((9, 6, mc_X9_count), (yX9_count, cX9_count, 6, (some .int))) = true := by decide +kernel
theorem ck_J7_fill_53178 : ms_ck ((99, 4, mc_J7_fill_53178), (yJ7_fill_53178, cJ7_fill_53178, 4, none)) = true := by decide +kernel
def ck_l0 : List (mm_M × mm_I) := [((0, 1, mc_X0_init), (yX0_init, cX0_init, 1, none)), ((0, 2, mc_X0_doesBar), (yX0_doesBar, cX0_doesBar, 2, (some .boolean))), ((0, 3, mc_X0_setBar), (yX0_setBar, cX0_setBar, 3, none)), ((0, 2, mc_X0_wouldOwe), (yX0_wouldOwe, cX0_wouldOwe, 2, (some .int))), ((0, 2, mc_X0_settle), (yX0_settle, cX0_settle, 2, (some .int))), ((1, 1, mc_X1_init), (yX1_init, cX1_init, 1, none)), ((1, 1, mc_X1_isFull), (yX1_isFull, cX1_isFull, 1, (some .boolean))), ((1, 4, mc_X1_add), (yX1_add, cX1_add, 4, (some .int))), ((1, 1, mc_X1_latestDay), (yX1_latestDay, cX1_latestDay, 1, (some .int))), ((1, 4, mc_X1_textOf), (yX1_textOf, cX1_textOf, 4, (some .int))), ((1, 5, mc_X1_lawOf), (yX1_lawOf, cX1_lawOf, 5, (some .int))), ((2, 1, mc_X2_init), (yX2_init, cX2_init, 1, none)), ((2, 3, mc_X2_begin), (yX2_begin, cX2_begin, 3, none)), ((2, 3, mc_X2_addFit), (yX2_addFit, cX2_addFit, 3, none)), ((2, 2, mc_X2_offerOf), (yX2_offerOf, cX2_offerOf, 2, (some .int))), ((2, 1, mc_X2_mostPairsOfAll), (yX2_mostPairsOfAll, cX2_mostPairsOfAll, 1, (some .int)))]
theorem ck_r0 : ∀ x ∈ ck_l0, ms_ck x = true := (List.forall_mem_cons.mpr ⟨ck_X0_init, (List.forall_mem_cons.mpr ⟨ck_X0_doesBar, (List.forall_mem_cons.mpr ⟨ck_X0_setBar, (List.forall_mem_cons.mpr ⟨ck_X0_wouldOwe, (List.forall_mem_cons.mpr ⟨ck_X0_settle, (List.forall_mem_cons.mpr ⟨ck_X1_init, (List.forall_mem_cons.mpr ⟨ck_X1_isFull, (List.forall_mem_cons.mpr ⟨ck_X1_add, (List.forall_mem_cons.mpr ⟨ck_X1_latestDay, (List.forall_mem_cons.mpr ⟨ck_X1_textOf, (List.forall_mem_cons.mpr ⟨ck_X1_lawOf, (List.forall_mem_cons.mpr ⟨ck_X2_init, (List.forall_mem_cons.mpr ⟨ck_X2_begin, (List.forall_mem_cons.mpr ⟨ck_X2_addFit, (List.forall_mem_cons.mpr ⟨ck_X2_offerOf, (List.forall_mem_cons.mpr ⟨ck_X2_mostPairsOfAll, (fun _ h => absurd h List.not_mem_nil)⟩)⟩)⟩)⟩)⟩)⟩)⟩)⟩)⟩)⟩)⟩)⟩)⟩)⟩)⟩)⟩)
def ck_l1 : List (mm_M × mm_I) := [((2, 1, mc_X2_allOffers), (yX2_allOffers, cX2_allOffers, 1, (some .int))), ((2, 5, mc_X2_mostPairsFrom), (yX2_mostPairsFrom, cX2_mostPairsFrom, 5, (some .int))), ((2, 6, mc_X2_takeOne), (yX2_takeOne, cX2_takeOne, 6, (some .boolean))), ((2, 4, mc_X2_match), (yX2_match, cX2_match, 4, none)), ((2, 7, mc_X2_leastOffer), (yX2_leastOffer, cX2_leastOffer, 7, (some .int))), ((2, 2, mc_X2_reach), (yX2_reach, cX2_reach, 2, none)), ((2, 2, mc_X2_reachFurther), (yX2_reachFurther, cX2_reachFurther, 2, none)), ((2, 1, mc_X2_asksNotReached), (yX2_asksNotReached, cX2_asksNotReached, 1, (some .int))), ((3, 1, mc_X3_init), (yX3_init, cX3_init, 1, none)), ((3, 1, mc_X3_oldestDay), (yX3_oldestDay, cX3_oldestDay, 1, (some .int))), ((3, 1, mc_X3_notesOfOldestDay), (yX3_notesOfOldestDay, cX3_notesOfOldestDay, 1, (some .int))), ((3, 4, mc_X3_put), (yX3_put, cX3_put, 4, none)), ((3, 5, mc_X3_insertHeap), (yX3_insertHeap, cX3_insertHeap, 5, none)), ((3, 8, mc_X3_moveOldest), (yX3_moveOldest, cX3_moveOldest, 8, (some .int))), ((3, 5, mc_X3_dropNewest), (yX3_dropNewest, cX3_dropNewest, 5, none)), ((3, 5, mc_X3_dropBefore), (yX3_dropBefore, cX3_dropBefore, 5, (some .int)))]
theorem ck_r1 : ∀ x ∈ ck_l1, ms_ck x = true := (List.forall_mem_cons.mpr ⟨ck_X2_allOffers, (List.forall_mem_cons.mpr ⟨ck_X2_mostPairsFrom, (List.forall_mem_cons.mpr ⟨ck_X2_takeOne, (List.forall_mem_cons.mpr ⟨ck_X2_match, (List.forall_mem_cons.mpr ⟨ck_X2_leastOffer, (List.forall_mem_cons.mpr ⟨ck_X2_reach, (List.forall_mem_cons.mpr ⟨ck_X2_reachFurther, (List.forall_mem_cons.mpr ⟨ck_X2_asksNotReached, (List.forall_mem_cons.mpr ⟨ck_X3_init, (List.forall_mem_cons.mpr ⟨ck_X3_oldestDay, (List.forall_mem_cons.mpr ⟨ck_X3_notesOfOldestDay, (List.forall_mem_cons.mpr ⟨ck_X3_put, (List.forall_mem_cons.mpr ⟨ck_X3_insertHeap, (List.forall_mem_cons.mpr ⟨ck_X3_moveOldest, (List.forall_mem_cons.mpr ⟨ck_X3_dropNewest, (List.forall_mem_cons.mpr ⟨ck_X3_dropBefore, (fun _ h => absurd h List.not_mem_nil)⟩)⟩)⟩)⟩)⟩)⟩)⟩)⟩)⟩)⟩)⟩)⟩)⟩)⟩)⟩)⟩)
def ck_l2 : List (mm_M × mm_I) := [((3, 3, mc_X3_removeOldestHeaps), (yX3_removeOldestHeaps, cX3_removeOldestHeaps, 3, none)), ((4, 1, mc_X4_init), (yX4_init, cX4_init, 1, none)), ((4, 4, mc_X4_read), (yX4_read, cX4_read, 4, none)), ((4, 3, mc_X4_readLaw), (yX4_readLaw, cX4_readLaw, 3, none)), ((4, 2, mc_X4_canStand), (yX4_canStand, cX4_canStand, 2, (some .boolean))), ((4, 2, mc_X4_fail), (yX4_fail, cX4_fail, 2, none)), ((4, 2, mc_X4_scan), (yX4_scan, cX4_scan, 2, none)), ((4, 2, mc_X4_skipBlanks), (yX4_skipBlanks, cX4_skipBlanks, 2, none)), ((4, 3, mc_X4_scanName), (yX4_scanName, cX4_scanName, 3, none)), ((4, 1, mc_X4_nameOf), (yX4_nameOf, cX4_nameOf, 1, (some (.object "java/lang/String")))), ((4, 2, mc_X4_scanNumber), (yX4_scanNumber, cX4_scanNumber, 2, none)), ((5, 3, mc_X5_init), (yX5_init, cX5_init, 3, none)), ((5, 2, mc_X5_has), (yX5_has, cX5_has, 2, (some .boolean))), ((5, 2, mc_X5_at), (yX5_at, cX5_at, 2, (some .int))), ((5, 3, mc_X5_write), (yX5_write, cX5_write, 3, none)), ((6, 1, mc_X6_init), (yX6_init, cX6_init, 1, none))]
theorem ck_r2 : ∀ x ∈ ck_l2, ms_ck x = true := (List.forall_mem_cons.mpr ⟨ck_X3_removeOldestHeaps, (List.forall_mem_cons.mpr ⟨ck_X4_init, (List.forall_mem_cons.mpr ⟨ck_X4_read, (List.forall_mem_cons.mpr ⟨ck_X4_readLaw, (List.forall_mem_cons.mpr ⟨ck_X4_canStand, (List.forall_mem_cons.mpr ⟨ck_X4_fail, (List.forall_mem_cons.mpr ⟨ck_X4_scan, (List.forall_mem_cons.mpr ⟨ck_X4_skipBlanks, (List.forall_mem_cons.mpr ⟨ck_X4_scanName, (List.forall_mem_cons.mpr ⟨ck_X4_nameOf, (List.forall_mem_cons.mpr ⟨ck_X4_scanNumber, (List.forall_mem_cons.mpr ⟨ck_X5_init, (List.forall_mem_cons.mpr ⟨ck_X5_has, (List.forall_mem_cons.mpr ⟨ck_X5_at, (List.forall_mem_cons.mpr ⟨ck_X5_write, (List.forall_mem_cons.mpr ⟨ck_X6_init, (fun _ h => absurd h List.not_mem_nil)⟩)⟩)⟩)⟩)⟩)⟩)⟩)⟩)⟩)⟩)⟩)⟩)⟩)⟩)⟩)⟩)
def ck_l3 : List (mm_M × mm_I) := [((6, 4, mc_X6_append), (yX6_append, cX6_append, 4, (some .boolean))), ((6, 2, mc_X6_at), (yX6_at, cX6_at, 2, (some .int))), ((6, 3, mc_X6_isLetter), (yX6_isLetter, cX6_isLetter, 3, (some .boolean))), ((6, 3, mc_X6_isFigure), (yX6_isFigure, cX6_isFigure, 3, (some .boolean))), ((6, 5, mc_X6_spells), (yX6_spells, cX6_spells, 5, (some .boolean))), ((7, 1, mc_X7_init), (yX7_init, cX7_init, 1, none)), ((7, 2, mc_X7_has), (yX7_has, cX7_has, 2, (some .boolean))), ((7, 2, mc_X7_familyOf), (yX7_familyOf, cX7_familyOf, 2, (some .int))), ((7, 2, mc_X7_fromOf), (yX7_fromOf, cX7_fromOf, 2, (some .int))), ((7, 2, mc_X7_toOf), (yX7_toOf, cX7_toOf, 2, (some .int))), ((7, 4, mc_X7_add), (yX7_add, cX7_add, 4, (some .boolean))), ((7, 3, mc_X7_remove), (yX7_remove, cX7_remove, 3, none)), ((7, 3, mc_X7_areOf), (yX7_areOf, cX7_areOf, 3, (some .boolean))), ((8, 1, mc_X8_init), (yX8_init, cX8_init, 1, none)), ((8, 3, mc_X8_feed), (yX8_feed, cX8_feed, 3, (some .int))), ((8, 3, mc_X8_end), (yX8_end, cX8_end, 3, (some .int)))]
theorem ck_r3 : ∀ x ∈ ck_l3, ms_ck x = true := (List.forall_mem_cons.mpr ⟨ck_X6_append, (List.forall_mem_cons.mpr ⟨ck_X6_at, (List.forall_mem_cons.mpr ⟨ck_X6_isLetter, (List.forall_mem_cons.mpr ⟨ck_X6_isFigure, (List.forall_mem_cons.mpr ⟨ck_X6_spells, (List.forall_mem_cons.mpr ⟨ck_X7_init, (List.forall_mem_cons.mpr ⟨ck_X7_has, (List.forall_mem_cons.mpr ⟨ck_X7_familyOf, (List.forall_mem_cons.mpr ⟨ck_X7_fromOf, (List.forall_mem_cons.mpr ⟨ck_X7_toOf, (List.forall_mem_cons.mpr ⟨ck_X7_add, (List.forall_mem_cons.mpr ⟨ck_X7_remove, (List.forall_mem_cons.mpr ⟨ck_X7_areOf, (List.forall_mem_cons.mpr ⟨ck_X8_init, (List.forall_mem_cons.mpr ⟨ck_X8_feed, (List.forall_mem_cons.mpr ⟨ck_X8_end, (fun _ h => absurd h List.not_mem_nil)⟩)⟩)⟩)⟩)⟩)⟩)⟩)⟩)⟩)⟩)⟩)⟩)⟩)⟩)⟩)⟩)
def ck_l4 : List (mm_M × mm_I) := [((8, 3, mc_X8_vote), (yX8_vote, cX8_vote, 3, (some .int))), ((8, 1, mc_X8_fault), (yX8_fault, cX8_fault, 1, (some .int))), ((8, 1, mc_X8_unwind), (yX8_unwind, cX8_unwind, 1, (some .int))), ((8, 3, mc_X8_rule), (yX8_rule, cX8_rule, 3, (some .int))), ((8, 3, mc_X8_go), (yX8_go, cX8_go, 3, (some .int))), ((8, 3, mc_X8_join), (yX8_join, cX8_join, 3, (some .int))), ((8, 4, mc_X8_leave), (yX8_leave, cX8_leave, 4, (some .int))), ((8, 6, mc_X8_bar), (yX8_bar, cX8_bar, 6, (some .int))), ((8, 4, mc_X8_told), (yX8_told, cX8_told, 4, (some .int))), ((8, 4, mc_X8_ask), (yX8_ask, cX8_ask, 4, (some .int))), ((8, 4, mc_X8_offer), (yX8_offer, cX8_offer, 4, (some .int))), ((8, 2, mc_X8_price), (yX8_price, cX8_price, 2, (some .int))), ((8, 3, mc_X8_fits), (yX8_fits, cX8_fits, 3, (some .int))), ((8, 1, mc_X8_met), (yX8_met, cX8_met, 1, (some .int))), ((8, 2, mc_X8_sitter), (yX8_sitter, cX8_sitter, 2, (some .int))), ((8, 2, mc_X8_why), (yX8_why, cX8_why, 2, (some .int)))]
theorem ck_r4 : ∀ x ∈ ck_l4, ms_ck x = true := (List.forall_mem_cons.mpr ⟨ck_X8_vote, (List.forall_mem_cons.mpr ⟨ck_X8_fault, (List.forall_mem_cons.mpr ⟨ck_X8_unwind, (List.forall_mem_cons.mpr ⟨ck_X8_rule, (List.forall_mem_cons.mpr ⟨ck_X8_go, (List.forall_mem_cons.mpr ⟨ck_X8_join, (List.forall_mem_cons.mpr ⟨ck_X8_leave, (List.forall_mem_cons.mpr ⟨ck_X8_bar, (List.forall_mem_cons.mpr ⟨ck_X8_told, (List.forall_mem_cons.mpr ⟨ck_X8_ask, (List.forall_mem_cons.mpr ⟨ck_X8_offer, (List.forall_mem_cons.mpr ⟨ck_X8_price, (List.forall_mem_cons.mpr ⟨ck_X8_fits, (List.forall_mem_cons.mpr ⟨ck_X8_met, (List.forall_mem_cons.mpr ⟨ck_X8_sitter, (List.forall_mem_cons.mpr ⟨ck_X8_why, (fun _ h => absurd h List.not_mem_nil)⟩)⟩)⟩)⟩)⟩)⟩)⟩)⟩)⟩)⟩)⟩)⟩)⟩)⟩)⟩)⟩)
def ck_l5 : List (mm_M × mm_I) := [((8, 2, mc_X8_would), (yX8_would, cX8_would, 2, (some .int))), ((8, 4, mc_X8_broken), (yX8_broken, cX8_broken, 4, (some .int))), ((8, 3, mc_X8_evening), (yX8_evening, cX8_evening, 3, (some .int))), ((8, 4, mc_X8_sheet), (yX8_sheet, cX8_sheet, 4, (some .int))), ((8, 5, mc_X8_lay), (yX8_lay, cX8_lay, 5, (some .int))), ((8, 9, mc_X8_offers), (yX8_offers, cX8_offers, 9, (some .int))), ((8, 2, mc_X8_count), (yX8_count, cX8_count, 2, (some .int))), ((8, 2, mc_X8_familyAt), (yX8_familyAt, cX8_familyAt, 2, (some (.object "SitterCircle$Family")))), ((8, 6, mc_X8_expireNotes), (yX8_expireNotes, cX8_expireNotes, 6, none)), ((8, 6, mc_X8_familiesHere), (yX8_familiesHere, cX8_familiesHere, 6, (some .int))), ((8, 4, mc_X8_sumTold), (yX8_sumTold, cX8_sumTold, 4, (some .int))), ((8, 5, mc_X8_addVisit), (yX8_addVisit, cX8_addVisit, 5, (some .int))), ((8, 6, mc_X8_priceOf), (yX8_priceOf, cX8_priceOf, 6, (some .int))), ((8, 9, mc_X8_areFitting), (yX8_areFitting, cX8_areFitting, 9, (some .boolean))), ((8, 4, mc_X8_lookForFits), (yX8_lookForFits, cX8_lookForFits, 4, none)), ((8, 2, mc_X8_mostPairs), (yX8_mostPairs, cX8_mostPairs, 2, (some .int)))]
theorem ck_r5 : ∀ x ∈ ck_l5, ms_ck x = true := (List.forall_mem_cons.mpr ⟨ck_X8_would, (List.forall_mem_cons.mpr ⟨ck_X8_broken, (List.forall_mem_cons.mpr ⟨ck_X8_evening, (List.forall_mem_cons.mpr ⟨ck_X8_sheet, (List.forall_mem_cons.mpr ⟨ck_X8_lay, (List.forall_mem_cons.mpr ⟨ck_X8_offers, (List.forall_mem_cons.mpr ⟨ck_X8_count, (List.forall_mem_cons.mpr ⟨ck_X8_familyAt, (List.forall_mem_cons.mpr ⟨ck_X8_expireNotes, (List.forall_mem_cons.mpr ⟨ck_X8_familiesHere, (List.forall_mem_cons.mpr ⟨ck_X8_sumTold, (List.forall_mem_cons.mpr ⟨ck_X8_addVisit, (List.forall_mem_cons.mpr ⟨ck_X8_priceOf, (List.forall_mem_cons.mpr ⟨ck_X8_areFitting, (List.forall_mem_cons.mpr ⟨ck_X8_lookForFits, (List.forall_mem_cons.mpr ⟨ck_X8_mostPairs, (fun _ h => absurd h List.not_mem_nil)⟩)⟩)⟩)⟩)⟩)⟩)⟩)⟩)⟩)⟩)⟩)⟩)⟩)⟩)⟩)⟩)
def ck_l6 : List (mm_M × mm_I) := [((8, 1, mc_X8_findTheMatch), (yX8_findTheMatch, cX8_findTheMatch, 1, none)), ((8, 6, mc_X8_hold), (yX8_hold, cX8_hold, 6, (some .boolean))), ((8, 5, mc_X8_pay), (yX8_pay, cX8_pay, 5, none)), ((8, 1, mc_X8_isSheet), (yX8_isSheet, cX8_isSheet, 1, (some .boolean))), ((8, 1, mc_X8_isLane), (yX8_isLane, cX8_isLane, 1, (some .boolean))), ((8, 4, mc_X8_offerFrom), (yX8_offerFrom, cX8_offerFrom, 4, (some .int))), ((9, 2, mc_X9_init), (yX9_init, cX9_init, 2, none)), ((9, 6, mc_X9_in), (yX9_in, cX9_in, 6, (some .boolean))), ((9, 4, mc_X9_feed), (yX9_feed, cX9_feed, 4, (some .int))), ((9, 3, mc_X9_end), (yX9_end, cX9_end, 3, (some .int))), ((9, 3, mc_X9_fails), (yX9_fails, cX9_fails, 3, none)), ((9, 2, mc_X9_look), (yX9_look, cX9_look, 2, (some .int))), ((9, 8, mc_X9_isName), (yX9_isName, cX9_isName, 8, (some .boolean))), ((9, 1, mc_X9_nameNow), (yX9_nameNow, cX9_nameNow, 1, (some .int))), ((9, 2, mc_X9_next), (yX9_next, cX9_next, 2, none)), ((9, 3, mc_X9_readLaw), (yX9_readLaw, cX9_readLaw, 3, none))]
theorem ck_r6 : ∀ x ∈ ck_l6, ms_ck x = true := (List.forall_mem_cons.mpr ⟨ck_X8_findTheMatch, (List.forall_mem_cons.mpr ⟨ck_X8_hold, (List.forall_mem_cons.mpr ⟨ck_X8_pay, (List.forall_mem_cons.mpr ⟨ck_X8_isSheet, (List.forall_mem_cons.mpr ⟨ck_X8_isLane, (List.forall_mem_cons.mpr ⟨ck_X8_offerFrom, (List.forall_mem_cons.mpr ⟨ck_X9_init, (List.forall_mem_cons.mpr ⟨ck_X9_in, (List.forall_mem_cons.mpr ⟨ck_X9_feed, (List.forall_mem_cons.mpr ⟨ck_X9_end, (List.forall_mem_cons.mpr ⟨ck_X9_fails, (List.forall_mem_cons.mpr ⟨ck_X9_look, (List.forall_mem_cons.mpr ⟨ck_X9_isName, (List.forall_mem_cons.mpr ⟨ck_X9_nameNow, (List.forall_mem_cons.mpr ⟨ck_X9_next, (List.forall_mem_cons.mpr ⟨ck_X9_readLaw, (fun _ h => absurd h List.not_mem_nil)⟩)⟩)⟩)⟩)⟩)⟩)⟩)⟩)⟩)⟩)⟩)⟩)⟩)⟩)⟩)⟩)
def ck_l7 : List (mm_M × mm_I) := [((9, 4, mc_X9_vote), (yX9_vote, cX9_vote, 4, (some .int))), ((9, 1, mc_X9_fault), (yX9_fault, cX9_fault, 1, (some .int))), ((9, 1, mc_X9_unwind), (yX9_unwind, cX9_unwind, 1, (some .int))), ((9, 4, mc_X9_textOf), (yX9_textOf, cX9_textOf, 4, (some .int))), ((9, 5, mc_X9_law), (yX9_law, cX9_law, 5, (some .int))), ((9, 3, mc_X9_rule), (yX9_rule, cX9_rule, 3, (some .int))), ((9, 2, mc_X9_isFamily), (yX9_isFamily, cX9_isFamily, 2, (some .boolean))), ((9, 4, mc_X9_expires), (yX9_expires, cX9_expires, 4, none)), ((9, 3, mc_X9_go), (yX9_go, cX9_go, 3, (some .int))), ((9, 4, mc_X9_has), (yX9_has, cX9_has, 4, (some .int))), ((9, 3, mc_X9_join), (yX9_join, cX9_join, 3, (some .int))), ((9, 5, mc_X9_leave), (yX9_leave, cX9_leave, 5, (some .int))), ((9, 5, mc_X9_bar), (yX9_bar, cX9_bar, 5, (some .int))), ((9, 3, mc_X9_oldest), (yX9_oldest, cX9_oldest, 3, (some .int))), ((9, 4, mc_X9_told), (yX9_told, cX9_told, 4, (some .int))), ((9, 5, mc_X9_may), (yX9_may, cX9_may, 5, (some .boolean)))]
theorem ck_r7 : ∀ x ∈ ck_l7, ms_ck x = true := (List.forall_mem_cons.mpr ⟨ck_X9_vote, (List.forall_mem_cons.mpr ⟨ck_X9_fault, (List.forall_mem_cons.mpr ⟨ck_X9_unwind, (List.forall_mem_cons.mpr ⟨ck_X9_textOf, (List.forall_mem_cons.mpr ⟨ck_X9_law, (List.forall_mem_cons.mpr ⟨ck_X9_rule, (List.forall_mem_cons.mpr ⟨ck_X9_isFamily, (List.forall_mem_cons.mpr ⟨ck_X9_expires, (List.forall_mem_cons.mpr ⟨ck_X9_go, (List.forall_mem_cons.mpr ⟨ck_X9_has, (List.forall_mem_cons.mpr ⟨ck_X9_join, (List.forall_mem_cons.mpr ⟨ck_X9_leave, (List.forall_mem_cons.mpr ⟨ck_X9_bar, (List.forall_mem_cons.mpr ⟨ck_X9_oldest, (List.forall_mem_cons.mpr ⟨ck_X9_told, (List.forall_mem_cons.mpr ⟨ck_X9_may, (fun _ h => absurd h List.not_mem_nil)⟩)⟩)⟩)⟩)⟩)⟩)⟩)⟩)⟩)⟩)⟩)⟩)⟩)⟩)⟩)⟩)
def ck_l8 : List (mm_M × mm_I) := [((9, 8, mc_X9_pays), (yX9_pays, cX9_pays, 8, none)), ((9, 4, mc_X9_isSpan), (yX9_isSpan, cX9_isSpan, 4, (some .boolean))), ((9, 4, mc_X9_ask), (yX9_ask, cX9_ask, 4, (some .int))), ((9, 4, mc_X9_offer), (yX9_offer, cX9_offer, 4, (some .int))), ((9, 5, mc_X9_priceOf), (yX9_priceOf, cX9_priceOf, 5, (some .int))), ((9, 2, mc_X9_price), (yX9_price, cX9_price, 2, (some .int))), ((9, 6, mc_X9_isFit), (yX9_isFit, cX9_isFit, 6, (some .boolean))), ((9, 3, mc_X9_fits), (yX9_fits, cX9_fits, 3, (some .int))), ((9, 4, mc_X9_findFits), (yX9_findFits, cX9_findFits, 4, none)), ((9, 7, mc_X9_grows), (yX9_grows, cX9_grows, 7, (some .boolean))), ((9, 5, mc_X9_change), (yX9_change, cX9_change, 5, none)), ((9, 5, mc_X9_most), (yX9_most, cX9_most, 5, (some .int))), ((9, 6, mc_X9_matches), (yX9_matches, cX9_matches, 6, (some .int))), ((9, 1, mc_X9_met), (yX9_met, cX9_met, 1, (some .int))), ((9, 2, mc_X9_sitter), (yX9_sitter, cX9_sitter, 2, (some .int))), ((9, 7, mc_X9_why), (yX9_why, cX9_why, 7, (some .int)))]
theorem ck_r8 : ∀ x ∈ ck_l8, ms_ck x = true := (List.forall_mem_cons.mpr ⟨ck_X9_pays, (List.forall_mem_cons.mpr ⟨ck_X9_isSpan, (List.forall_mem_cons.mpr ⟨ck_X9_ask, (List.forall_mem_cons.mpr ⟨ck_X9_offer, (List.forall_mem_cons.mpr ⟨ck_X9_priceOf, (List.forall_mem_cons.mpr ⟨ck_X9_price, (List.forall_mem_cons.mpr ⟨ck_X9_isFit, (List.forall_mem_cons.mpr ⟨ck_X9_fits, (List.forall_mem_cons.mpr ⟨ck_X9_findFits, (List.forall_mem_cons.mpr ⟨ck_X9_grows, (List.forall_mem_cons.mpr ⟨ck_X9_change, (List.forall_mem_cons.mpr ⟨ck_X9_most, (List.forall_mem_cons.mpr ⟨ck_X9_matches, (List.forall_mem_cons.mpr ⟨ck_X9_met, (List.forall_mem_cons.mpr ⟨ck_X9_sitter, (List.forall_mem_cons.mpr ⟨ck_X9_why, (fun _ h => absurd h List.not_mem_nil)⟩)⟩)⟩)⟩)⟩)⟩)⟩)⟩)⟩)⟩)⟩)⟩)⟩)⟩)⟩)⟩)
def ck_l9 : List (mm_M × mm_I) := [((9, 2, mc_X9_would), (yX9_would, cX9_would, 2, (some .int))), ((9, 4, mc_X9_broken), (yX9_broken, cX9_broken, 4, (some .int))), ((9, 6, mc_X9_evening), (yX9_evening, cX9_evening, 6, (some .int))), ((9, 2, mc_X9_isSheet), (yX9_isSheet, cX9_isSheet, 2, (some .boolean))), ((9, 5, mc_X9_sheet), (yX9_sheet, cX9_sheet, 5, (some .int))), ((9, 4, mc_X9_lay), (yX9_lay, cX9_lay, 4, (some .int))), ((9, 12, mc_X9_offers), (yX9_offers, cX9_offers, 12, (some .int))), ((9, 6, mc_X9_count), (yX9_count, cX9_count, 6, (some .int))), ((99, 4, mc_J7_fill_53178), (yJ7_fill_53178, cJ7_fill_53178, 4, none))]
theorem ck_r9 : ∀ x ∈ ck_l9, ms_ck x = true := (List.forall_mem_cons.mpr ⟨ck_X9_would, (List.forall_mem_cons.mpr ⟨ck_X9_broken, (List.forall_mem_cons.mpr ⟨ck_X9_evening, (List.forall_mem_cons.mpr ⟨ck_X9_isSheet, (List.forall_mem_cons.mpr ⟨ck_X9_sheet, (List.forall_mem_cons.mpr ⟨ck_X9_lay, (List.forall_mem_cons.mpr ⟨ck_X9_offers, (List.forall_mem_cons.mpr ⟨ck_X9_count, (List.forall_mem_cons.mpr ⟨ck_J7_fill_53178, (fun _ h => absurd h List.not_mem_nil)⟩)⟩)⟩)⟩)⟩)⟩)⟩)⟩)⟩)
set_option maxRecDepth 100000 in
theorem ck_zip : List.zip mm_tab mm_is = ck_l0 ++ ck_l1 ++ ck_l2 ++ ck_l3 ++ ck_l4 ++ ck_l5 ++ ck_l6 ++ ck_l7 ++ ck_l8 ++ ck_l9 := by rfl
theorem ck_all : ∀ x ∈ List.zip mm_tab mm_is, ms_ck x = true := by
  rw [ck_zip]
  intro x hx
  simp only [List.mem_append] at hx
  rcases hx with (((((((((h) | h) | h) | h) | h) | h) | h) | h) | h) | h
  · exact ck_r0 x h
  · exact ck_r1 x h
  · exact ck_r2 x h
  · exact ck_r3 x h
  · exact ck_r4 x h
  · exact ck_r5 x h
  · exact ck_r6 x h
  · exact ck_r7 x h
  · exact ck_r8 x h
  · exact ck_r9 x h
theorem ms_all : ms_All := by
  intro y M q hM hq
  have hM : mm_tab[y]? = some M := hM
  have hz : (List.zip mm_tab mm_is)[y]? = some (M, q) := by
    rw [List.getElem?_zip_eq_some]
    exact ⟨hM, hq⟩
  have h := ck_all (M, q) (List.mem_of_getElem? hz)
  unfold ms_ck at h
  rw [Bool.and_eq_true, Bool.and_eq_true] at h
  refine ⟨h.1.1, of_decide_eq_true h.1.2, fun e he => ?_⟩
  have h1 := List.all_eq_true.mp h.2 e he
  rw [Bool.and_eq_true] at h1
  exact h1
set_option maxRecDepth 100000 in
theorem ms_okb : ms_okB := by
  intro y q hq hne hlt
  by_cases h : y < 153
  · have hm : y < mm_tab.length := by
      have : mm_tab.length = 153 := by rfl
      omega
    exact (ms_all y mm_tab[y] q (List.getElem?_eq_getElem hm) hq).1
  · have h3 : y = 154 ∨ y = 155 ∨ y = 156 := by omega
    rcases h3 with rfl | rfl | rfl
    · cases hq; decide +kernel
    · cases hq; decide +kernel
    · cases hq; decide +kernel
