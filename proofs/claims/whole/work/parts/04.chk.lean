/-! every instruction of every method stands in the bytes, and its links are the tables' -/
set_option maxRecDepth 100000 in
theorem qX0_init : kX0_init.all (am_chk mX0_init) = true := by decide +kernel
set_option maxRecDepth 100000 in
theorem qX0_clear : kX0_clear.all (am_chk mX0_clear) = true := by decide +kernel
set_option maxRecDepth 100000 in
theorem qX0_add : kX0_add.all (am_chk mX0_add) = true := by decide +kernel
set_option maxRecDepth 100000 in
theorem qX0_offer : kX0_offer.all (am_chk mX0_offer) = true := by decide +kernel
set_option maxRecDepth 100000 in
theorem qX0_leastSum : kX0_leastSum.all (am_chk mX0_leastSum) = true := by decide +kernel
set_option maxRecDepth 100000 in
theorem qX0_fullSet : kX0_fullSet.all (am_chk mX0_fullSet) = true := by decide +kernel
set_option maxRecDepth 100000 in
theorem qX0_partSum : kX0_partSum.all (am_chk mX0_partSum) = true := by decide +kernel
set_option maxRecDepth 100000 in
theorem qX1_init : kX1_init.all (am_chk mX1_init) = true := by decide +kernel
set_option maxRecDepth 100000 in
theorem qX1_toldCount : kX1_toldCount.all (am_chk mX1_toldCount) = true := by decide +kernel
set_option maxRecDepth 100000 in
theorem qX1_isAbout : kX1_isAbout.all (am_chk mX1_isAbout) = true := by decide +kernel
set_option maxRecDepth 100000 in
theorem qX2_init : kX2_init.all (am_chk mX2_init) = true := by decide +kernel
set_option maxRecDepth 100000 in
theorem qX2_dayPrice : kX2_dayPrice.all (am_chk mX2_dayPrice) = true := by decide +kernel
set_option maxRecDepth 100000 in
theorem qX3_init : kX3_init.all (am_chk mX3_init) = true := by decide +kernel
set_option maxRecDepth 100000 in
theorem qX3_suits : kX3_suits.all (am_chk mX3_suits) = true := by decide +kernel
set_option maxRecDepth 100000 in
theorem qX3_fits : kX3_fits.all (am_chk mX3_fits) = true := by decide +kernel
set_option maxRecDepth 100000 in
theorem qX3_take : kX3_take.all (am_chk mX3_take) = true := by decide +kernel
set_option maxRecDepth 100000 in
theorem qX3_release : kX3_release.all (am_chk mX3_release) = true := by decide +kernel
set_option maxRecDepth 100000 in
theorem qX4_init : kX4_init.all (am_chk mX4_init) = true := by decide +kernel
set_option maxRecDepth 100000 in
theorem qX4_dueDay : kX4_dueDay.all (am_chk mX4_dueDay) = true := by decide +kernel
set_option maxRecDepth 100000 in
theorem qX4_markAt : kX4_markAt.all (am_chk mX4_markAt) = true := by decide +kernel
set_option maxRecDepth 100000 in
theorem qX4_wanted : kX4_wanted.all (am_chk mX4_wanted) = true := by decide +kernel
set_option maxRecDepth 100000 in
theorem qX4_misfitOn : kX4_misfitOn.all (am_chk mX4_misfitOn) = true := by decide +kernel
set_option maxRecDepth 100000 in
theorem qX4_misfitHere : kX4_misfitHere.all (am_chk mX4_misfitHere) = true := by decide +kernel
set_option maxRecDepth 100000 in
theorem qX4_placeNumber : kX4_placeNumber.all (am_chk mX4_placeNumber) = true := by decide +kernel
set_option maxRecDepth 100000 in
theorem qX4_isStuck : kX4_isStuck.all (am_chk mX4_isStuck) = true := by decide +kernel
set_option maxRecDepth 100000 in
theorem qX5_init : kX5_init.all (am_chk mX5_init) = true := by decide +kernel
set_option maxRecDepth 100000 in
theorem qX5_clock : kX5_clock.all (am_chk mX5_clock) = true := by decide +kernel
set_option maxRecDepth 100000 in
theorem qX5_hours : kX5_hours.all (am_chk mX5_hours) = true := by decide +kernel
set_option maxRecDepth 100000 in
theorem qX5_prices : kX5_prices.all (am_chk mX5_prices) = true := by decide +kernel
set_option maxRecDepth 100000 in
theorem qX5_shelf : kX5_shelf.all (am_chk mX5_shelf) = true := by decide +kernel
set_option maxRecDepth 100000 in
theorem qX5_put : kX5_put.all (am_chk mX5_put) = true := by decide +kernel
set_option maxRecDepth 100000 in
theorem qX5_fee : kX5_fee.all (am_chk mX5_fee) = true := by decide +kernel
set_option maxRecDepth 100000 in
theorem qX5_give : kX5_give.all (am_chk mX5_give) = true := by decide +kernel
set_option maxRecDepth 100000 in
theorem qX5_claim : kX5_claim.all (am_chk mX5_claim) = true := by decide +kernel
set_option maxRecDepth 100000 in
theorem qX5_mark : kX5_mark.all (am_chk mX5_mark) = true := by decide +kernel
set_option maxRecDepth 100000 in
theorem qX5_means : kX5_means.all (am_chk mX5_means) = true := by decide +kernel
set_option maxRecDepth 100000 in
theorem qX5_ask : kX5_ask.all (am_chk mX5_ask) = true := by decide +kernel
set_option maxRecDepth 100000 in
theorem qX5_settle : kX5_settle.all (am_chk mX5_settle) = true := by decide +kernel
set_option maxRecDepth 100000 in
theorem qX5_misfit : kX5_misfit.all (am_chk mX5_misfit) = true := by decide +kernel
set_option maxRecDepth 100000 in
theorem qX5_tidy : kX5_tidy.all (am_chk mX5_tidy) = true := by decide +kernel
set_option maxRecDepth 100000 in
theorem qX5_least : kX5_least.all (am_chk mX5_least) = true := by decide +kernel
set_option maxRecDepth 100000 in
theorem qX5_sell : kX5_sell.all (am_chk mX5_sell) = true := by decide +kernel
set_option maxRecDepth 100000 in
theorem qX5_pay : kX5_pay.all (am_chk mX5_pay) = true := by decide +kernel
set_option maxRecDepth 100000 in
theorem qX5_tear : kX5_tear.all (am_chk mX5_tear) = true := by decide +kernel
set_option maxRecDepth 100000 in
theorem qX5_mend : kX5_mend.all (am_chk mX5_mend) = true := by decide +kernel
set_option maxRecDepth 100000 in
theorem qX5_shelfOf : kX5_shelfOf.all (am_chk mX5_shelfOf) = true := by decide +kernel
set_option maxRecDepth 100000 in
theorem qX5_thing : kX5_thing.all (am_chk mX5_thing) = true := by decide +kernel
set_option maxRecDepth 100000 in
theorem qX5_claimOf : kX5_claimOf.all (am_chk mX5_claimOf) = true := by decide +kernel
set_option maxRecDepth 100000 in
theorem qX5_count : kX5_count.all (am_chk mX5_count) = true := by decide +kernel
set_option maxRecDepth 100000 in
theorem qX5_isWithin : kX5_isWithin.all (am_chk mX5_isWithin) = true := by decide +kernel
set_option maxRecDepth 100000 in
theorem qX5_isPrice : kX5_isPrice.all (am_chk mX5_isPrice) = true := by decide +kernel
set_option maxRecDepth 100000 in
theorem qX5_asNumber : kX5_asNumber.all (am_chk mX5_asNumber) = true := by decide +kernel
set_option maxRecDepth 100000 in
theorem qX5_dayOf : kX5_dayOf.all (am_chk mX5_dayOf) = true := by decide +kernel
set_option maxRecDepth 100000 in
theorem qX5_today : kX5_today.all (am_chk mX5_today) = true := by decide +kernel
set_option maxRecDepth 100000 in
theorem qX5_isOpen : kX5_isOpen.all (am_chk mX5_isOpen) = true := by decide +kernel
set_option maxRecDepth 100000 in
theorem qX5_shelfAt : kX5_shelfAt.all (am_chk mX5_shelfAt) = true := by decide +kernel
set_option maxRecDepth 100000 in
theorem qX5_thingAt : kX5_thingAt.all (am_chk mX5_thingAt) = true := by decide +kernel
set_option maxRecDepth 100000 in
theorem qX5_claimAt : kX5_claimAt.all (am_chk mX5_claimAt) = true := by decide +kernel
set_option maxRecDepth 100000 in
theorem qX5_ticketOf : kX5_ticketOf.all (am_chk mX5_ticketOf) = true := by decide +kernel
set_option maxRecDepth 100000 in
theorem qX5_checkOf : kX5_checkOf.all (am_chk mX5_checkOf) = true := by decide +kernel
set_option maxRecDepth 100000 in
theorem qX5_isTicket : kX5_isTicket.all (am_chk mX5_isTicket) = true := by decide +kernel
set_option maxRecDepth 100000 in
theorem qX5_lastRowDay : kX5_lastRowDay.all (am_chk mX5_lastRowDay) = true := by decide +kernel
set_option maxRecDepth 100000 in
theorem qX5_rowOn : kX5_rowOn.all (am_chk mX5_rowOn) = true := by decide +kernel
set_option maxRecDepth 100000 in
theorem qX5_feeOf : kX5_feeOf.all (am_chk mX5_feeOf) = true := by decide +kernel
set_option maxRecDepth 100000 in
theorem qX5_letOldCoinsFall : kX5_letOldCoinsFall.all (am_chk mX5_letOldCoinsFall) = true := by decide +kernel
set_option maxRecDepth 100000 in
theorem qX5_shelfForNew : kX5_shelfForNew.all (am_chk mX5_shelfForNew) = true := by decide +kernel
set_option maxRecDepth 100000 in
theorem qX5_isNearer : kX5_isNearer.all (am_chk mX5_isNearer) = true := by decide +kernel
set_option maxRecDepth 100000 in
theorem qX5_takeAway : kX5_takeAway.all (am_chk mX5_takeAway) = true := by decide +kernel
set_option maxRecDepth 100000 in
theorem qX5_meantBy : kX5_meantBy.all (am_chk mX5_meantBy) = true := by decide +kernel
set_option maxRecDepth 100000 in
theorem qX5_firstMeantBy : kX5_firstMeantBy.all (am_chk mX5_firstMeantBy) = true := by decide +kernel
set_option maxRecDepth 100000 in
theorem qX5_greatestHeap : kX5_greatestHeap.all (am_chk mX5_greatestHeap) = true := by decide +kernel
set_option maxRecDepth 100000 in
theorem qX5_isContested : kX5_isContested.all (am_chk mX5_isContested) = true := by decide +kernel
set_option maxRecDepth 100000 in
theorem qX5_makeBestMove : kX5_makeBestMove.all (am_chk mX5_makeBestMove) = true := by decide +kernel
set_option maxRecDepth 100000 in
theorem qX5_shelfForMove : kX5_shelfForMove.all (am_chk mX5_shelfForMove) = true := by decide +kernel
set_option maxRecDepth 100000 in
theorem qX5_move : kX5_move.all (am_chk mX5_move) = true := by decide +kernel
set_option maxRecDepth 100000 in
theorem qX5_thingsIn : kX5_thingsIn.all (am_chk mX5_thingsIn) = true := by decide +kernel
set_option maxRecDepth 100000 in
theorem qX5_coinsKept : kX5_coinsKept.all (am_chk mX5_coinsKept) = true := by decide +kernel
set_option maxRecDepth 100000 in
theorem qX6_init : kX6_init.all (am_chk mX6_init) = true := by decide +kernel
set_option maxRecDepth 100000 in
theorem qX6_in : kX6_in.all (am_chk mX6_in) = true := by decide +kernel
set_option maxRecDepth 100000 in
theorem qX6_gap : kX6_gap.all (am_chk mX6_gap) = true := by decide +kernel
set_option maxRecDepth 100000 in
theorem qX6_isOpen : kX6_isOpen.all (am_chk mX6_isOpen) = true := by decide +kernel
set_option maxRecDepth 100000 in
theorem qX6_hours : kX6_hours.all (am_chk mX6_hours) = true := by decide +kernel
set_option maxRecDepth 100000 in
theorem qX6_clock : kX6_clock.all (am_chk mX6_clock) = true := by decide +kernel
set_option maxRecDepth 100000 in
theorem qX6_prices : kX6_prices.all (am_chk mX6_prices) = true := by decide +kernel
set_option maxRecDepth 100000 in
theorem qX6_rowOf : kX6_rowOf.all (am_chk mX6_rowOf) = true := by decide +kernel
set_option maxRecDepth 100000 in
theorem qX6_shelf : kX6_shelf.all (am_chk mX6_shelf) = true := by decide +kernel
set_option maxRecDepth 100000 in
theorem qX6_free : kX6_free.all (am_chk mX6_free) = true := by decide +kernel
set_option maxRecDepth 100000 in
theorem qX6_suits : kX6_suits.all (am_chk mX6_suits) = true := by decide +kernel
set_option maxRecDepth 100000 in
theorem qX6_fits : kX6_fits.all (am_chk mX6_fits) = true := by decide +kernel
set_option maxRecDepth 100000 in
theorem qX6_wanted : kX6_wanted.all (am_chk mX6_wanted) = true := by decide +kernel
set_option maxRecDepth 100000 in
theorem qX6_misfitOn : kX6_misfitOn.all (am_chk mX6_misfitOn) = true := by decide +kernel
set_option maxRecDepth 100000 in
theorem qX6_ticketOf : kX6_ticketOf.all (am_chk mX6_ticketOf) = true := by decide +kernel
set_option maxRecDepth 100000 in
theorem qX6_put : kX6_put.all (am_chk mX6_put) = true := by decide +kernel
set_option maxRecDepth 100000 in
theorem qX6_feeOf : kX6_feeOf.all (am_chk mX6_feeOf) = true := by decide +kernel
set_option maxRecDepth 100000 in
theorem qX6_thingOf : kX6_thingOf.all (am_chk mX6_thingOf) = true := by decide +kernel
set_option maxRecDepth 100000 in
theorem qX6_fee : kX6_fee.all (am_chk mX6_fee) = true := by decide +kernel
set_option maxRecDepth 100000 in
theorem qX6_leaves : kX6_leaves.all (am_chk mX6_leaves) = true := by decide +kernel
set_option maxRecDepth 100000 in
theorem qX6_give : kX6_give.all (am_chk mX6_give) = true := by decide +kernel
set_option maxRecDepth 100000 in
theorem qX6_claim : kX6_claim.all (am_chk mX6_claim) = true := by decide +kernel
set_option maxRecDepth 100000 in
theorem qX6_isClaim : kX6_isClaim.all (am_chk mX6_isClaim) = true := by decide +kernel
set_option maxRecDepth 100000 in
theorem qX6_markOf : kX6_markOf.all (am_chk mX6_markOf) = true := by decide +kernel
set_option maxRecDepth 100000 in
theorem qX6_isMeant : kX6_isMeant.all (am_chk mX6_isMeant) = true := by decide +kernel
set_option maxRecDepth 100000 in
theorem qX6_meant : kX6_meant.all (am_chk mX6_meant) = true := by decide +kernel
set_option maxRecDepth 100000 in
theorem qX6_manyTold : kX6_manyTold.all (am_chk mX6_manyTold) = true := by decide +kernel
set_option maxRecDepth 100000 in
theorem qX6_means : kX6_means.all (am_chk mX6_means) = true := by decide +kernel
set_option maxRecDepth 100000 in
theorem qX6_mark : kX6_mark.all (am_chk mX6_mark) = true := by decide +kernel
set_option maxRecDepth 100000 in
theorem qX6_ask : kX6_ask.all (am_chk mX6_ask) = true := by decide +kernel
set_option maxRecDepth 100000 in
theorem qX6_settle : kX6_settle.all (am_chk mX6_settle) = true := by decide +kernel
set_option maxRecDepth 100000 in
theorem qX6_misfit : kX6_misfit.all (am_chk mX6_misfit) = true := by decide +kernel
set_option maxRecDepth 100000 in
theorem qX6_tidy : kX6_tidy.all (am_chk mX6_tidy) = true := by decide +kernel
set_option maxRecDepth 100000 in
theorem qX6_least : kX6_least.all (am_chk mX6_least) = true := by decide +kernel
set_option maxRecDepth 100000 in
theorem qX6_sell : kX6_sell.all (am_chk mX6_sell) = true := by decide +kernel
set_option maxRecDepth 100000 in
theorem qX6_pay : kX6_pay.all (am_chk mX6_pay) = true := by decide +kernel
set_option maxRecDepth 100000 in
theorem qX6_tear : kX6_tear.all (am_chk mX6_tear) = true := by decide +kernel
set_option maxRecDepth 100000 in
theorem qX6_mend : kX6_mend.all (am_chk mX6_mend) = true := by decide +kernel
set_option maxRecDepth 100000 in
theorem qX6_shelfOf : kX6_shelfOf.all (am_chk mX6_shelfOf) = true := by decide +kernel
set_option maxRecDepth 100000 in
theorem qX6_thing : kX6_thing.all (am_chk mX6_thing) = true := by decide +kernel
set_option maxRecDepth 100000 in
theorem qX6_claimOf : kX6_claimOf.all (am_chk mX6_claimOf) = true := by decide +kernel
set_option maxRecDepth 100000 in
theorem qX6_count : kX6_count.all (am_chk mX6_count) = true := by decide +kernel
