/-! every instruction of every method stands in the bytes, and its links are the tables' -/
set_option maxRecDepth 100000 in
theorem qX0_init : kX0_init.all (am_chk mX0_init) = true := by decide +kernel
set_option maxRecDepth 100000 in
theorem qX0_clear : kX0_clear.all (am_chk mX0_clear) = true := by decide +kernel
set_option maxRecDepth 100000 in
theorem qX0_add : kX0_add.all (am_chk mX0_add) = true := by decide +kernel
set_option maxRecDepth 100000 in
theorem qX0_offer : kX0_offer.all (am_chk mX0_offer) = true := by decide +kernel
set_option maxRecDepth 100000 in
theorem qX0_leastSum : kX0_leastSum.all (am_chk mX0_leastSum) = true := by decide +kernel
set_option maxRecDepth 100000 in
theorem qX0_fullSet : kX0_fullSet.all (am_chk mX0_fullSet) = true := by decide +kernel
set_option maxRecDepth 100000 in
theorem qX0_partSum : kX0_partSum.all (am_chk mX0_partSum) = true := by decide +kernel
set_option maxRecDepth 100000 in
theorem qX1_init : kX1_init.all (am_chk mX1_init) = true := by decide +kernel
set_option maxRecDepth 100000 in
theorem qX1_toldCount : kX1_toldCount.all (am_chk mX1_toldCount) = true := by decide +kernel
set_option maxRecDepth 100000 in
theorem qX1_isAbout : kX1_isAbout.all (am_chk mX1_isAbout) = true := by decide +kernel
set_option maxRecDepth 100000 in
theorem qX2_init : kX2_init.all (am_chk mX2_init) = true := by decide +kernel
set_option maxRecDepth 100000 in
theorem qX2_dayPrice : kX2_dayPrice.all (am_chk mX2_dayPrice) = true := by decide +kernel
set_option maxRecDepth 100000 in
theorem qX3_init : kX3_init.all (am_chk mX3_init) = true := by decide +kernel
set_option maxRecDepth 100000 in
theorem qX3_suits : kX3_suits.all (am_chk mX3_suits) = true := by decide +kernel
set_option maxRecDepth 100000 in
theorem qX3_fits : kX3_fits.all (am_chk mX3_fits) = true := by decide +kernel
set_option maxRecDepth 100000 in
theorem qX3_take : kX3_take.all (am_chk mX3_take) = true := by decide +kernel
set_option maxRecDepth 100000 in
theorem qX3_release : kX3_release.all (am_chk mX3_release) = true := by decide +kernel
set_option maxRecDepth 100000 in
theorem qX4_init : kX4_init.all (am_chk mX4_init) = true := by decide +kernel
set_option maxRecDepth 100000 in
theorem qX4_dueDay : kX4_dueDay.all (am_chk mX4_dueDay) = true := by decide +kernel
set_option maxRecDepth 100000 in
theorem qX4_markAt : kX4_markAt.all (am_chk mX4_markAt) = true := by decide +kernel
set_option maxRecDepth 100000 in
theorem qX4_wanted : kX4_wanted.all (am_chk mX4_wanted) = true := by decide +kernel
set_option maxRecDepth 100000 in
theorem qX4_misfitOn : kX4_misfitOn.all (am_chk mX4_misfitOn) = true := by decide +kernel
set_option maxRecDepth 100000 in
theorem qX4_misfitHere : kX4_misfitHere.all (am_chk mX4_misfitHere) = true := by decide +kernel
set_option maxRecDepth 100000 in
theorem qX4_placeNumber : kX4_placeNumber.all (am_chk mX4_placeNumber) = true := by decide +kernel
set_option maxRecDepth 100000 in
theorem qX4_isStuck : kX4_isStuck.all (am_chk mX4_isStuck) = true := by decide +kernel
set_option maxRecDepth 100000 in
theorem qX5_init : kX5_init.all (am_chk mX5_init) = true := by decide +kernel
set_option maxRecDepth 100000 in
theorem qX5_clock : kX5_clock.all (am_chk mX5_clock) = true := by decide +kernel
set_option maxRecDepth 100000 in
theorem qX5_hours : kX5_hours.all (am_chk mX5_hours) = true := by decide +kernel
set_option maxRecDepth 100000 in
theorem qX5_prices : kX5_prices.all (am_chk mX5_prices) = true := by decide +kernel
set_option maxRecDepth 100000 in
theorem qX5_shelf : kX5_shelf.all (am_chk mX5_shelf) = true := by decide +kernel
set_option maxRecDepth 100000 in
theorem qX5_put : kX5_put.all (am_chk mX5_put) = true := by decide +kernel
set_option maxRecDepth 100000 in
theorem qX5_fee : kX5_fee.all (am_chk mX5_fee) = true := by decide +kernel
set_option maxRecDepth 100000 in
theorem qX5_give : kX5_give.all (am_chk mX5_give) = true := by decide +kernel
set_option maxRecDepth 100000 in
theorem qX5_claim : kX5_claim.all (am_chk mX5_claim) = true := by decide +kernel
set_option maxRecDepth 100000 in
theorem qX5_mark : kX5_mark.all (am_chk mX5_mark) = true := by decide +kernel
set_option maxRecDepth 100000 in
theorem qX5_means : kX5_means.all (am_chk mX5_means) = true := by decide +kernel
set_option maxRecDepth 100000 in
theorem qX5_ask : kX5_ask.all (am_chk mX5_ask) = true := by decide +kernel
set_option maxRecDepth 100000 in
theorem qX5_settle : kX5_settle.all (am_chk mX5_settle) = true := by decide +kernel
set_option maxRecDepth 100000 in
theorem qX5_misfit : kX5_misfit.all (am_chk mX5_misfit) = true := by decide +kernel
set_option maxRecDepth 100000 in
theorem qX5_tidy : kX5_tidy.all (am_chk mX5_tidy) = true := by decide +kernel
set_option maxRecDepth 100000 in
theorem qX5_least : kX5_least.all (am_chk mX5_least) = true := by decide +kernel
set_option maxRecDepth 100000 in
theorem qX5_sell : kX5_sell.all (am_chk mX5_sell) = true := by decide +kernel
set_option maxRecDepth 100000 in
theorem qX5_pay : kX5_pay.all (am_chk mX5_pay) = true := by decide +kernel
set_option maxRecDepth 100000 in
theorem qX5_tear : kX5_tear.all (am_chk mX5_tear) = true := by decide +kernel
set_option maxRecDepth 100000 in
theorem qX5_mend : kX5_mend.all (am_chk mX5_mend) = true := by decide +kernel
set_option maxRecDepth 100000 in
theorem qX5_shelfOf : kX5_shelfOf.all (am_chk mX5_shelfOf) = true := by decide +kernel
set_option maxRecDepth 100000 in
theorem qX5_thing : kX5_thing.all (am_chk mX5_thing) = true := by decide +kernel
set_option maxRecDepth 100000 in
theorem qX5_claimOf : kX5_claimOf.all (am_chk mX5_claimOf) = true := by decide +kernel
set_option maxRecDepth 100000 in
theorem qX5_count : kX5_count.all (am_chk mX5_count) = true := by decide +kernel
set_option maxRecDepth 100000 in
theorem qX5_isWithin : kX5_isWithin.all (am_chk mX5_isWithin) = true := by decide +kernel
set_option maxRecDepth 100000 in
theorem qX5_isPrice : kX5_isPrice.all (am_chk mX5_isPrice) = true := by decide +kernel
set_option maxRecDepth 100000 in
theorem qX5_asNumber : kX5_asNumber.all (am_chk mX5_asNumber) = true := by decide +kernel
set_option maxRecDepth 100000 in
theorem qX5_dayOf : kX5_dayOf.all (am_chk mX5_dayOf) = true := by decide +kernel
set_option maxRecDepth 100000 in
theorem qX5_today : kX5_today.all (am_chk mX5_today) = true := by decide +kernel
set_option maxRecDepth 100000 in
theorem qX5_isOpen : kX5_isOpen.all (am_chk mX5_isOpen) = true := by decide +kernel
set_option maxRecDepth 100000 in
theorem qX5_shelfAt : kX5_shelfAt.all (am_chk mX5_shelfAt) = true := by decide +kernel
set_option maxRecDepth 100000 in
theorem qX5_thingAt : kX5_thingAt.all (am_chk mX5_thingAt) = true := by decide +kernel
set_option maxRecDepth 100000 in
theorem qX5_claimAt : kX5_claimAt.all (am_chk mX5_claimAt) = true := by decide +kernel
set_option maxRecDepth 100000 in
theorem qX5_ticketOf : kX5_ticketOf.all (am_chk mX5_ticketOf) = true := by decide +kernel
set_option maxRecDepth 100000 in
theorem qX5_checkOf : kX5_checkOf.all (am_chk mX5_checkOf) = true := by decide +kernel
set_option maxRecDepth 100000 in
theorem qX5_isTicket : kX5_isTicket.all (am_chk mX5_isTicket) = true := by decide +kernel
set_option maxRecDepth 100000 in
theorem qX5_lastRowDay : kX5_lastRowDay.all (am_chk mX5_lastRowDay) = true := by decide +kernel
set_option maxRecDepth 100000 in
theorem qX5_rowOn : kX5_rowOn.all (am_chk mX5_rowOn) = true := by decide +kernel
set_option maxRecDepth 100000 in
theorem qX5_feeOf : kX5_feeOf.all (am_chk mX5_feeOf) = true := by decide +kernel
set_option maxRecDepth 100000 in
theorem qX5_letOldCoinsFall : kX5_letOldCoinsFall.all (am_chk mX5_letOldCoinsFall) = true := by decide +kernel
set_option maxRecDepth 100000 in
theorem qX5_shelfForNew : kX5_shelfForNew.all (am_chk mX5_shelfForNew) = true := by decide +kernel
set_option maxRecDepth 100000 in
theorem qX5_isNearer : kX5_isNearer.all (am_chk mX5_isNearer) = true := by decide +kernel
set_option maxRecDepth 100000 in
theorem qX5_takeAway : kX5_takeAway.all (am_chk mX5_takeAway) = true := by decide +kernel
set_option maxRecDepth 100000 in
theorem qX5_meantBy : kX5_meantBy.all (am_chk mX5_meantBy) = true := by decide +kernel
set_option maxRecDepth 100000 in
theorem qX5_firstMeantBy : kX5_firstMeantBy.all (am_chk mX5_firstMeantBy) = true := by decide +kernel
set_option maxRecDepth 100000 in
theorem qX5_greatestHeap : kX5_greatestHeap.all (am_chk mX5_greatestHeap) = true := by decide +kernel
set_option maxRecDepth 100000 in
theorem qX5_isContested : kX5_isContested.all (am_chk mX5_isContested) = true := by decide +kernel
set_option maxRecDepth 100000 in
theorem qX5_makeBestMove : kX5_makeBestMove.all (am_chk mX5_makeBestMove) = true := by decide +kernel
set_option maxRecDepth 100000 in
theorem qX5_shelfForMove : kX5_shelfForMove.all (am_chk mX5_shelfForMove) = true := by decide +kernel
set_option maxRecDepth 100000 in
theorem qX5_move : kX5_move.all (am_chk mX5_move) = true := by decide +kernel
set_option maxRecDepth 100000 in
theorem qX5_thingsIn : kX5_thingsIn.all (am_chk mX5_thingsIn) = true := by decide +kernel
set_option maxRecDepth 100000 in
theorem qX5_coinsKept : kX5_coinsKept.all (am_chk mX5_coinsKept) = true := by decide +kernel
set_option maxRecDepth 100000 in
theorem qX6_init : kX6_init.all (am_chk mX6_init) = true := by decide +kernel
set_option maxRecDepth 100000 in
theorem qX6_in : kX6_in.all (am_chk mX6_in) = true := by decide +kernel
set_option maxRecDepth 100000 in
theorem qX6_gap : kX6_gap.all (am_chk mX6_gap) = true := by decide +kernel
set_option maxRecDepth 100000 in
theorem qX6_isOpen : kX6_isOpen.all (am_chk mX6_isOpen) = true := by decide +kernel
set_option maxRecDepth 100000 in
theorem qX6_hours : kX6_hours.all (am_chk mX6_hours) = true := by decide +kernel
set_option maxRecDepth 100000 in
theorem qX6_clock : kX6_clock.all (am_chk mX6_clock) = true := by decide +kernel
set_option maxRecDepth 100000 in
theorem qX6_prices : kX6_prices.all (am_chk mX6_prices) = true := by decide +kernel
set_option maxRecDepth 100000 in
theorem qX6_rowOf : kX6_rowOf.all (am_chk mX6_rowOf) = true := by decide +kernel
set_option maxRecDepth 100000 in
theorem qX6_shelf : kX6_shelf.all (am_chk mX6_shelf) = true := by decide +kernel
set_option maxRecDepth 100000 in
theorem qX6_free : kX6_free.all (am_chk mX6_free) = true := by decide +kernel
set_option maxRecDepth 100000 in
theorem qX6_suits : kX6_suits.all (am_chk mX6_suits) = true := by decide +kernel
set_option maxRecDepth 100000 in
theorem qX6_fits : kX6_fits.all (am_chk mX6_fits) = true := by decide +kernel
set_option maxRecDepth 100000 in
theorem qX6_wanted : kX6_wanted.all (am_chk mX6_wanted) = true := by decide +kernel
set_option maxRecDepth 100000 in
theorem qX6_misfitOn : kX6_misfitOn.all (am_chk mX6_misfitOn) = true := by decide +kernel
set_option maxRecDepth 100000 in
theorem qX6_ticketOf : kX6_ticketOf.all (am_chk mX6_ticketOf) = true := by decide +kernel
set_option maxRecDepth 100000 in
theorem qX6_put : kX6_put.all (am_chk mX6_put) = true := by decide +kernel
set_option maxRecDepth 100000 in
theorem qX6_feeOf : kX6_feeOf.all (am_chk mX6_feeOf) = true := by decide +kernel
set_option maxRecDepth 100000 in
theorem qX6_thingOf : kX6_thingOf.all (am_chk mX6_thingOf) = true := by decide +kernel
set_option maxRecDepth 100000 in
theorem qX6_fee : kX6_fee.all (am_chk mX6_fee) = true := by decide +kernel
set_option maxRecDepth 100000 in
theorem qX6_leaves : kX6_leaves.all (am_chk mX6_leaves) = true := by decide +kernel
set_option maxRecDepth 100000 in
theorem qX6_give : kX6_give.all (am_chk mX6_give) = true := by decide +kernel
set_option maxRecDepth 100000 in
theorem qX6_claim : kX6_claim.all (am_chk mX6_claim) = true := by decide +kernel
set_option maxRecDepth 100000 in
theorem qX6_isClaim : kX6_isClaim.all (am_chk mX6_isClaim) = true := by decide +kernel
set_option maxRecDepth 100000 in
theorem qX6_markOf : kX6_markOf.all (am_chk mX6_markOf) = true := by decide +kernel
set_option maxRecDepth 100000 in
theorem qX6_isMeant : kX6_isMeant.all (am_chk mX6_isMeant) = true := by decide +kernel
set_option maxRecDepth 100000 in
theorem qX6_meant : kX6_meant.all (am_chk mX6_meant) = true := by decide +kernel
set_option maxRecDepth 100000 in
theorem qX6_manyTold : kX6_manyTold.all (am_chk mX6_manyTold) = true := by decide +kernel
set_option maxRecDepth 100000 in
theorem qX6_means : kX6_means.all (am_chk mX6_means) = true := by decide +kernel
set_option maxRecDepth 100000 in
theorem qX6_mark : kX6_mark.all (am_chk mX6_mark) = true := by decide +kernel
set_option maxRecDepth 100000 in
theorem qX6_ask : kX6_ask.all (am_chk mX6_ask) = true := by decide +kernel
set_option maxRecDepth 100000 in
theorem qX6_settle : kX6_settle.all (am_chk mX6_settle) = true := by decide +kernel
set_option maxRecDepth 100000 in
theorem qX6_misfit : kX6_misfit.all (am_chk mX6_misfit) = true := by decide +kernel
set_option maxRecDepth 100000 in
theorem qX6_tidy : kX6_tidy.all (am_chk mX6_tidy) = true := by decide +kernel
set_option maxRecDepth 100000 in
theorem qX6_least : kX6_least.all (am_chk mX6_least) = true := by decide +kernel
set_option maxRecDepth 100000 in
theorem qX6_sell : kX6_sell.all (am_chk mX6_sell) = true := by decide +kernel
set_option maxRecDepth 100000 in
theorem qX6_pay : kX6_pay.all (am_chk mX6_pay) = true := by decide +kernel
set_option maxRecDepth 100000 in
theorem qX6_tear : kX6_tear.all (am_chk mX6_tear) = true := by decide +kernel
set_option maxRecDepth 100000 in
theorem qX6_mend : kX6_mend.all (am_chk mX6_mend) = true := by decide +kernel
set_option maxRecDepth 100000 in
theorem qX6_shelfOf : kX6_shelfOf.all (am_chk mX6_shelfOf) = true := by decide +kernel
set_option maxRecDepth 100000 in
theorem qX6_thing : kX6_thing.all (am_chk mX6_thing) = true := by decide +kernel
set_option maxRecDepth 100000 in
theorem qX6_claimOf : kX6_claimOf.all (am_chk mX6_claimOf) = true := by decide +kernel
set_option maxRecDepth 100000 in
theorem qX6_count : kX6_count.all (am_chk mX6_count) = true := by decide +kernel
set_option maxRecDepth 100000 in
theorem qL_0 : ((kL_law.drop 0).take 40).all (am_chk mL_law) = true := by decide +kernel
set_option maxRecDepth 100000 in
theorem qL_40 : ((kL_law.drop 40).take 40).all (am_chk mL_law) = true := by decide +kernel
set_option maxRecDepth 100000 in
theorem qL_80 : ((kL_law.drop 80).take 40).all (am_chk mL_law) = true := by decide +kernel
set_option maxRecDepth 100000 in
theorem qL_120 : ((kL_law.drop 120).take 40).all (am_chk mL_law) = true := by decide +kernel
set_option maxRecDepth 100000 in
theorem qL_160 : ((kL_law.drop 160).take 40).all (am_chk mL_law) = true := by decide +kernel
set_option maxRecDepth 100000 in
theorem qL_200 : ((kL_law.drop 200).take 40).all (am_chk mL_law) = true := by decide +kernel
set_option maxRecDepth 100000 in
theorem qL_240 : ((kL_law.drop 240).take 40).all (am_chk mL_law) = true := by decide +kernel
set_option maxRecDepth 100000 in
theorem qL_280 : ((kL_law.drop 280).take 40).all (am_chk mL_law) = true := by decide +kernel
set_option maxRecDepth 100000 in
theorem qL_320 : ((kL_law.drop 320).take 40).all (am_chk mL_law) = true := by decide +kernel
set_option maxRecDepth 100000 in
theorem qL_360 : ((kL_law.drop 360).take 40).all (am_chk mL_law) = true := by decide +kernel
set_option maxRecDepth 100000 in
theorem qL_400 : ((kL_law.drop 400).take 40).all (am_chk mL_law) = true := by decide +kernel
set_option maxRecDepth 100000 in
theorem qL_440 : ((kL_law.drop 440).take 40).all (am_chk mL_law) = true := by decide +kernel
set_option maxRecDepth 100000 in
theorem qL_480 : ((kL_law.drop 480).take 40).all (am_chk mL_law) = true := by decide +kernel
set_option maxRecDepth 100000 in
theorem qL_520 : ((kL_law.drop 520).take 40).all (am_chk mL_law) = true := by decide +kernel
set_option maxRecDepth 100000 in
theorem qL_560 : ((kL_law.drop 560).take 40).all (am_chk mL_law) = true := by decide +kernel
set_option maxRecDepth 100000 in
theorem qL_600 : ((kL_law.drop 600).take 40).all (am_chk mL_law) = true := by decide +kernel
theorem am_all_split {α : Type} {f : α → Bool} (n : Nat) {l : List α} (h1 : (l.take n).all f = true) (h2 : (l.drop n).all f = true) : l.all f = true := by
  rw [← List.take_append_drop n l, List.all_append, h1, h2]; rfl
theorem qL_law : kL_law.all (am_chk mL_law) = true := am_all_split 40 qL_0 (by rw [List.drop_drop]; exact am_all_split 40 qL_40 (by rw [List.drop_drop]; exact am_all_split 40 qL_80 (by rw [List.drop_drop]; exact am_all_split 40 qL_120 (by rw [List.drop_drop]; exact am_all_split 40 qL_160 (by rw [List.drop_drop]; exact am_all_split 40 qL_200 (by rw [List.drop_drop]; exact am_all_split 40 qL_240 (by rw [List.drop_drop]; exact am_all_split 40 qL_280 (by rw [List.drop_drop]; exact am_all_split 40 qL_320 (by rw [List.drop_drop]; exact am_all_split 40 qL_360 (by rw [List.drop_drop]; exact am_all_split 40 qL_400 (by rw [List.drop_drop]; exact am_all_split 40 qL_440 (by rw [List.drop_drop]; exact am_all_split 40 qL_480 (by rw [List.drop_drop]; exact am_all_split 40 qL_520 (by rw [List.drop_drop]; exact am_all_split 40 qL_560 (by rw [List.drop_drop]; exact am_all_split 40 qL_600 (by rw [List.drop_drop]; decide +kernel))))))))))))))))
/-- the methods that are walked (not Math's) -/
def am_msW : List am_M := [mX0_init, mX0_clear, mX0_add, mX0_offer, mX0_leastSum, mX0_fullSet, mX0_partSum, mX1_init, mX1_toldCount, mX1_isAbout, mX2_init, mX2_dayPrice, mX3_init, mX3_suits, mX3_fits, mX3_take, mX3_release, mX4_init, mX4_dueDay, mX4_markAt, mX4_wanted, mX4_misfitOn, mX4_misfitHere, mX4_placeNumber, mX4_isStuck, mX5_init, mX5_clock, mX5_hours, mX5_prices, mX5_shelf, mX5_put, mX5_fee, mX5_give, mX5_claim, mX5_mark, mX5_means, mX5_ask, mX5_settle, mX5_misfit, mX5_tidy, mX5_least, mX5_sell, mX5_pay, mX5_tear, mX5_mend, mX5_shelfOf, mX5_thing, mX5_claimOf, mX5_count, mX5_isWithin, mX5_isPrice, mX5_asNumber, mX5_dayOf, mX5_today, mX5_isOpen, mX5_shelfAt, mX5_thingAt, mX5_claimAt, mX5_ticketOf, mX5_checkOf, mX5_isTicket, mX5_lastRowDay, mX5_rowOn, mX5_feeOf, mX5_letOldCoinsFall, mX5_shelfForNew, mX5_isNearer, mX5_takeAway, mX5_meantBy, mX5_firstMeantBy, mX5_greatestHeap, mX5_isContested, mX5_makeBestMove, mX5_shelfForMove, mX5_move, mX5_thingsIn, mX5_coinsKept, mX6_init, mX6_in, mX6_gap, mX6_isOpen, mX6_hours, mX6_clock, mX6_prices, mX6_rowOf, mX6_shelf, mX6_free, mX6_suits, mX6_fits, mX6_wanted, mX6_misfitOn, mX6_ticketOf, mX6_put, mX6_feeOf, mX6_thingOf, mX6_fee, mX6_leaves, mX6_give, mX6_claim, mX6_isClaim, mX6_markOf, mX6_isMeant, mX6_meant, mX6_manyTold, mX6_means, mX6_mark, mX6_ask, mX6_settle, mX6_misfit, mX6_tidy, mX6_least, mX6_sell, mX6_pay, mX6_tear, mX6_mend, mX6_shelfOf, mX6_thing, mX6_claimOf, mX6_count, mL_law]
theorem am_ok : ∀ M ∈ am_msW, M.2.2.2.2.2.all (am_chk M) = true := by
  intro M hM
  simp only [am_msW, List.mem_cons, List.not_mem_nil, or_false] at hM
  rcases hM with rfl | rfl | rfl | rfl | rfl | rfl | rfl | rfl | rfl | rfl | rfl | rfl | rfl | rfl | rfl | rfl | rfl | rfl | rfl | rfl | rfl | rfl | rfl | rfl | rfl | rfl | rfl | rfl | rfl | rfl | rfl | rfl | rfl | rfl | rfl | rfl | rfl | rfl | rfl | rfl | rfl | rfl | rfl | rfl | rfl | rfl | rfl | rfl | rfl | rfl | rfl | rfl | rfl | rfl | rfl | rfl | rfl | rfl | rfl | rfl | rfl | rfl | rfl | rfl | rfl | rfl | rfl | rfl | rfl | rfl | rfl | rfl | rfl | rfl | rfl | rfl | rfl | rfl | rfl | rfl | rfl | rfl | rfl | rfl | rfl | rfl | rfl | rfl | rfl | rfl | rfl | rfl | rfl | rfl | rfl | rfl | rfl | rfl | rfl | rfl | rfl | rfl | rfl | rfl | rfl | rfl | rfl | rfl | rfl | rfl | rfl | rfl | rfl | rfl | rfl | rfl | rfl | rfl | rfl | rfl
  · exact qX0_init
  · exact qX0_clear
  · exact qX0_add
  · exact qX0_offer
  · exact qX0_leastSum
  · exact qX0_fullSet
  · exact qX0_partSum
  · exact qX1_init
  · exact qX1_toldCount
  · exact qX1_isAbout
  · exact qX2_init
  · exact qX2_dayPrice
  · exact qX3_init
  · exact qX3_suits
  · exact qX3_fits
  · exact qX3_take
  · exact qX3_release
  · exact qX4_init
  · exact qX4_dueDay
  · exact qX4_markAt
  · exact qX4_wanted
  · exact qX4_misfitOn
  · exact qX4_misfitHere
  · exact qX4_placeNumber
  · exact qX4_isStuck
  · exact qX5_init
  · exact qX5_clock
  · exact qX5_hours
  · exact qX5_prices
  · exact qX5_shelf
  · exact qX5_put
  · exact qX5_fee
  · exact qX5_give
  · exact qX5_claim
  · exact qX5_mark
  · exact qX5_means
  · exact qX5_ask
  · exact qX5_settle
  · exact qX5_misfit
  · exact qX5_tidy
  · exact qX5_least
  · exact qX5_sell
  · exact qX5_pay
  · exact qX5_tear
  · exact qX5_mend
  · exact qX5_shelfOf
  · exact qX5_thing
  · exact qX5_claimOf
  · exact qX5_count
  · exact qX5_isWithin
  · exact qX5_isPrice
  · exact qX5_asNumber
  · exact qX5_dayOf
  · exact qX5_today
  · exact qX5_isOpen
  · exact qX5_shelfAt
  · exact qX5_thingAt
  · exact qX5_claimAt
  · exact qX5_ticketOf
  · exact qX5_checkOf
  · exact qX5_isTicket
  · exact qX5_lastRowDay
  · exact qX5_rowOn
  · exact qX5_feeOf
  · exact qX5_letOldCoinsFall
  · exact qX5_shelfForNew
  · exact qX5_isNearer
  · exact qX5_takeAway
  · exact qX5_meantBy
  · exact qX5_firstMeantBy
  · exact qX5_greatestHeap
  · exact qX5_isContested
  · exact qX5_makeBestMove
  · exact qX5_shelfForMove
  · exact qX5_move
  · exact qX5_thingsIn
  · exact qX5_coinsKept
  · exact qX6_init
  · exact qX6_in
  · exact qX6_gap
  · exact qX6_isOpen
  · exact qX6_hours
  · exact qX6_clock
  · exact qX6_prices
  · exact qX6_rowOf
  · exact qX6_shelf
  · exact qX6_free
  · exact qX6_suits
  · exact qX6_fits
  · exact qX6_wanted
  · exact qX6_misfitOn
  · exact qX6_ticketOf
  · exact qX6_put
  · exact qX6_feeOf
  · exact qX6_thingOf
  · exact qX6_fee
  · exact qX6_leaves
  · exact qX6_give
  · exact qX6_claim
  · exact qX6_isClaim
  · exact qX6_markOf
  · exact qX6_isMeant
  · exact qX6_meant
  · exact qX6_manyTold
  · exact qX6_means
  · exact qX6_mark
  · exact qX6_ask
  · exact qX6_settle
  · exact qX6_misfit
  · exact qX6_tidy
  · exact qX6_least
  · exact qX6_sell
  · exact qX6_pay
  · exact qX6_tear
  · exact qX6_mend
  · exact qX6_shelfOf
  · exact qX6_thing
  · exact qX6_claimOf
  · exact qX6_count
  · exact qL_law
