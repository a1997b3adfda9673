theorem am_all_split {α : Type} {f : α → Bool} (n : Nat) {l : List α} (h1 : (l.take n).all f = true) (h2 : (l.drop n).all f = true) : l.all f = true := by
  rw [← List.take_append_drop n l, List.all_append, h1, h2]; rfl
theorem qLz : (kL_law.drop 640).all (am_chk mL_law) = true := by decide +kernel
theorem qLd_600 : (kL_law.drop 600).all (am_chk mL_law) = true := am_all_split 40 qL_600 (by rw [List.drop_drop]; exact qLz)
theorem qLd_560 : (kL_law.drop 560).all (am_chk mL_law) = true := am_all_split 40 qL_560 (by rw [List.drop_drop]; exact qLd_600)
theorem qLd_520 : (kL_law.drop 520).all (am_chk mL_law) = true := am_all_split 40 qL_520 (by rw [List.drop_drop]; exact qLd_560)
theorem qLd_480 : (kL_law.drop 480).all (am_chk mL_law) = true := am_all_split 40 qL_480 (by rw [List.drop_drop]; exact qLd_520)
theorem qLd_440 : (kL_law.drop 440).all (am_chk mL_law) = true := am_all_split 40 qL_440 (by rw [List.drop_drop]; exact qLd_480)
theorem qLd_400 : (kL_law.drop 400).all (am_chk mL_law) = true := am_all_split 40 qL_400 (by rw [List.drop_drop]; exact qLd_440)
theorem qLd_360 : (kL_law.drop 360).all (am_chk mL_law) = true := am_all_split 40 qL_360 (by rw [List.drop_drop]; exact qLd_400)
theorem qLd_320 : (kL_law.drop 320).all (am_chk mL_law) = true := am_all_split 40 qL_320 (by rw [List.drop_drop]; exact qLd_360)
theorem qLd_280 : (kL_law.drop 280).all (am_chk mL_law) = true := am_all_split 40 qL_280 (by rw [List.drop_drop]; exact qLd_320)
theorem qLd_240 : (kL_law.drop 240).all (am_chk mL_law) = true := am_all_split 40 qL_240 (by rw [List.drop_drop]; exact qLd_280)
theorem qLd_200 : (kL_law.drop 200).all (am_chk mL_law) = true := am_all_split 40 qL_200 (by rw [List.drop_drop]; exact qLd_240)
theorem qLd_160 : (kL_law.drop 160).all (am_chk mL_law) = true := am_all_split 40 qL_160 (by rw [List.drop_drop]; exact qLd_200)
theorem qLd_120 : (kL_law.drop 120).all (am_chk mL_law) = true := am_all_split 40 qL_120 (by rw [List.drop_drop]; exact qLd_160)
theorem qLd_80 : (kL_law.drop 80).all (am_chk mL_law) = true := am_all_split 40 qL_80 (by rw [List.drop_drop]; exact qLd_120)
theorem qLd_40 : (kL_law.drop 40).all (am_chk mL_law) = true := am_all_split 40 qL_40 (by rw [List.drop_drop]; exact qLd_80)
theorem qLd_0 : (kL_law.drop 0).all (am_chk mL_law) = true := am_all_split 40 qL_0 (by rw [List.drop_drop]; exact qLd_40)
theorem qL_law : kL_law.all (am_chk mL_law) = true := qLd_0
/-- the methods that are walked (not Math's) -/
def am_msW : List am_M := [mX0_init, mX0_clear, mX0_add, mX0_offer, mX0_leastSum, mX0_fullSet, mX0_partSum, mX1_init, mX1_toldCount, mX1_isAbout, mX2_init, mX2_dayPrice, mX3_init, mX3_suits, mX3_fits, mX3_take, mX3_release, mX4_init, mX4_dueDay, mX4_markAt, mX4_wanted, mX4_misfitOn, mX4_misfitHere, mX4_placeNumber, mX4_isStuck, mX5_init, mX5_clock, mX5_hours, mX5_prices, mX5_shelf, mX5_put, mX5_fee, mX5_give, mX5_claim, mX5_mark, mX5_means, mX5_ask, mX5_settle, mX5_misfit, mX5_tidy, mX5_least, mX5_sell, mX5_pay, mX5_tear, mX5_mend, mX5_shelfOf, mX5_thing, mX5_claimOf, mX5_count, mX5_isWithin, mX5_isPrice, mX5_asNumber, mX5_dayOf, mX5_today, mX5_isOpen, mX5_shelfAt, mX5_thingAt, mX5_claimAt, mX5_ticketOf, mX5_checkOf, mX5_isTicket, mX5_lastRowDay, mX5_rowOn, mX5_feeOf, mX5_letOldCoinsFall, mX5_shelfForNew, mX5_isNearer, mX5_takeAway, mX5_meantBy, mX5_firstMeantBy, mX5_greatestHeap, mX5_isContested, mX5_makeBestMove, mX5_shelfForMove, mX5_move, mX5_thingsIn, mX5_coinsKept, mX6_init, mX6_in, mX6_gap, mX6_isOpen, mX6_hours, mX6_clock, mX6_prices, mX6_rowOf, mX6_shelf, mX6_free, mX6_suits, mX6_fits, mX6_wanted, mX6_misfitOn, mX6_ticketOf, mX6_put, mX6_feeOf, mX6_thingOf, mX6_fee, mX6_leaves, mX6_give, mX6_claim, mX6_isClaim, mX6_markOf, mX6_isMeant, mX6_meant, mX6_manyTold, mX6_means, mX6_mark, mX6_ask, mX6_settle, mX6_misfit, mX6_tidy, mX6_least, mX6_sell, mX6_pay, mX6_tear, mX6_mend, mX6_shelfOf, mX6_thing, mX6_claimOf, mX6_count, mL_law]
theorem am_ok : ∀ M ∈ am_msW, M.2.2.2.2.2.all (am_chk M) = true := by
  intro M hM
  simp only [am_msW, List.mem_cons, List.not_mem_nil, or_false] at hM
  rcases hM with rfl | rfl | rfl | rfl | rfl | rfl | rfl | rfl | rfl | rfl | rfl | rfl | rfl | rfl | rfl | rfl | rfl | rfl | rfl | rfl | rfl | rfl | rfl | rfl | rfl | rfl | rfl | rfl | rfl | rfl | rfl | rfl | rfl | rfl | rfl | rfl | rfl | rfl | rfl | rfl | rfl | rfl | rfl | rfl | rfl | rfl | rfl | rfl | rfl | rfl | rfl | rfl | rfl | rfl | rfl | rfl | rfl | rfl | rfl | rfl | rfl | rfl | rfl | rfl | rfl | rfl | rfl | rfl | rfl | rfl | rfl | rfl | rfl | rfl | rfl | rfl | rfl | rfl | rfl | rfl | rfl | rfl | rfl | rfl | rfl | rfl | rfl | rfl | rfl | rfl | rfl | rfl | rfl | rfl | rfl | rfl | rfl | rfl | rfl | rfl | rfl | rfl | rfl | rfl | rfl | rfl | rfl | rfl | rfl | rfl | rfl | rfl | rfl | rfl | rfl | rfl | rfl | rfl | rfl | rfl
  · exact qX0_init
  · exact qX0_clear
  · exact qX0_add
  · exact qX0_offer
  · exact qX0_leastSum
  · exact qX0_fullSet
  · exact qX0_partSum
  · exact qX1_init
  · exact qX1_toldCount
  · exact qX1_isAbout
  · exact qX2_init
  · exact qX2_dayPrice
  · exact qX3_init
  · exact qX3_suits
  · exact qX3_fits
  · exact qX3_take
  · exact qX3_release
  · exact qX4_init
  · exact qX4_dueDay
  · exact qX4_markAt
  · exact qX4_wanted
  · exact qX4_misfitOn
  · exact qX4_misfitHere
  · exact qX4_placeNumber
  · exact qX4_isStuck
  · exact qX5_init
  · exact qX5_clock
  · exact qX5_hours
  · exact qX5_prices
  · exact qX5_shelf
  · exact qX5_put
  · exact qX5_fee
  · exact qX5_give
  · exact qX5_claim
  · exact qX5_mark
  · exact qX5_means
  · exact qX5_ask
  · exact qX5_settle
  · exact qX5_misfit
  · exact qX5_tidy
  · exact qX5_least
  · exact qX5_sell
  · exact qX5_pay
  · exact qX5_tear
  · exact qX5_mend
  · exact qX5_shelfOf
  · exact qX5_thing
  · exact qX5_claimOf
  · exact qX5_count
  · exact qX5_isWithin
  · exact qX5_isPrice
  · exact qX5_asNumber
  · exact qX5_dayOf
  · exact qX5_today
  · exact qX5_isOpen
  · exact qX5_shelfAt
  · exact qX5_thingAt
  · exact qX5_claimAt
  · exact qX5_ticketOf
  · exact qX5_checkOf
  · exact qX5_isTicket
  · exact qX5_lastRowDay
  · exact qX5_rowOn
  · exact qX5_feeOf
  · exact qX5_letOldCoinsFall
  · exact qX5_shelfForNew
  · exact qX5_isNearer
  · exact qX5_takeAway
  · exact qX5_meantBy
  · exact qX5_firstMeantBy
  · exact qX5_greatestHeap
  · exact qX5_isContested
  · exact qX5_makeBestMove
  · exact qX5_shelfForMove
  · exact qX5_move
  · exact qX5_thingsIn
  · exact qX5_coinsKept
  · exact qX6_init
  · exact qX6_in
  · exact qX6_gap
  · exact qX6_isOpen
  · exact qX6_hours
  · exact qX6_clock
  · exact qX6_prices
  · exact qX6_rowOf
  · exact qX6_shelf
  · exact qX6_free
  · exact qX6_suits
  · exact qX6_fits
  · exact qX6_wanted
  · exact qX6_misfitOn
  · exact qX6_ticketOf
  · exact qX6_put
  · exact qX6_feeOf
  · exact qX6_thingOf
  · exact qX6_fee
  · exact qX6_leaves
  · exact qX6_give
  · exact qX6_claim
  · exact qX6_isClaim
  · exact qX6_markOf
  · exact qX6_isMeant
  · exact qX6_meant
  · exact qX6_manyTold
  · exact qX6_means
  · exact qX6_mark
  · exact qX6_ask
  · exact qX6_settle
  · exact qX6_misfit
  · exact qX6_tidy
  · exact qX6_least
  · exact qX6_sell
  · exact qX6_pay
  · exact qX6_tear
  · exact qX6_mend
  · exact qX6_shelfOf
  · exact qX6_thing
  · exact qX6_claimOf
  · exact qX6_count
  · exact qL_law
