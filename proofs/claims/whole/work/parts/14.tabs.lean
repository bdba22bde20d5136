/-! THE METHODS BY THEIR NUMBERS, WITH THEIR ROOMS; CHECKS OF THE TABLES' WORDS -/
def MTl_0 : List Mi := [
  (yX0_init, cX0_init, 2, none, [], { frames := 1, cells := 1, slots := 8, locals := 12 }),
  (yX0_begin, cX0_begin, 6, none, [], { frames := 0, cells := 0, slots := 0, locals := 0 }),
  (yX0_free, cX0_free, 1, some .long, [], { frames := 0, cells := 0, slots := 0, locals := 0 }),
  (yX0_noteApproval, cX0_noteApproval, 2, none, [], { frames := 0, cells := 0, slots := 0, locals := 0 }),
  (yX0_approvedSince, cX0_approvedSince, 4, some .int, [], { frames := 0, cells := 0, slots := 0, locals := 0 }),
  (yX1_init, cX1_init, 2, none, [], { frames := 2, cells := 102, slots := 19440, locals := 33 }),
  (yX1_find, cX1_find, 4, some .int, [], { frames := 2, cells := 0, slots := 0, locals := 47 }),
  (yX1_keep, cX1_keep, 7, none, [], { frames := 2, cells := 0, slots := 0, locals := 47 }),
  (yX1_takeRow, cX1_takeRow, 2, some .int, [], { frames := 0, cells := 0, slots := 0, locals := 0 }),
  (yX2_init, cX2_init, 3, none, [], { frames := 2, cells := 188, slots := 2864, locals := 32 }),
  (yX2_find, cX2_find, 3, some (.object "PaymentSwitch$Payment"), [], { frames := 0, cells := 0, slots := 0, locals := 0 }),
  (yX2_findKey, cX2_findKey, 4, some (.object "PaymentSwitch$Payment"), [], { frames := 2, cells := 0, slots := 0, locals := 46 }),
  (yX2_begin, cX2_begin, 4, some (.object "PaymentSwitch$Payment"), [], { frames := 3, cells := 0, slots := 0, locals := 70 }),
  (yX2_hold, cX2_hold, 5, none, [], { frames := 1, cells := 0, slots := 0, locals := 21 }),
  (yX2_holdOnly, cX2_holdOnly, 4, none, [], { frames := 0, cells := 0, slots := 0, locals := 0 }),
  (yX2_release, cX2_release, 2, none, [], { frames := 1, cells := 0, slots := 0, locals := 23 }),
  (yX2_finish, cX2_finish, 3, none, [], { frames := 1, cells := 0, slots := 0, locals := 23 }),
  (yX2_clear, cX2_clear, 6, none, [], { frames := 2, cells := 0, slots := 0, locals := 45 }),
  (yX2_advance, cX2_advance, 3, none, [], { frames := 3, cells := 0, slots := 0, locals := 66 }),
  (yX2_lapse, cX2_lapse, 2, none, [], { frames := 2, cells := 0, slots := 0, locals := 45 }),
  (yX2_isOverdue, cX2_isOverdue, 2, some .boolean, [], { frames := 0, cells := 0, slots := 0, locals := 0 }),
  (yX2_chargeBack, cX2_chargeBack, 5, none, [], { frames := 1, cells := 0, slots := 0, locals := 24 }),
  (yX2_contest, cX2_contest, 3, none, [], { frames := 1, cells := 0, slots := 0, locals := 24 }),
  (yX2_judge, cX2_judge, 4, none, [], { frames := 1, cells := 0, slots := 0, locals := 24 }),
  (yX2_close, cX2_close, 4, none, [], { frames := 0, cells := 0, slots := 0, locals := 0 }),
  (yX2_forget, cX2_forget, 4, some .int, [], { frames := 2, cells := 0, slots := 0, locals := 42 }),
  (yX2_isOver, cX2_isOver, 2, some .boolean, [], { frames := 1, cells := 0, slots := 0, locals := 21 }),
  (yX2_countWrongs, cX2_countWrongs, 4, some .int, [], { frames := 2, cells := 0, slots := 0, locals := 47 }),
  (yX2_isMadeOfPayments, cX2_isMadeOfPayments, 8, some .boolean, [], { frames := 1, cells := 0, slots := 0, locals := 20 }),
  (yX3_init, cX3_init, 2, none, [], { frames := 1, cells := 1, slots := 400, locals := 12 }),
  (yX3_clear, cX3_clear, 1, none, [], { frames := 0, cells := 0, slots := 0, locals := 0 }),
  (yX3_add, cX3_add, 2, none, [], { frames := 0, cells := 0, slots := 0, locals := 0 }),
  (yX3_drop, cX3_drop, 2, none, [], { frames := 1, cells := 0, slots := 0, locals := 21 }),
  (yX3_at, cX3_at, 2, some .int, [], { frames := 0, cells := 0, slots := 0, locals := 0 }),
  (yX3_flip, cX3_flip, 3, none, [], { frames := 0, cells := 0, slots := 0, locals := 0 }),
  (yX3_copy, cX3_copy, 3, none, [], { frames := 1, cells := 0, slots := 0, locals := 21 }),
  (yX3_isRepeatOf, cX3_isRepeatOf, 4, some .boolean, [], { frames := 1, cells := 0, slots := 0, locals := 21 }),
  (yX4_init, cX4_init, 5, none, [], { frames := 2, cells := 21, slots := 1110, locals := 33 }),
  (yX4_take, cX4_take, 8, some .int, [], { frames := 6, cells := 0, slots := 0, locals := 149 }),
  (yX4_beginAnswer, cX4_beginAnswer, 4, none, [], { frames := 2, cells := 0, slots := 0, locals := 46 })]
def MTl_1 : List Mi := [
  (yX4_finishAnswer, cX4_finishAnswer, 2, some .int, [], { frames := 4, cells := 0, slots := 0, locals := 93 }),
  (yX4_answerAgain, cX4_answerAgain, 2, some .int, [], { frames := 2, cells := 0, slots := 0, locals := 43 }),
  (yX4_isAnswer, cX4_isAnswer, 1, some .boolean, [], { frames := 0, cells := 0, slots := 0, locals := 0 }),
  (yX4_isComplete, cX4_isComplete, 1, some .boolean, [], { frames := 0, cells := 0, slots := 0, locals := 0 }),
  (yX4_serve, cX4_serve, 3, some .int, [], { frames := 5, cells := 0, slots := 0, locals := 127 }),
  (yX4_authorise, cX4_authorise, 12, some .int, [], { frames := 4, cells := 0, slots := 0, locals := 96 }),
  (yX4_refusal, cX4_refusal, 5, some .int, [], { frames := 3, cells := 0, slots := 0, locals := 72 }),
  (yX4_clear, cX4_clear, 6, some .int, [], { frames := 3, cells := 0, slots := 0, locals := 70 }),
  (yX4_reverse, cX4_reverse, 7, some .int, [], { frames := 4, cells := 0, slots := 0, locals := 93 }),
  (yX4_reconcile, cX4_reconcile, 6, some .int, [], { frames := 2, cells := 0, slots := 0, locals := 52 }),
  (yX5_init, cX5_init, 2, none, [], { frames := 1, cells := 0, slots := 0, locals := 12 }),
  (yX5_hasRoom, cX5_hasRoom, 1, some .boolean, [], { frames := 0, cells := 0, slots := 0, locals := 0 }),
  (yX5_writeOne, cX5_writeOne, 1, some .boolean, [], { frames := 2, cells := 0, slots := 0, locals := 42 }),
  (yX5_writeSnapshot, cX5_writeSnapshot, 2, some .boolean, [], { frames := 2, cells := 0, slots := 0, locals := 42 }),
  (yX5_spend, cX5_spend, 2, none, [], { frames := 1, cells := 0, slots := 0, locals := 21 }),
  (yX5_failAfter, cX5_failAfter, 2, none, [], { frames := 0, cells := 0, slots := 0, locals := 0 }),
  (yX5_restart, cX5_restart, 1, none, [], { frames := 0, cells := 0, slots := 0, locals := 0 }),
  (yX6_init, cX6_init, 1, none, [], { frames := 1, cells := 18, slots := 704, locals := 12 }),
  (yX6_begin, cX6_begin, 2, none, [], { frames := 0, cells := 0, slots := 0, locals := 0 }),
  (yX6_has, cX6_has, 2, some .boolean, [], { frames := 0, cells := 0, slots := 0, locals := 0 }),
  (yX6_drop, cX6_drop, 2, none, [], { frames := 0, cells := 0, slots := 0, locals := 0 }),
  (yX6_start, cX6_start, 3, none, [], { frames := 0, cells := 0, slots := 0, locals := 0 }),
  (yX6_putNumber, cX6_putNumber, 5, none, [], { frames := 1, cells := 0, slots := 0, locals := 28 }),
  (yX6_putFixed, cX6_putFixed, 5, none, [], { frames := 1, cells := 0, slots := 0, locals := 28 }),
  (yX6_putOriginal, cX6_putOriginal, 4, none, [], { frames := 2, cells := 0, slots := 0, locals := 52 }),
  (yX6_overlay, cX6_overlay, 9, none, [], { frames := 0, cells := 0, slots := 0, locals := 0 }),
  (yX6_putLetters, cX6_putLetters, 6, none, [], { frames := 1, cells := 0, slots := 0, locals := 22 }),
  (yX6_putRow, cX6_putRow, 5, none, [], { frames := 1, cells := 0, slots := 0, locals := 22 }),
  (yX6_copyRow, cX6_copyRow, 4, none, [], { frames := 0, cells := 0, slots := 0, locals := 0 }),
  (yX6_isRow, cX6_isRow, 5, some .boolean, [], { frames := 0, cells := 0, slots := 0, locals := 0 }),
  (yX6_numberOf, cX6_numberOf, 2, some .long, [], { frames := 1, cells := 0, slots := 0, locals := 26 }),
  (yX6_section, cX6_section, 7, some .long, [], { frames := 0, cells := 0, slots := 0, locals := 0 }),
  (yX6_isOriginalOf, cX6_isOriginalOf, 3, some .boolean, [], { frames := 1, cells := 0, slots := 0, locals := 26 }),
  (yX6_writeTo, cX6_writeTo, 3, none, [], { frames := 3, cells := 0, slots := 0, locals := 71 }),
  (yX6_writeMaps, cX6_writeMaps, 8, none, [], { frames := 2, cells := 0, slots := 0, locals := 44 }),
  (yX6_writeMap, cX6_writeMap, 4, none, [], { frames := 1, cells := 0, slots := 0, locals := 21 }),
  (yX6_writeLength, cX6_writeLength, 4, none, [], { frames := 1, cells := 0, slots := 0, locals := 21 }),
  (yX6_writeSigns, cX6_writeSigns, 8, none, [], { frames := 1, cells := 0, slots := 0, locals := 21 }),
  (yX7_init, cX7_init, 1, none, [], { frames := 1, cells := 2, slots := 31, locals := 12 }),
  (yX7_begin, cX7_begin, 4, none, [], { frames := 2, cells := 0, slots := 0, locals := 47 })]
def MTl_2 : List Mi := [
  (yX7_hasKey, cX7_hasKey, 3, some .boolean, [], { frames := 1, cells := 0, slots := 0, locals := 24 }),
  (yX7_hasCard, cX7_hasCard, 2, some .boolean, [], { frames := 1, cells := 0, slots := 0, locals := 24 }),
  (yX7_hasApproval, cX7_hasApproval, 5, some .boolean, [], { frames := 0, cells := 0, slots := 0, locals := 0 }),
  (yX7_isDisputeOpen, cX7_isDisputeOpen, 1, some .boolean, [], { frames := 0, cells := 0, slots := 0, locals := 0 }),
  (yX7_tell, cX7_tell, 2, some .long, [], { frames := 0, cells := 0, slots := 0, locals := 0 }),
  (yX7_tellDispute, cX7_tellDispute, 2, some .long, [], { frames := 0, cells := 0, slots := 0, locals := 0 }),
  (yX8_init, cX8_init, 1, none, [], { frames := 1, cells := 6, slots := 38, locals := 12 }),
  (yX8_shareOut, cX8_shareOut, 11, none, [], { frames := 0, cells := 0, slots := 0, locals := 0 }),
  (yX8_giveBack, cX8_giveBack, 5, none, [], { frames := 0, cells := 0, slots := 0, locals := 0 }),
  (yX8_addToBatch, cX8_addToBatch, 4, none, [], { frames := 0, cells := 0, slots := 0, locals := 0 }),
  (yX8_emptyBatch, cX8_emptyBatch, 2, none, [], { frames := 0, cells := 0, slots := 0, locals := 0 }),
  (yX8_settle, cX8_settle, 1, none, [], { frames := 1, cells := 0, slots := 0, locals := 22 }),
  (yX8_settleRow, cX8_settleRow, 3, none, [], { frames := 0, cells := 0, slots := 0, locals := 0 }),
  (yX8_countUneven, cX8_countUneven, 2, some .int, [], { frames := 1, cells := 0, slots := 0, locals := 23 }),
  (yX8_sumOf, cX8_sumOf, 4, some .long, [], { frames := 0, cells := 0, slots := 0, locals := 0 }),
  (yX9_init, cX9_init, 1, none, [], { frames := 2, cells := 19, slots := 708, locals := 32 }),
  (yX9_read, cX9_read, 2, none, [], { frames := 5, cells := 0, slots := 0, locals := 116 }),
  (yX9_refuse, cX9_refuse, 3, some .boolean, [], { frames := 0, cells := 0, slots := 0, locals := 0 }),
  (yX9_lookFor, cX9_lookFor, 3, some .boolean, [], { frames := 1, cells := 0, slots := 0, locals := 22 }),
  (yX9_lookForDigits, cX9_lookForDigits, 7, some .boolean, [], { frames := 2, cells := 0, slots := 0, locals := 44 }),
  (yX9_digitOf, cX9_digitOf, 6, some .int, [], { frames := 1, cells := 0, slots := 0, locals := 21 }),
  (yX9_numberHere, cX9_numberHere, 5, some .int, [], { frames := 2, cells := 0, slots := 0, locals := 46 }),
  (yX9_readType, cX9_readType, 4, some .boolean, [], { frames := 3, cells := 0, slots := 0, locals := 70 }),
  (yX9_readMaps, cX9_readMaps, 6, some .boolean, [], { frames := 2, cells := 0, slots := 0, locals := 44 }),
  (yX9_hasBit, cX9_hasBit, 2, some .boolean, [], { frames := 1, cells := 0, slots := 0, locals := 21 }),
  (yX9_readFields, cX9_readFields, 3, some .boolean, [], { frames := 4, cells := 0, slots := 0, locals := 94 }),
  (yX9_readLength, cX9_readLength, 5, some .boolean, [], { frames := 3, cells := 0, slots := 0, locals := 70 }),
  (yX9_readDigits, cX9_readDigits, 5, some .boolean, [], { frames := 3, cells := 0, slots := 0, locals := 70 }),
  (yX9_readLetters, cX9_readLetters, 6, some .boolean, [], { frames := 2, cells := 0, slots := 0, locals := 44 }),
  (yX9_signOf, cX9_signOf, 1, some .int, [], { frames := 0, cells := 0, slots := 0, locals := 0 }),
  (yX10_init, cX10_init, 2, none, [], { frames := 2, cells := 137, slots := 1584, locals := 33 }),
  (yX10_addAcquirer, cX10_addAcquirer, 2, some .int, [], { frames := 0, cells := 0, slots := 0, locals := 0 }),
  (yX10_addIssuer, cX10_addIssuer, 2, some .int, [], { frames := 0, cells := 0, slots := 0, locals := 0 }),
  (yX10_findRoute, cX10_findRoute, 4, some .int, [], { frames := 0, cells := 0, slots := 0, locals := 0 }),
  (yX10_lead, cX10_lead, 6, some .int, [], { frames := 1, cells := 0, slots := 0, locals := 23 }),
  (yX10_addAccount, cX10_addAccount, 6, some .int, [], { frames := 1, cells := 0, slots := 0, locals := 25 }),
  (yX10_addCard, cX10_addCard, 4, some .int, [], { frames := 0, cells := 0, slots := 0, locals := 0 }),
  (yX10_setRules, cX10_setRules, 5, none, [], { frames := 0, cells := 0, slots := 0, locals := 0 }),
  (yX10_findNumber, cX10_findNumber, 4, some .int, [], { frames := 0, cells := 0, slots := 0, locals := 0 }),
  (yX10_issuerOfNumber, cX10_issuerOfNumber, 4, some .int, [], { frames := 2, cells := 0, slots := 0, locals := 50 })]
def MTl_3 : List Mi := [
  (yX10_issuerOfCard, cX10_issuerOfCard, 3, some .int, [], { frames := 2, cells := 0, slots := 0, locals := 50 }),
  (yX10_longestRoute, cX10_longestRoute, 8, some .int, [], { frames := 1, cells := 0, slots := 0, locals := 23 }),
  (yX10_findCard, cX10_findCard, 3, some .int, [], { frames := 1, cells := 0, slots := 0, locals := 26 }),
  (yX11_init, cX11_init, 6, none, [], { frames := 3, cells := 494, slots := 26864, locals := 57 }),
  (yX11_acquirer, cX11_acquirer, 2, some .int, [], { frames := 7, cells := 2, slots := 12, locals := 101 }),
  (yX11_issuer, cX11_issuer, 2, some .int, [], { frames := 7, cells := 2, slots := 12, locals := 101 }),
  (yX11_route, cX11_route, 4, some .int, [], { frames := 7, cells := 3, slots := 18, locals := 101 }),
  (yX11_account, cX11_account, 6, some .int, [], { frames := 7, cells := 3, slots := 18, locals := 101 }),
  (yX11_card, cX11_card, 5, some .int, [], { frames := 7, cells := 3, slots := 18, locals := 101 }),
  (yX11_rules, cX11_rules, 5, none, [], { frames := 7, cells := 3, slots := 18, locals := 101 }),
  (yX11_open, cX11_open, 1, none, [], { frames := 7, cells := 1, slots := 6, locals := 101 }),
  (yX11_message, cX11_message, 2, none, [], { frames := 7, cells := 1, slots := 6, locals := 101 }),
  (yX11_digits, cX11_digits, 5, none, [], { frames := 7, cells := 1, slots := 6, locals := 101 }),
  (yX11_letters, cX11_letters, 6, none, [], { frames := 7, cells := 2, slots := 12, locals := 101 }),
  (yX11_approval, cX11_approval, 2, none, [], { frames := 7, cells := 1, slots := 6, locals := 101 }),
  (yX11_original, cX11_original, 4, none, [], { frames := 7, cells := 1, slots := 6, locals := 101 }),
  (yX11_omit, cX11_omit, 4, some .boolean, [], { frames := 7, cells := 1, slots := 6, locals := 101 }),
  (yX11_compose, cX11_compose, 1, some .int, [], { frames := 4, cells := 0, slots := 0, locals := 93 }),
  (yX11_ask, cX11_ask, 9, some .int, [], { frames := 7, cells := 2, slots := 12, locals := 113 }),
  (yX11_present, cX11_present, 7, some .int, [], { frames := 8, cells := 3, slots := 18, locals := 123 }),
  (yX11_undo, cX11_undo, 7, some .int, [], { frames := 8, cells := 3, slots := 18, locals := 123 }),
  (yX11_total, cX11_total, 3, some .int, [], { frames := 7, cells := 2, slots := 12, locals := 113 }),
  (yX11_feed, cX11_feed, 2, some .int, [], { frames := 7, cells := 2, slots := 12, locals := 101 }),
  (yX11_trim, cX11_trim, 2, some .int, [], { frames := 7, cells := 1, slots := 6, locals := 101 }),
  (yX11_spoil, cX11_spoil, 3, some .int, [], { frames := 7, cells := 1, slots := 6, locals := 101 }),
  (yX11_fault, cX11_fault, 2, some .int, [], { frames := 7, cells := 1, slots := 6, locals := 137 }),
  (yX11_send, cX11_send, 1, some .int, [], { frames := 7, cells := 1, slots := 6, locals := 176 }),
  (yX11_size, cX11_size, 1, some .int, [], { frames := 0, cells := 0, slots := 0, locals := 0 }),
  (yX11_byteAt, cX11_byteAt, 2, some .int, [], { frames := 7, cells := 1, slots := 6, locals := 101 }),
  (yX11_ticks, cX11_ticks, 2, some .int, [], { frames := 7, cells := 2, slots := 12, locals := 101 }),
  (yX11_block, cX11_block, 3, some .int, [], { frames := 7, cells := 2, slots := 12, locals := 101 }),
  (yX11_charge, cX11_charge, 5, some .int, [], { frames := 8, cells := 3, slots := 18, locals := 123 }),
  (yX11_represent, cX11_represent, 3, some .int, [], { frames := 8, cells := 2, slots := 12, locals := 123 }),
  (yX11_decide, cX11_decide, 4, some .int, [], { frames := 8, cells := 2, slots := 12, locals := 123 }),
  (yX11_cutoff, cX11_cutoff, 2, some .int, [], { frames := 7, cells := 1, slots := 6, locals := 101 }),
  (yX11_checkpoint, cX11_checkpoint, 2, some .int, [], { frames := 7, cells := 1, slots := 6, locals := 101 }),
  (yX11_crash, cX11_crash, 2, none, [], { frames := 7, cells := 2, slots := 12, locals := 101 }),
  (yX11_recover, cX11_recover, 1, some .int, [], { frames := 7, cells := 1, slots := 6, locals := 101 }),
  (yX11_isDown, cX11_isDown, 1, some .boolean, [], { frames := 0, cells := 0, slots := 0, locals := 0 }),
  (yX11_count, cX11_count, 2, some .int, [], { frames := 7, cells := 2, slots := 12, locals := 101 })]
def MTl_4 : List Mi := [
  (yX11_funds, cX11_funds, 4, some .long, [], { frames := 7, cells := 2, slots := 12, locals := 101 }),
  (yX11_payment, cX11_payment, 4, some .long, [], { frames := 8, cells := 3, slots := 18, locals := 123 }),
  (yX11_acquired, cX11_acquired, 3, some .long, [], { frames := 7, cells := 2, slots := 12, locals := 101 }),
  (yX11_issued, cX11_issued, 3, some .long, [], { frames := 7, cells := 2, slots := 12, locals := 101 }),
  (yX11_audit, cX11_audit, 1, some .int, [], { frames := 7, cells := 1, slots := 6, locals := 101 }),
  (yX11_demand, cX11_demand, 1, none, [], { frames := 6, cells := 1, slots := 6, locals := 81 }),
  (yX11_permit, cX11_permit, 1, none, [], { frames := 6, cells := 1, slots := 6, locals := 81 }),
  (yX11_isRunning, cX11_isRunning, 1, some .boolean, [], { frames := 0, cells := 0, slots := 0, locals := 0 }),
  (yX11_wanted, cX11_wanted, 3, some (.object "PaymentSwitch$Payment"), [], { frames := 7, cells := 2, slots := 12, locals := 101 }),
  (yX11_draftFor, cX11_draftFor, 4, none, [], { frames := 2, cells := 0, slots := 0, locals := 52 }),
  (yX11_isWithin, cX11_isWithin, 6, some .boolean, [], { frames := 0, cells := 0, slots := 0, locals := 0 }),
  (yX11_slotOf, cX11_slotOf, 2, some .int, [], { frames := 0, cells := 0, slots := 0, locals := 0 }),
  (yX11_isLettered, cX11_isLettered, 1, some .boolean, [], { frames := 0, cells := 0, slots := 0, locals := 0 }),
  (yX11_fits, cX11_fits, 3, some .boolean, [], { frames := 1, cells := 0, slots := 0, locals := 24 }),
  (yX11_digitCount, cX11_digitCount, 5, some .int, [], { frames := 0, cells := 0, slots := 0, locals := 0 }),
  (yX11_tenTo, cX11_tenTo, 4, some .long, [], { frames := 0, cells := 0, slots := 0, locals := 0 }),
  (yX11_isGood, cX11_isGood, 7, some .boolean, [], { frames := 0, cells := 0, slots := 0, locals := 0 }),
  (yX11_shares, cX11_shares, 2, some .int, [], { frames := 0, cells := 0, slots := 0, locals := 0 }),
  (yX12_init, cX12_init, 2, none, [], { frames := 1, cells := 55, slots := 17487, locals := 21 }),
  (yX12_thrown, cX12_thrown, 1, some .int, [], { frames := 0, cells := 0, slots := 0, locals := 0 }),
  (yX12_clear, cX12_clear, 2, none, [], { frames := 0, cells := 0, slots := 0, locals := 0 }),
  (yX12_goes, cX12_goes, 3, some .boolean, [], { frames := 0, cells := 0, slots := 0, locals := 0 }),
  (yX12_isOpen, cX12_isOpen, 1, some .boolean, [], { frames := 0, cells := 0, slots := 0, locals := 0 }),
  (yX12_width, cX12_width, 5, some .int, [], { frames := 0, cells := 0, slots := 0, locals := 0 }),
  (yX12_fits, cX12_fits, 3, some .boolean, [], { frames := 1, cells := 0, slots := 0, locals := 24 }),
  (yX12_setDigits, cX12_setDigits, 8, none, [], { frames := 0, cells := 0, slots := 0, locals := 0 }),
  (yX12_acquirer, cX12_acquirer, 2, some .int, [], { frames := 1, cells := 0, slots := 0, locals := 22 }),
  (yX12_issuer, cX12_issuer, 2, some .int, [], { frames := 1, cells := 0, slots := 0, locals := 22 }),
  (yX12_route, cX12_route, 7, some .int, [], { frames := 1, cells := 0, slots := 0, locals := 24 }),
  (yX12_isAmount, cX12_isAmount, 2, some .boolean, [], { frames := 0, cells := 0, slots := 0, locals := 0 }),
  (yX12_account, cX12_account, 6, some .int, [], { frames := 1, cells := 0, slots := 0, locals := 22 }),
  (yX12_routed, cX12_routed, 9, some .int, [], { frames := 0, cells := 0, slots := 0, locals := 0 }),
  (yX12_isGood, cX12_isGood, 6, some .boolean, [], { frames := 0, cells := 0, slots := 0, locals := 0 }),
  (yX12_same, cX12_same, 8, some .boolean, [], { frames := 0, cells := 0, slots := 0, locals := 0 }),
  (yX12_cardOf, cX12_cardOf, 6, some .int, [], { frames := 1, cells := 0, slots := 0, locals := 27 }),
  (yX12_card, cX12_card, 8, some .int, [], { frames := 2, cells := 0, slots := 0, locals := 52 }),
  (yX12_isTime, cX12_isTime, 1, some .boolean, [], { frames := 0, cells := 0, slots := 0, locals := 0 }),
  (yX12_rules, cX12_rules, 5, none, [], { frames := 1, cells := 0, slots := 0, locals := 22 }),
  (yX12_open, cX12_open, 1, none, [], { frames := 0, cells := 0, slots := 0, locals := 0 }),
  (yX12_fieldOf, cX12_fieldOf, 4, some .int, [], { frames := 0, cells := 0, slots := 0, locals := 0 })]
def MTl_5 : List Mi := [
  (yX12_begin, cX12_begin, 2, none, [], { frames := 1, cells := 0, slots := 0, locals := 21 }),
  (yX12_message, cX12_message, 2, none, [], { frames := 2, cells := 0, slots := 0, locals := 42 }),
  (yX12_fill, cX12_fill, 4, none, [], { frames := 1, cells := 0, slots := 0, locals := 27 }),
  (yX12_digits, cX12_digits, 5, none, [], { frames := 2, cells := 0, slots := 0, locals := 50 }),
  (yX12_letters, cX12_letters, 8, none, [], { frames := 1, cells := 0, slots := 0, locals := 23 }),
  (yX12_setCode, cX12_setCode, 5, none, [], { frames := 0, cells := 0, slots := 0, locals := 0 }),
  (yX12_approval, cX12_approval, 2, none, [], { frames := 1, cells := 0, slots := 0, locals := 24 }),
  (yX12_setOriginal, cX12_setOriginal, 6, none, [], { frames := 1, cells := 0, slots := 0, locals := 27 }),
  (yX12_original, cX12_original, 4, none, [], { frames := 2, cells := 0, slots := 0, locals := 52 }),
  (yX12_omit, cX12_omit, 4, some .boolean, [], { frames := 1, cells := 0, slots := 0, locals := 23 }),
  (yX12_pack, cX12_pack, 6, none, [], { frames := 0, cells := 0, slots := 0, locals := 0 }),
  (yX12_write, cX12_write, 8, none, [], { frames := 2, cells := 0, slots := 0, locals := 53 }),
  (yX12_writeField, cX12_writeField, 7, none, [], { frames := 1, cells := 0, slots := 0, locals := 27 }),
  (yX12_compose, cX12_compose, 1, some .int, [], { frames := 3, cells := 0, slots := 0, locals := 80 }),
  (yX12_fails, cX12_fails, 3, none, [], { frames := 0, cells := 0, slots := 0, locals := 0 }),
  (yX12_takeDigits, cX12_takeDigits, 10, none, [], { frames := 1, cells := 0, slots := 0, locals := 22 }),
  (yX12_takeLetters, cX12_takeLetters, 7, none, [], { frames := 1, cells := 0, slots := 0, locals := 22 }),
  (yX12_isType, cX12_isType, 2, some .boolean, [], { frames := 0, cells := 0, slots := 0, locals := 0 }),
  (yX12_takeMaps, cX12_takeMaps, 5, none, [], { frames := 1, cells := 0, slots := 0, locals := 23 }),
  (yX12_takeField, cX12_takeField, 5, none, [], { frames := 2, cells := 0, slots := 0, locals := 51 }),
  (yX12_readTape, cX12_readTape, 2, none, [], { frames := 3, cells := 0, slots := 0, locals := 75 }),
  (yX12_numberOf, cX12_numberOf, 6, some .long, [], { frames := 0, cells := 0, slots := 0, locals := 0 }),
  (yX12_placeOf, cX12_placeOf, 4, some .int, [], { frames := 0, cells := 0, slots := 0, locals := 0 }),
  (yX12_put, cX12_put, 6, none, [], { frames := 0, cells := 0, slots := 0, locals := 0 }),
  (yX12_ask, cX12_ask, 10, some .int, [], { frames := 4, cells := 0, slots := 0, locals := 100 }),
  (yX12_about, cX12_about, 4, none, [], { frames := 2, cells := 0, slots := 0, locals := 50 }),
  (yX12_present, cX12_present, 7, some .int, [], { frames := 4, cells := 0, slots := 0, locals := 100 }),
  (yX12_undo, cX12_undo, 7, some .int, [], { frames := 4, cells := 0, slots := 0, locals := 100 }),
  (yX12_total, cX12_total, 3, some .int, [], { frames := 4, cells := 0, slots := 0, locals := 100 }),
  (yX12_feed, cX12_feed, 2, some .int, [], { frames := 1, cells := 0, slots := 0, locals := 22 }),
  (yX12_trim, cX12_trim, 2, some .int, [], { frames := 1, cells := 0, slots := 0, locals := 22 }),
  (yX12_spoil, cX12_spoil, 3, some .int, [], { frames := 1, cells := 0, slots := 0, locals := 22 }),
  (yX12_fault, cX12_fault, 2, some .int, [], { frames := 4, cells := 0, slots := 0, locals := 96 }),
  (yX12_bit, cX12_bit, 1, some .int, [], { frames := 0, cells := 0, slots := 0, locals := 0 }),
  (yX12_isAnswer, cX12_isAnswer, 1, some .boolean, [], { frames := 0, cells := 0, slots := 0, locals := 0 }),
  (yX12_isWhole, cX12_isWhole, 5, some .boolean, [], { frames := 1, cells := 0, slots := 0, locals := 20 }),
  (yX12_copyField, cX12_copyField, 3, none, [], { frames := 0, cells := 0, slots := 0, locals := 0 }),
  (yX12_openReply, cX12_openReply, 1, none, [], { frames := 1, cells := 0, slots := 0, locals := 22 }),
  (yX12_say, cX12_say, 4, none, [], { frames := 1, cells := 0, slots := 0, locals := 27 }),
  (yX12_closeReply, cX12_closeReply, 2, some .int, [], { frames := 3, cells := 0, slots := 0, locals := 80 })]
def MTl_6 : List Mi := [
  (yX12_tell, cX12_tell, 2, none, [], { frames := 0, cells := 0, slots := 0, locals := 0 }),
  (yX12_told, cX12_told, 3, some .int, [], { frames := 4, cells := 0, slots := 0, locals := 101 }),
  (yX12_keptOne, cX12_keptOne, 4, some .int, [], { frames := 1, cells := 0, slots := 0, locals := 25 }),
  (yX12_isRepeated, cX12_isRepeated, 5, some .boolean, [], { frames := 0, cells := 0, slots := 0, locals := 0 }),
  (yX12_keep, cX12_keep, 3, none, [], { frames := 1, cells := 0, slots := 0, locals := 25 }),
  (yX12_copyKept, cX12_copyKept, 4, none, [], { frames := 0, cells := 0, slots := 0, locals := 0 }),
  (yX12_spend, cX12_spend, 1, some .boolean, [], { frames := 0, cells := 0, slots := 0, locals := 0 }),
  (yX12_send, cX12_send, 4, some .int, [], { frames := 5, cells := 0, slots := 0, locals := 123 }),
  (yX12_again, cX12_again, 3, some .int, [], { frames := 0, cells := 0, slots := 0, locals := 0 }),
  (yX12_happens, cX12_happens, 2, some .int, [], { frames := 3, cells := 0, slots := 0, locals := 81 }),
  (yX12_heldOf, cX12_heldOf, 5, some .long, [], { frames := 0, cells := 0, slots := 0, locals := 0 }),
  (yX12_lockedOf, cX12_lockedOf, 5, some .long, [], { frames := 0, cells := 0, slots := 0, locals := 0 }),
  (yX12_freeOf, cX12_freeOf, 2, some .long, [], { frames := 1, cells := 0, slots := 0, locals := 24 }),
  (yX12_approvedOf, cX12_approvedOf, 4, some .int, [], { frames := 0, cells := 0, slots := 0, locals := 0 }),
  (yX12_keyed, cX12_keyed, 4, some .int, [], { frames := 1, cells := 0, slots := 0, locals := 27 }),
  (yX12_isCard, cX12_isCard, 2, some .boolean, [], { frames := 1, cells := 0, slots := 0, locals := 27 }),
  (yX12_come, cX12_come, 4, some .int, [], { frames := 1, cells := 0, slots := 0, locals := 25 }),
  (yX12_approve, cX12_approve, 9, some .int, [], { frames := 2, cells := 0, slots := 0, locals := 52 }),
  (yX12_approved, cX12_approved, 3, none, [], { frames := 0, cells := 0, slots := 0, locals := 0 }),
  (yX12_ends, cX12_ends, 2, none, [], { frames := 0, cells := 0, slots := 0, locals := 0 }),
  (yX12_isApproval, cX12_isApproval, 2, some .boolean, [], { frames := 1, cells := 0, slots := 0, locals := 27 }),
  (yX12_clearing, cX12_clearing, 12, some .int, [], { frames := 2, cells := 0, slots := 0, locals := 50 }),
  (yX12_reverse, cX12_reverse, 5, some .int, [], { frames := 2, cells := 0, slots := 0, locals := 52 }),
  (yX12_reconcile, cX12_reconcile, 3, some .int, [], { frames := 2, cells := 0, slots := 0, locals := 50 }),
  (yX12_size, cX12_size, 1, some .int, [], { frames := 0, cells := 0, slots := 0, locals := 0 }),
  (yX12_byteAt, cX12_byteAt, 2, some .int, [], { frames := 1, cells := 0, slots := 0, locals := 22 }),
  (yX12_writes, cX12_writes, 2, some .boolean, [], { frames := 1, cells := 0, slots := 0, locals := 20 }),
  (yX12_tick, cX12_tick, 3, none, [], { frames := 1, cells := 0, slots := 0, locals := 22 }),
  (yX12_ticks, cX12_ticks, 3, some .int, [], { frames := 2, cells := 0, slots := 0, locals := 44 }),
  (yX12_block, cX12_block, 3, some .int, [], { frames := 2, cells := 0, slots := 0, locals := 41 }),
  (yX12_moves, cX12_moves, 4, none, [], { frames := 0, cells := 0, slots := 0, locals := 0 }),
  (yX12_closes, cX12_closes, 3, none, [], { frames := 0, cells := 0, slots := 0, locals := 0 }),
  (yX12_charge, cX12_charge, 5, some .int, [], { frames := 2, cells := 0, slots := 0, locals := 41 }),
  (yX12_represent, cX12_represent, 3, some .int, [], { frames := 2, cells := 0, slots := 0, locals := 41 }),
  (yX12_decide, cX12_decide, 4, some .int, [], { frames := 2, cells := 0, slots := 0, locals := 41 }),
  (yX12_isForgotten, cX12_isForgotten, 2, some .boolean, [], { frames := 0, cells := 0, slots := 0, locals := 0 }),
  (yX12_copyPayment, cX12_copyPayment, 4, none, [], { frames := 0, cells := 0, slots := 0, locals := 0 }),
  (yX12_cutoff, cX12_cutoff, 3, some .int, [], { frames := 2, cells := 0, slots := 0, locals := 41 }),
  (yX12_checkpoint, cX12_checkpoint, 4, some .int, [], { frames := 1, cells := 0, slots := 0, locals := 20 }),
  (yX12_crash, cX12_crash, 2, none, [], { frames := 1, cells := 0, slots := 0, locals := 22 })]
def MTl_7 : List Mi := [
  (yX12_recover, cX12_recover, 1, some .int, [], { frames := 0, cells := 0, slots := 0, locals := 0 }),
  (yX12_isDown, cX12_isDown, 1, some .boolean, [], { frames := 0, cells := 0, slots := 0, locals := 0 }),
  (yX12_count, cX12_count, 2, some .int, [], { frames := 1, cells := 0, slots := 0, locals := 22 }),
  (yX12_funds, cX12_funds, 3, some .long, [], { frames := 2, cells := 0, slots := 0, locals := 45 }),
  (yX12_payment, cX12_payment, 4, some .long, [], { frames := 1, cells := 0, slots := 0, locals := 23 }),
  (yX12_acquired, cX12_acquired, 3, some .long, [], { frames := 1, cells := 0, slots := 0, locals := 22 }),
  (yX12_issued, cX12_issued, 4, some .long, [], { frames := 1, cells := 0, slots := 0, locals := 22 }),
  (yX12_audit, cX12_audit, 1, some .int, [], { frames := 1, cells := 0, slots := 0, locals := 20 }),
  (yL_cell, cL_cell, 2, some .int, [], { frames := 0, cells := 0, slots := 0, locals := 0 }),
  (yL_acquirer, cL_acquirer, 4, some .int, [(0, 9, 12, 13), (0, 9, 15, 15)], { frames := 8, cells := 2, slots := 12, locals := 122 }),
  (yL_issuer, cL_issuer, 4, some .int, [(0, 9, 12, 13), (0, 9, 15, 15)], { frames := 8, cells := 2, slots := 12, locals := 122 }),
  (yL_route, cL_route, 6, some .int, [(0, 12, 15, 13), (0, 12, 19, 15)], { frames := 8, cells := 3, slots := 18, locals := 124 }),
  (yL_account, cL_account, 8, some .int, [(0, 13, 16, 13), (0, 13, 20, 15)], { frames := 8, cells := 3, slots := 18, locals := 126 }),
  (yL_card, cL_card, 6, some .int, [(0, 11, 14, 13), (0, 11, 18, 15)], { frames := 8, cells := 3, slots := 18, locals := 125 }),
  (yL_rules, cL_rules, 6, some .int, [(0, 9, 12, 13), (0, 9, 16, 15)], { frames := 8, cells := 3, slots := 18, locals := 125 }),
  (yL_open, cL_open, 2, some .int, [(0, 4, 7, 15)], { frames := 8, cells := 1, slots := 6, locals := 121 }),
  (yL_message, cL_message, 3, some .int, [(0, 5, 8, 13)], { frames := 8, cells := 1, slots := 6, locals := 122 }),
  (yL_digits, cL_digits, 5, some .int, [(0, 6, 9, 13)], { frames := 8, cells := 1, slots := 6, locals := 125 }),
  (yL_letters, cL_letters, 6, some .int, [(0, 8, 11, 13)], { frames := 8, cells := 2, slots := 12, locals := 126 }),
  (yL_approval, cL_approval, 3, some .int, [(0, 5, 8, 13)], { frames := 8, cells := 1, slots := 6, locals := 122 }),
  (yL_original, cL_original, 5, some .int, [(0, 7, 10, 13)], { frames := 8, cells := 1, slots := 6, locals := 124 }),
  (yL_omit, cL_omit, 4, some .int, [(0, 16, 19, 13)], { frames := 8, cells := 1, slots := 6, locals := 124 }),
  (yL_ask, cL_ask, 11, some .int, [(0, 20, 23, 13)], { frames := 8, cells := 2, slots := 12, locals := 141 }),
  (yL_present, cL_present, 8, some .int, [(0, 14, 17, 13), (0, 14, 21, 15)], { frames := 9, cells := 3, slots := 18, locals := 149 }),
  (yL_undo, cL_undo, 8, some .int, [(0, 14, 17, 13), (0, 14, 21, 15)], { frames := 9, cells := 3, slots := 18, locals := 149 }),
  (yL_total, cL_total, 5, some .int, [(0, 10, 13, 13), (0, 10, 17, 15)], { frames := 8, cells := 2, slots := 12, locals := 135 }),
  (yL_feed, cL_feed, 4, some .int, [(0, 9, 12, 13), (0, 9, 15, 15)], { frames := 8, cells := 2, slots := 12, locals := 122 }),
  (yL_trim, cL_trim, 4, some .int, [(0, 9, 12, 13)], { frames := 8, cells := 1, slots := 6, locals := 122 }),
  (yL_spoil, cL_spoil, 5, some .int, [(0, 10, 13, 13)], { frames := 8, cells := 1, slots := 6, locals := 123 }),
  (yL_fault, cL_fault, 4, some .int, [(0, 9, 12, 13)], { frames := 8, cells := 1, slots := 6, locals := 158 }),
  (yL_send, cL_send, 3, some .int, [(0, 8, 11, 15)], { frames := 8, cells := 1, slots := 6, locals := 196 }),
  (yL_byteAt, cL_byteAt, 4, some .int, [(0, 9, 12, 13)], { frames := 8, cells := 1, slots := 6, locals := 122 }),
  (yL_ticks, cL_ticks, 4, some .int, [(0, 9, 12, 13), (0, 9, 15, 15)], { frames := 8, cells := 2, slots := 12, locals := 122 }),
  (yL_block, cL_block, 5, some .int, [(0, 10, 13, 13), (0, 10, 17, 15)], { frames := 8, cells := 2, slots := 12, locals := 123 }),
  (yL_charge, cL_charge, 6, some .int, [(0, 11, 14, 13), (0, 11, 18, 15)], { frames := 9, cells := 3, slots := 18, locals := 147 }),
  (yL_represent, cL_represent, 4, some .int, [(0, 9, 12, 13), (0, 9, 15, 15)], { frames := 9, cells := 2, slots := 12, locals := 145 }),
  (yL_decide, cL_decide, 5, some .int, [(0, 10, 13, 13), (0, 10, 17, 15)], { frames := 9, cells := 2, slots := 12, locals := 146 }),
  (yL_cutoff, cL_cutoff, 3, some .int, [(0, 8, 11, 15)], { frames := 8, cells := 1, slots := 6, locals := 122 }),
  (yL_checkpoint, cL_checkpoint, 3, some .int, [(0, 8, 11, 15)], { frames := 8, cells := 1, slots := 6, locals := 122 }),
  (yL_crash, cL_crash, 3, some .int, [(0, 5, 8, 13), (0, 5, 11, 15)], { frames := 8, cells := 2, slots := 12, locals := 122 })]
def MTl_8 : List Mi := [
  (yL_recover, cL_recover, 3, some .int, [(0, 8, 11, 15)], { frames := 8, cells := 1, slots := 6, locals := 121 }),
  (yL_count, cL_count, 4, some .int, [(0, 9, 12, 13), (0, 9, 15, 15)], { frames := 8, cells := 2, slots := 12, locals := 122 }),
  (yL_funds, cL_funds, 5, some .int, [(0, 9, 12, 13), (0, 9, 16, 15)], { frames := 8, cells := 2, slots := 12, locals := 124 }),
  (yL_payment, cL_payment, 5, some .int, [(0, 9, 12, 13), (0, 9, 16, 15)], { frames := 9, cells := 3, slots := 18, locals := 146 }),
  (yL_acquired, cL_acquired, 5, some .int, [(0, 9, 12, 13), (0, 9, 16, 15)], { frames := 8, cells := 2, slots := 12, locals := 123 }),
  (yL_issued, cL_issued, 5, some .int, [(0, 9, 12, 13), (0, 9, 16, 15)], { frames := 8, cells := 2, slots := 12, locals := 123 }),
  (yL_audit, cL_audit, 3, some .int, [(0, 8, 11, 15)], { frames := 8, cells := 1, slots := 6, locals := 121 }),
  (yL_law, cL_law, 8, some .boolean, [], { frames := 12, cells := 600128, slots := 7301064, locals := 442 })]
def MTl : List Mi := MTl_0 ++ (MTl_1 ++ (MTl_2 ++ (MTl_3 ++ (MTl_4 ++ (MTl_5 ++ (MTl_6 ++ (MTl_7 ++ (MTl_8))))))))
def mi0 : Mi := (yX0_init, cX0_init, 0, none, [], { frames := 0, cells := 0, slots := 0, locals := 0 })
def MT (k : Nat) : Mi := MTl.getD k mi0
def MWl_0 : List (List Nat) := [[131, 95, 0, 130, 0], [798, 95, 0, 796, 797], [1212, 95, 0, 1210, 1211], [1233, 95, 0, 1231, 1232], [1208, 95, 0, 1206, 1207], [397, 99, 0, 396, 0], [1148, 99, 0, 1146, 1147], [1295, 99, 0, 1293, 1294], [1299, 99, 0, 1298, 30], [254, 96, 0, 253, 0], [967, 96, 0, 965, 966], [1190, 96, 0, 1188, 1189], [1216, 96, 0, 1214, 1215], [1229, 96, 0, 1227, 1228], [1256, 96, 0, 1254, 1255], [1283, 96, 0, 1281, 1282], [1269, 96, 0, 1268, 27], [1252, 96, 0, 1250, 1251], [1333, 96, 0, 1331, 1332], [1337, 96, 0, 1336, 32], [1365, 96, 0, 1363, 1364], [1369, 96, 0, 1367, 1368], [1384, 96, 0, 1382, 1383], [1395, 96, 0, 1393, 1394], [1346, 96, 0, 1345, 33], [1413, 96, 0, 1411, 1412], [1417, 96, 0, 1416, 34], [1510, 96, 0, 1508, 1509], [1522, 96, 0, 1521, 35], [404, 100, 0, 403, 0], [606, 100, 0, 604, 605], [610, 100, 0, 608, 609], [1013, 100, 0, 1011, 1012], [1029, 100, 0, 1027, 1028], [1025, 100, 0, 1023, 1024], [1162, 100, 0, 1160, 1161], [1153, 100, 0, 1151, 1152], [541, 105, 0, 540, 0], [1115, 105, 0, 1113, 1114], [1119, 105, 0, 1118, 20]]
def MWl_1 : List (List Nat) := [[1133, 105, 0, 1132, 21], [1158, 105, 0, 1157, 22], [1122, 105, 1, 1121, 0], [1128, 105, 1, 1127, 0], [1172, 105, 0, 1171, 23], [1176, 105, 0, 1175, 24], [1186, 105, 0, 1185, 25], [1238, 105, 0, 1237, 26], [1273, 105, 0, 1272, 28], [1287, 105, 0, 1286, 29], [454, 101, 0, 453, 0], [1168, 101, 0, 1166, 1167], [1304, 101, 0, 1302, 1303], [1430, 101, 0, 1428, 1429], [1308, 101, 0, 1307, 31], [1312, 101, 0, 1310, 1311], [1450, 101, 0, 1448, 1449], [483, 103, 0, 482, 0], [862, 103, 0, 860, 861], [620, 103, 0, 618, 619], [943, 103, 0, 941, 942], [889, 103, 0, 887, 888], [883, 103, 0, 881, 882], [917, 103, 0, 915, 916], [930, 103, 0, 928, 929], [893, 103, 0, 892, 5], [904, 103, 0, 902, 903], [975, 103, 0, 973, 974], [1225, 103, 0, 1223, 1224], [1198, 103, 0, 1196, 1197], [1139, 103, 0, 1137, 1138], [1143, 103, 0, 1141, 1142], [1277, 103, 0, 1275, 1276], [602, 103, 0, 600, 601], [614, 103, 0, 613, 0], [623, 103, 1, 622, 0], [629, 103, 0, 628, 1], [635, 103, 0, 634, 2], [294, 98, 0, 293, 0], [1220, 98, 0, 1218, 1219]]
def MWl_2 : List (List Nat) := [[1194, 98, 0, 1192, 1193], [1242, 98, 0, 1240, 1241], [1246, 98, 0, 1244, 1245], [1342, 98, 0, 1340, 1341], [1479, 98, 0, 1477, 1478], [1484, 98, 0, 1482, 1483], [260, 97, 0, 259, 0], [1260, 97, 0, 1258, 1259], [1373, 97, 0, 1371, 1372], [1265, 97, 0, 1263, 1264], [1291, 97, 0, 1289, 1290], [1406, 97, 0, 1404, 1405], [1409, 97, 1, 1408, 0], [1514, 97, 0, 1512, 1513], [1517, 97, 1, 1516, 0], [517, 104, 0, 516, 0], [1040, 104, 0, 1038, 1039], [1059, 104, 0, 1058, 12], [1055, 104, 0, 1054, 11], [1048, 104, 0, 1047, 10], [1068, 104, 0, 1067, 14], [1064, 104, 0, 1063, 13], [1044, 104, 0, 1043, 9], [1075, 104, 0, 1074, 15], [1078, 104, 1, 1077, 0], [1085, 104, 0, 1084, 16], [1090, 104, 0, 1089, 17], [1103, 104, 0, 1102, 19], [1096, 104, 0, 1095, 18], [1099, 104, 1, 1098, 0], [124, 94, 0, 123, 0], [749, 94, 0, 747, 748], [760, 94, 0, 758, 759], [776, 94, 0, 774, 775], [780, 94, 0, 778, 779], [794, 94, 0, 792, 793], [831, 94, 0, 829, 830], [843, 94, 0, 841, 842], [827, 94, 0, 825, 826], [814, 94, 0, 812, 813]]
def MWl_3 : List (List Nat) := [[1203, 94, 0, 1201, 1202], [823, 94, 0, 822, 4], [1180, 94, 0, 1178, 1179], [116, 93, 0, 115, 0], [658, 93, 0, 656, 657], [756, 93, 0, 754, 755], [767, 93, 0, 765, 766], [788, 93, 0, 786, 787], [805, 93, 0, 803, 804], [838, 93, 0, 836, 837], [850, 93, 0, 848, 849], [857, 93, 0, 855, 856], [869, 93, 0, 867, 868], [900, 93, 0, 898, 899], [912, 93, 0, 910, 911], [924, 93, 0, 922, 923], [938, 93, 0, 936, 937], [598, 93, 0, 596, 597], [950, 93, 0, 948, 949], [959, 93, 0, 957, 958], [982, 93, 0, 980, 981], [989, 93, 0, 987, 988], [1000, 93, 0, 998, 999], [1009, 93, 0, 1007, 1008], [1021, 93, 0, 1019, 1020], [1036, 93, 0, 1034, 1035], [1110, 93, 0, 1108, 1109], [642, 93, 0, 640, 641], [1320, 93, 0, 1318, 1319], [1327, 93, 0, 1325, 1326], [1354, 93, 0, 1352, 1353], [1361, 93, 0, 1359, 1360], [1380, 93, 0, 1378, 1379], [1391, 93, 0, 1389, 1390], [1402, 93, 0, 1400, 1401], [1425, 93, 0, 1423, 1424], [1437, 93, 0, 1435, 1436], [1446, 93, 0, 1444, 1445], [646, 93, 0, 644, 645], [1457, 93, 0, 1455, 1456]]
def MWl_4 : List (List Nat) := [[1465, 93, 0, 1463, 1464], [1475, 93, 0, 1473, 1474], [1491, 93, 0, 1489, 1490], [1499, 93, 0, 1497, 1498], [1506, 93, 0, 1504, 1505], [665, 93, 1, 664, 0], [730, 93, 1, 729, 0], [993, 93, 0, 992, 8], [963, 93, 0, 962, 6], [971, 93, 0, 970, 7], [662, 93, 1, 661, 0], [872, 93, 1, 871, 0], [638, 93, 1, 637, 0], [877, 93, 1, 876, 0], [771, 93, 1, 770, 0], [819, 93, 1, 818, 0], [810, 93, 1, 809, 0], [1051, 93, 1, 1050, 0], [1527, 106, 0, 1526, 0], [1794, 106, 0, 1792, 1793], [1531, 106, 1, 1530, 0], [1802, 106, 0, 1801, 36], [1943, 106, 0, 1942, 48], [1813, 106, 1, 1812, 0], [1925, 106, 1, 1924, 0], [1830, 106, 1, 1829, 0], [1798, 106, 0, 1796, 1797], [1806, 106, 0, 1804, 1805], [1810, 106, 0, 1808, 1809], [1821, 106, 1, 1820, 0], [1818, 106, 0, 1816, 1817], [1837, 106, 0, 1836, 37], [1833, 106, 1, 1832, 0], [1844, 106, 1, 1843, 0], [1841, 106, 0, 1840, 38], [1827, 106, 0, 1825, 1826], [1851, 106, 1, 1850, 0], [1848, 106, 0, 1846, 1847], [1855, 106, 0, 1853, 1854], [1871, 106, 0, 1870, 40]]
def MWl_5 : List (List Nat) := [[1863, 106, 0, 1862, 39], [1859, 106, 0, 1857, 1858], [1875, 106, 0, 1874, 41], [1867, 106, 0, 1865, 1866], [1879, 106, 0, 1877, 1878], [1888, 106, 1, 1887, 0], [1884, 106, 0, 1882, 1883], [1898, 106, 0, 1897, 42], [1892, 106, 0, 1890, 1891], [1902, 106, 0, 1900, 1901], [1914, 106, 0, 1913, 44], [1910, 106, 0, 1909, 43], [1918, 106, 0, 1917, 45], [1906, 106, 0, 1904, 1905], [1983, 106, 0, 1982, 52], [1979, 106, 0, 1978, 51], [1998, 106, 0, 1997, 55], [1986, 106, 1, 1985, 0], [1990, 106, 0, 1989, 53], [1994, 106, 0, 1993, 54], [1975, 106, 0, 1974, 50], [2041, 106, 0, 2040, 64], [1939, 106, 0, 1938, 47], [1929, 106, 0, 1928, 46], [1922, 106, 0, 1920, 1921], [1947, 106, 0, 1946, 49], [1935, 106, 0, 1933, 1934], [1951, 106, 0, 1949, 1950], [1955, 106, 0, 1953, 1954], [1959, 106, 0, 1957, 1958], [1963, 106, 0, 1961, 1962], [1967, 106, 0, 1965, 1966], [1971, 106, 0, 1969, 1970], [2009, 106, 1, 2008, 0], [2013, 106, 0, 2012, 57], [2006, 106, 0, 2005, 56], [2025, 106, 0, 2024, 60], [2021, 106, 0, 2020, 59], [2033, 106, 0, 2032, 62], [2029, 106, 0, 2028, 61]]
def MWl_6 : List (List Nat) := [[2037, 106, 0, 2036, 63], [2017, 106, 0, 2016, 58], [2045, 106, 0, 2044, 65], [2049, 106, 0, 2048, 66], [2122, 106, 0, 2121, 84], [2126, 106, 0, 2125, 85], [2057, 106, 0, 2056, 68], [2002, 106, 0, 2000, 2001], [2053, 106, 0, 2052, 67], [2061, 106, 0, 2060, 69], [2081, 106, 0, 2080, 74], [2085, 106, 0, 2084, 75], [2077, 106, 0, 2076, 73], [2073, 106, 0, 2072, 72], [2069, 106, 0, 2068, 71], [2101, 106, 0, 2100, 79], [2089, 106, 0, 2088, 76], [2065, 106, 0, 2064, 70], [2093, 106, 0, 2092, 77], [2110, 106, 0, 2109, 81], [2105, 106, 0, 2104, 80], [2097, 106, 0, 2096, 78], [2114, 106, 0, 2113, 82], [2118, 106, 0, 2117, 83], [2130, 106, 0, 2128, 2129], [2134, 106, 0, 2132, 2133], [2143, 106, 0, 2142, 86], [2147, 106, 0, 2146, 87], [2138, 106, 0, 2136, 2137], [2155, 106, 0, 2153, 2154], [2163, 106, 0, 2162, 89], [2151, 106, 0, 2150, 88], [2159, 106, 0, 2157, 2158], [2167, 106, 0, 2165, 2166], [2171, 106, 0, 2169, 2170], [2179, 106, 0, 2178, 90], [2183, 106, 0, 2182, 91], [2175, 106, 0, 2173, 2174], [2187, 106, 0, 2185, 2186], [2191, 106, 0, 2189, 2190]]
def MWl_7 : List (List Nat) := [[2195, 106, 0, 2193, 2194], [2199, 106, 0, 2197, 2198], [2203, 106, 0, 2201, 2202], [2207, 106, 0, 2205, 2206], [2211, 106, 0, 2209, 2210], [2215, 106, 0, 2213, 2214], [2219, 106, 0, 2217, 2218], [2223, 106, 0, 2221, 2222], [649, 92, 1, 648, 0], [652, 92, 1, 651, 0], [752, 92, 1, 751, 0], [763, 92, 1, 762, 0], [784, 92, 1, 783, 0], [801, 92, 1, 800, 0], [834, 92, 1, 833, 0], [846, 92, 1, 845, 0], [853, 92, 1, 852, 0], [865, 92, 1, 864, 0], [896, 92, 1, 895, 0], [908, 92, 1, 907, 0], [920, 92, 1, 919, 0], [934, 92, 1, 933, 0], [946, 92, 1, 945, 0], [955, 92, 1, 954, 0], [978, 92, 1, 977, 0], [985, 92, 1, 984, 0], [996, 92, 1, 995, 0], [1005, 92, 1, 1004, 0], [1017, 92, 1, 1016, 0], [1032, 92, 1, 1031, 0], [1106, 92, 1, 1105, 0], [1316, 92, 1, 1315, 0], [1323, 92, 1, 1322, 0], [1350, 92, 1, 1349, 0], [1357, 92, 1, 1356, 0], [1376, 92, 1, 1375, 0], [1387, 92, 1, 1386, 0], [1398, 92, 1, 1397, 0], [1421, 92, 1, 1420, 0], [1433, 92, 1, 1432, 0]]
def MWl_8 : List (List Nat) := [[1442, 92, 1, 1441, 0], [1453, 92, 1, 1452, 0], [1461, 92, 1, 1460, 0], [1471, 92, 1, 1470, 0], [1487, 92, 1, 1486, 0], [1495, 92, 1, 1494, 0], [1502, 92, 1, 1501, 0], []]
def MWl : List (List Nat) := MWl_0 ++ (MWl_1 ++ (MWl_2 ++ (MWl_3 ++ (MWl_4 ++ (MWl_5 ++ (MWl_6 ++ (MWl_7 ++ (MWl_8))))))))
def MW (k : Nat) : List Nat := MWl.getD k []
def inT (i : Nat) (w : Cond) : Bool := decide (lw_tbl[i]? = some w) && stw w
theorem and_l {a b : Bool} (h : (a && b) = true) : a = true := ((Bool.and_eq_true _ _).mp h).1
theorem and_r {a b : Bool} (h : (a && b) = true) : b = true := ((Bool.and_eq_true _ _).mp h).2
theorem inT_at {i : Nat} {w : Cond} (h : inT i w = true) : w ∈ lw_tbl ∧ stw w = true := ⟨List.mem_of_getElem? (of_decide_eq_true (and_l h)), and_r h⟩
def dcd (mi : Mi) (pc : Nat) (i : Instr) (n : Nat) : Bool := decide (decode (iC mi) pc = .ok (i, n))
theorem dcd_at {mi : Mi} {pc : Nat} {i : Instr} {n : Nat} (h : dcd mi pc i n = true) : decode (iC mi) pc = .ok (i, n) := of_decide_eq_true h
def tsOk (pc : Nat) : List Int → List Nat → Bool
  | [], [] => true
  | o :: os, t :: ts => decide ((pc : Int) + o = (t : Int)) && tsOk pc os ts
  | _, _ => false
theorem tsOk_l {pc : Nat} : ∀ {os : List Int} {ts : List Nat}, tsOk pc os ts = true → ∀ (n : Nat) (hn : n < ts.length), ∃ off, os[n]? = some off ∧ (pc : Int) + off = ((ts[n]) : Int)
  | [], [], _, n, hn => by simp at hn
  | [], _ :: _, h, _, _ => by simp [tsOk] at h
  | _ :: _, [], h, _, _ => by simp [tsOk] at h
  | o :: os, t :: ts, h, 0, _ => ⟨o, rfl, of_decide_eq_true (and_l h)⟩
  | o :: os, t :: ts, h, n + 1, hn => by
    obtain ⟨off, h1, h2⟩ := tsOk_l (and_r h) n (by simpa using hn)
    exact ⟨off, by simpa using h1, by simpa using h2⟩
theorem tsOk_at {pc : Nat} {os : Array Int} {ts : List Nat} (h : tsOk pc os.toList ts = true) : ∀ (n : Nat) (hn : n < ts.length), ∃ off, os[n]? = some off ∧ (pc : Int) + off = ((ts[n]) : Int) := fun n hn => by
  obtain ⟨off, h1, h2⟩ := tsOk_l h n hn
  exact ⟨off, by rw [← Array.getElem?_toList]; exact h1, h2⟩
def prs : List Nat → List (Nat × Nat)
  | a :: b :: r => (a, b) :: prs r
  | _ => []
def lsOk (pc : Nat) : List (Int × Int) → List (Nat × Nat) → Bool
  | [], [] => true
  | r :: rs, q :: qs => (decide (r.1 = (q.1 : Int)) && (decide (q.1 < 2 ^ 31) && decide ((pc : Int) + r.2 = (q.2 : Int)))) && lsOk pc rs qs
  | _, _ => false
theorem lsOk_at {pc : Nat} : ∀ {rs : List (Int × Int)} {ts : List (Nat × Nat)}, lsOk pc rs ts = true → ts.length = rs.length ∧ ∀ (n : Nat) (q : Nat × Nat) (r : Int × Int), ts[n]? = some q → rs[n]? = some r → r.1 = (q.1 : Int) ∧ q.1 < 2 ^ 31 ∧ (pc : Int) + r.2 = (q.2 : Int)
  | [], [], _ => ⟨rfl, fun n q r h => by simp at h⟩
  | [], _ :: _, h => by simp [lsOk] at h
  | _ :: _, [], h => by simp [lsOk] at h
  | r :: rs, q :: qs, h => by
    have ih := lsOk_at (and_r h)
    refine ⟨by simp [ih.1], fun n q' r' h1 h2 => ?_⟩
    cases n with
    | zero => simp at h1 h2; subst h1; subst h2; exact ⟨of_decide_eq_true (and_l (and_l h)), of_decide_eq_true (and_l (and_r (and_l h))), of_decide_eq_true (and_r (and_r (and_l h)))⟩
    | succ n => exact ih.2 n q' r' (by simpa using h1) (by simpa using h2)
theorem ws_in {ws : List Cond} (ps : List Nat) (hp : ws = ps.filterMap (fun i => lw_tbl[i]?)) (h : ws.all stw = true) : ∀ w ∈ ws, w ∈ lw_tbl ∧ stw w = true := by
  intro w hw
  refine ⟨?_, List.all_eq_true.mp h w hw⟩
  rw [hp] at hw
  obtain ⟨i, -, hi⟩ := List.mem_filterMap.mp hw
  exact List.mem_of_getElem? hi
theorem cl_0 : clOk 0 RX0 TX0 9 := ⟨rfl, ws_in [152, 154, 156, 158, 160, 162, 164, 166, 168] (by decide +kernel) (by decide +kernel), tyX0_ok, nmX0⟩
theorem cl_1 : clOk 1 RX1 TX1 8 := ⟨rfl, ws_in [427, 429, 431, 433, 435, 437, 439, 441] (by decide +kernel) (by decide +kernel), tyX1_ok, nmX1⟩
theorem cl_2 : clOk 2 RX2 TX2 6 := ⟨rfl, ws_in [380, 382, 384, 386, 388, 390] (by decide +kernel) (by decide +kernel), tyX2_ok, nmX2⟩
theorem cl_3 : clOk 3 RX3 TX3 2 := ⟨rfl, ws_in [410, 412] (by decide +kernel) (by decide +kernel), tyX3_ok, nmX3⟩
theorem cl_4 : clOk 4 RX4 TX4 6 := ⟨rfl, ws_in [554, 556, 558, 560, 562, 564] (by decide +kernel) (by decide +kernel), tyX4_ok, nmX4⟩
theorem cl_5 : clOk 5 RX5 TX5 6 := ⟨rfl, ws_in [466, 468, 470, 472, 474, 476] (by decide +kernel) (by decide +kernel), tyX5_ok, nmX5⟩
theorem cl_6 : clOk 6 RX6 TX6 4 := ⟨rfl, ws_in [502, 504, 506, 508] (by decide +kernel) (by decide +kernel), tyX6_ok, nmX6⟩
theorem cl_7 : clOk 7 RX7 TX7 15 := ⟨rfl, ws_in [336, 338, 340, 342, 344, 346, 348, 350, 352, 354, 356, 358, 360, 362, 364] (by decide +kernel) (by decide +kernel), tyX7_ok, nmX7⟩
theorem cl_8 : clOk 8 RX8 TX8 6 := ⟨rfl, ws_in [276, 278, 280, 282, 284, 286] (by decide +kernel) (by decide +kernel), tyX8_ok, nmX8⟩
theorem cl_9 : clOk 9 RX9 TX9 4 := ⟨rfl, ws_in [528, 530, 532, 534] (by decide +kernel) (by decide +kernel), tyX9_ok, nmX9⟩
theorem cl_10 : clOk 10 RX10 TX10 18 := ⟨rfl, ws_in [213, 215, 217, 219, 221, 223, 225, 227, 229, 231, 233, 235, 237, 239, 241, 243, 245, 247] (by decide +kernel) (by decide +kernel), tyX10_ok, nmX10⟩
theorem cl_11 : clOk 11 RX11 TX11 9 := ⟨rfl, ws_in [576, 578, 580, 582, 584, 586, 588, 590, 592] (by decide +kernel) (by decide +kernel), tyX11_ok, nmX11⟩
theorem cl_12 : clOk 12 RX12 TX12 86 := ⟨rfl, ws_in [1618, 1620, 1622, 1624, 1626, 1628, 1630, 1632, 1634, 1636, 1638, 1640, 1642, 1644, 1646, 1648, 1650, 1652, 1654, 1656, 1658, 1660, 1662, 1664, 1666, 1668, 1670, 1672, 1674, 1676, 1678, 1680, 1682, 1684, 1686, 1688, 1690, 1692, 1694, 1696, 1698, 1700, 1702, 1704, 1706, 1708, 1710, 1712, 1714, 1716, 1718, 1720, 1722, 1724, 1726, 1728, 1730, 1732, 1734, 1736, 1738, 1740, 1742, 1744, 1746, 1748, 1750, 1752, 1754, 1756, 1758, 1760, 1762, 1764, 1766, 1768, 1770, 1772, 1774, 1776, 1778, 1780, 1782, 1784, 1786, 1788] (by decide +kernel) (by decide +kernel), tyX12_ok, nmX12⟩
theorem cl_ok {ci : Nat} {q : vw_C} (h : vwCl[ci]? = some q) : clOk ci q.1 q.2.1 q.2.2 := by
  match ci, h with
  | 0, h => cases h; exact cl_0
  | 1, h => cases h; exact cl_1
  | 2, h => cases h; exact cl_2
  | 3, h => cases h; exact cl_3
  | 4, h => cases h; exact cl_4
  | 5, h => cases h; exact cl_5
  | 6, h => cases h; exact cl_6
  | 7, h => cases h; exact cl_7
  | 8, h => cases h; exact cl_8
  | 9, h => cases h; exact cl_9
  | 10, h => cases h; exact cl_10
  | 11, h => cases h; exact cl_11
  | 12, h => cases h; exact cl_12
  | n + 13, h => simp [vwCl] at h
def gfOk (mi : Mi) (n ci j kd w : Nat) : Bool := match vwCl[ci]? with
  | some (_, T, N) => decide (j < N) && (decide (kindOf (clTy ci j) = kd) && (inT w (.fieldLink (iY mi).cls n (T j).1 (T j).2.1 (T j).2.2.1) || inT w (.fieldLinkNest (iY mi).cls n (T j).1 (T j).2.1 (T j).2.2.1 "PaymentSwitch")))
  | none => false
theorem gfOk_at {mi : Mi} {n ci j kd w : Nat} (h : gfOk mi n ci j kd w = true) : ∃ (C : String) (T : u_T) (N : Nat), clOk ci C T N ∧ j < N ∧ kindOf (clTy ci j) = kd ∧ ((Cond.fieldLink (iY mi).cls n (T j).1 (T j).2.1 (T j).2.2.1 ∈ lw_tbl ∧ stw (Cond.fieldLink (iY mi).cls n (T j).1 (T j).2.1 (T j).2.2.1) = true) ∨ Cond.fieldLinkNest (iY mi).cls n (T j).1 (T j).2.1 (T j).2.2.1 "PaymentSwitch" ∈ lw_tbl) := by
  unfold gfOk at h
  split at h
  · rename_i C T N hq
    refine ⟨C, T, N, cl_ok hq, of_decide_eq_true (and_l h), of_decide_eq_true (and_l (and_r h)), ?_⟩
    rcases (Bool.or_eq_true _ _).mp (and_r (and_r h)) with q | q
    · exact Or.inl (inT_at q)
    · exact Or.inr (inT_at q).1
  · cases h
def pfOk (mi : Mi) (n ci j kd w : Nat) : Bool := match vwCl[ci]? with
  | some (_, T, N) => decide (j < N) && (decide (kindOf (clTy ci j) = kd) && ((inT w (.fieldLink (iY mi).cls n (T j).1 (T j).2.1 (T j).2.2.1) && decide ((T j).2.2.2 = false ∨ ((T j).2.2.2 = true ∧ (iY mi).name = "<init>" ∧ (T j).1 = (iY mi).cls))) || (inT w (.fieldLinkNest (iY mi).cls n (T j).1 (T j).2.1 (T j).2.2.1 "PaymentSwitch") && decide ((T j).2.2.2 = false))))
  | none => false
theorem pfOk_at {mi : Mi} {n ci j kd w : Nat} (h : pfOk mi n ci j kd w = true) : ∃ (C : String) (T : u_T) (N : Nat), clOk ci C T N ∧ j < N ∧ kindOf (clTy ci j) = kd ∧ ((Cond.fieldLink (iY mi).cls n (T j).1 (T j).2.1 (T j).2.2.1 ∈ lw_tbl ∧ stw (Cond.fieldLink (iY mi).cls n (T j).1 (T j).2.1 (T j).2.2.1) = true ∧ ((T j).2.2.2 = false ∨ ((T j).2.2.2 = true ∧ (iY mi).name = "<init>" ∧ (T j).1 = (iY mi).cls))) ∨ (Cond.fieldLinkNest (iY mi).cls n (T j).1 (T j).2.1 (T j).2.2.1 "PaymentSwitch" ∈ lw_tbl ∧ (T j).2.2.2 = false)) := by
  unfold pfOk at h
  split at h
  · rename_i C T N hq
    refine ⟨C, T, N, cl_ok hq, of_decide_eq_true (and_l h), of_decide_eq_true (and_l (and_r h)), ?_⟩
    rcases (Bool.or_eq_true _ _).mp (and_r (and_r h)) with q | q
    · exact Or.inl ⟨(inT_at (and_l q)).1, (inT_at (and_l q)).2, of_decide_eq_true (and_r q)⟩
    · exact Or.inr ⟨(inT_at (and_l q)).1, of_decide_eq_true (and_r q)⟩
  · cases h
def xName (e : Nat) : String := if e = 1000 then "java/lang/IllegalArgumentException" else "java/lang/IllegalStateException"
def aName (t : Nat) : String := if t = 3 then RX0 else if t = 4 then RX3 else RX7
def thOk (mi : Mi) (pc n ic : Nat) (E : String) (w1 w2 : Nat) : Bool := (dcd mi (pc + 3) .dup 1 && (dcd mi (pc + 4) (.invokespecial ic) 3 && (dcd mi (pc + 7) .athrow 1 && (Bundle.fit E && (decide (iH mi = []) && (inT w1 (.classLink (iY mi).cls n E) && (inT w2 (.initialized E) && ((vx_at0 (iY mi).cls ic E xNames).all (fun w => decide (w ∈ lw_tbl) && stw w) && ((Cond.classLink (iY mi).cls n E :: Cond.initialized E :: vx_at0 (iY mi).cls ic E xNames).all vx_ot && decide (5 < (iR mi).frames ∧ 81 ≤ (iR mi).locals))))))))))
theorem thOk_at {mi : Mi} {pc n ic : Nat} {E : String} {w1 w2 : Nat} (h : thOk mi pc n ic E w1 w2 = true) : decode (iC mi) (pc + 3) = .ok (.dup, 1) ∧ decode (iC mi) (pc + 4) = .ok (.invokespecial ic, 3) ∧ decode (iC mi) (pc + 7) = .ok (.athrow, 1) ∧ Bundle.fit E = true ∧ iH mi = [] ∧ (Cond.classLink (iY mi).cls n E ∈ lw_tbl ∧ stw (Cond.classLink (iY mi).cls n E) = true) ∧ (Cond.initialized E ∈ lw_tbl ∧ stw (Cond.initialized E) = true) ∧ (∀ w ∈ vx_at0 (iY mi).cls ic E xNames, w ∈ lw_tbl ∧ stw w = true) ∧ (∀ w ∈ Cond.classLink (iY mi).cls n E :: Cond.initialized E :: vx_at0 (iY mi).cls ic E xNames, vx_ot w = true) ∧ (5 < (iR mi).frames ∧ 81 ≤ (iR mi).locals) := by
  unfold thOk at h
  have h2 := and_r h
  have h3 := and_r h2
  have h4 := and_r h3
  have h5 := and_r h4
  have h6 := and_r h5
  have h7 := and_r h6
  have h8 := and_r h7
  have h9 := and_r h8
  refine ⟨dcd_at (and_l h), dcd_at (and_l h2), dcd_at (and_l h3), and_l h4, of_decide_eq_true (and_l h5), inT_at (and_l h6), inT_at (and_l h7), fun w hw => ?_, fun w hw => List.all_eq_true.mp (and_l h9) w hw, of_decide_eq_true (and_r h9)⟩
  have := List.all_eq_true.mp (and_l h8) w hw
  exact ⟨of_decide_eq_true (and_l this), and_r this⟩
def nwOk (mi : Mi) (n ci N : Nat) (wx : List Nat) : Bool := match vwCl[ci]? with
  | some (C, _, N') => decide (N' = N) && ((List.range N).all (fun k => decide (kindOf (clTy ci k) < 9)) && (inT (wx.getD 0 0) (.classLink (iY mi).cls n C) && (inT (wx.getD 1 0) (.instantiable C N) && inT (wx.getD 2 0) (.initialized C))))
  | none => false
theorem nwOk_at {mi : Mi} {n ci N : Nat} {wx : List Nat} (h : nwOk mi n ci N wx = true) : ∃ (C : String) (T : u_T), clOk ci C T N ∧ (∀ k, k < N → kindOf (clTy ci k) < 9) ∧ (Cond.classLink (iY mi).cls n C ∈ lw_tbl ∧ stw (Cond.classLink (iY mi).cls n C) = true) ∧ (Cond.instantiable C N ∈ lw_tbl ∧ stw (Cond.instantiable C N) = true) ∧ (Cond.initialized C ∈ lw_tbl ∧ stw (Cond.initialized C) = true) := by
  unfold nwOk at h
  split at h
  · rename_i C T N' hq
    have e1 : N' = N := of_decide_eq_true (and_l h)
    subst e1
    exact ⟨C, T, cl_ok hq, fun k hk => of_decide_eq_true (List.all_eq_true.mp (and_l (and_r h)) k (List.mem_range.mpr hk)), inT_at (and_l (and_r (and_r h))), inT_at (and_l (and_r (and_r (and_r h)))), inT_at (and_r (and_r (and_r (and_r h))))⟩
  · cases h
/-- what the tables say of a method itself: its code, its class initialised, instance or static, selected -/
def mtOk (k : Nat) : Bool := (inT ((MW k).getD 1 0) (.initialized (iY (MT k)).cls) && (decide (k < 1000) && (decide ((iY (MT k)).cls ≠ "java/lang/invoke/MethodHandle" ∧ (iY (MT k)).cls ≠ "java/lang/invoke/VarHandle") && (plainName (iY (MT k)).cls && (bif (MW k).getD 2 0 == 0 then inT ((MW k).getD 3 0) (.instanceMethod (iY (MT k))) && ((iY (MT k)).name == "<init>" || inT ((MW k).getD 4 0) (.selects (iY (MT k)).cls (iY (MT k)) (iY (MT k)))) else inT ((MW k).getD 3 0) (.static (iY (MT k))))))))
/-- a call's own checks: room, number of values -/
def clk (mi : Mi) (k n mc ms : Nat) : Bool := decide (k < 327) && (decide ((iR (MT k)).frames + 1 ≤ (iR mi).frames ∧ 8 + (iL (MT k) + 11) + (iR (MT k)).locals ≤ (iR mi).locals) && (decide ((parseMethodDescriptor (iY (MT k)).desc).map (fun d => d.parameters.length) = some n) && decide (mc = (iR (MT k)).cells ∧ ms = (iR (MT k)).slots)))
