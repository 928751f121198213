/-! ===== tables of the evaluator, by program (wip/whole/gen3.py) ===== -/
abbrev mi_X1_init : ev_Mi := (yX1_init, cX1_init, 2, none, 1)
abbrev mi_X1_empty : ev_Mi := (yX1_empty, cX1_empty, 1, none, 0)
abbrev mi_X1_get : ev_Mi := (yX1_get, cX1_get, 2, (some .int), 1)
abbrev mi_X1_add : ev_Mi := (yX1_add, cX1_add, 2, none, 1)
abbrev mi_X1_addFourBytes : ev_Mi := (yX1_addFourBytes, cX1_addFourBytes, 3, none, 2)
abbrev mi_X1_addWord : ev_Mi := (yX1_addWord, cX1_addWord, 5, none, 2)
abbrev mi_X1_addNumber : ev_Mi := (yX1_addNumber, cX1_addNumber, 6, none, 2)
abbrev mi_X2_init : ev_Mi := (yX2_init, cX2_init, 2, none, 9)
abbrev mi_X2_forget : ev_Mi := (yX2_forget, cX2_forget, 1, none, 0)
abbrev mi_X2_remember : ev_Mi := (yX2_remember, cX2_remember, 2, none, 5)
abbrev mi_X2_bringBack : ev_Mi := (yX2_bringBack, cX2_bringBack, 2, none, 5)
abbrev mi_X4_init : ev_Mi := (yX4_init, cX4_init, 1, none, 8)
abbrev mi_X4_clear : ev_Mi := (yX4_clear, cX4_clear, 1, none, 3)
abbrev mi_X4_copyFrom : ev_Mi := (yX4_copyFrom, cX4_copyFrom, 2, none, 4)
abbrev mi_X4_name : ev_Mi := (yX4_name, cX4_name, 2, (some .long), 0)
abbrev mi_X4_personNamed : ev_Mi := (yX4_personNamed, cX4_personNamed, 4, (some .int), 1)
abbrev mi_X4_addPerson : ev_Mi := (yX4_addPerson, cX4_addPerson, 4, none, 1)
abbrev mi_X4_isOneOfTasters : ev_Mi := (yX4_isOneOfTasters, cX4_isOneOfTasters, 2, (some .boolean), 1)
abbrev mi_X4_addPancake : ev_Mi := (yX4_addPancake, cX4_addPancake, 2, none, 1)
abbrev mi_X4_swapTopics : ev_Mi := (yX4_swapTopics, cX4_swapTopics, 4, none, 1)
abbrev mi_X4_joinCooks : ev_Mi := (yX4_joinCooks, cX4_joinCooks, 3, none, 1)
abbrev mi_X4_copyBids : ev_Mi := (yX4_copyBids, cX4_copyBids, 4, none, 1)
abbrev mi_X4_liking : ev_Mi := (yX4_liking, cX4_liking, 3, (some .int), 1)
abbrev mi_X4_mostLiked : ev_Mi := (yX4_mostLiked, cX4_mostLiked, 6, (some .int), 2)
abbrev mi_X4_conflictReason : ev_Mi := (yX4_conflictReason, cX4_conflictReason, 8, (some .int), 1)
abbrev mi_X4_tastersInConflict : ev_Mi := (yX4_tastersInConflict, cX4_tastersInConflict, 4, (some .int), 2)
abbrev mi_X4_load : ev_Mi := (yX4_load, cX4_load, 4, (some .int), 1)
abbrev mi_X4_refusalReason : ev_Mi := (yX4_refusalReason, cX4_refusalReason, 4, (some .int), 2)
abbrev mi_X4_bestFor : ev_Mi := (yX4_bestFor, cX4_bestFor, 4, (some .int), 3)
abbrev mi_X4_isBetter : ev_Mi := (yX4_isBetter, cX4_isBetter, 5, (some .boolean), 2)
abbrev mi_X4_takeSeat : ev_Mi := (yX4_takeSeat, cX4_takeSeat, 3, none, 2)
abbrev mi_X4_clearSeats : ev_Mi := (yX4_clearSeats, cX4_clearSeats, 3, none, 3)
abbrev mi_X4_takenSeats : ev_Mi := (yX4_takenSeats, cX4_takenSeats, 3, (some .int), 1)
abbrev mi_X4_freeSeats : ev_Mi := (yX4_freeSeats, cX4_freeSeats, 1, (some .int), 2)
abbrev mi_X4_fillSeats : ev_Mi := (yX4_fillSeats, cX4_fillSeats, 6, (some .int), 4)
abbrev mi_X4_neediest : ev_Mi := (yX4_neediest, cX4_neediest, 6, (some .int), 1)
abbrev mi_X4_makeMove : ev_Mi := (yX4_makeMove, cX4_makeMove, 5, (some .boolean), 3)
abbrev mi_X4_isDisputed : ev_Mi := (yX4_isDisputed, cX4_isDisputed, 2, (some .boolean), 4)
abbrev mi_X4_loadSum : ev_Mi := (yX4_loadSum, cX4_loadSum, 3, (some .int), 2)
abbrev mi_X4_seatsInConflict : ev_Mi := (yX4_seatsInConflict, cX4_seatsInConflict, 4, (some .int), 2)
abbrev mi_X4_overloadedTasters : ev_Mi := (yX4_overloadedTasters, cX4_overloadedTasters, 3, (some .int), 2)
abbrev mi_X4_scoresWithoutSeat : ev_Mi := (yX4_scoresWithoutSeat, cX4_scoresWithoutSeat, 4, (some .int), 2)
abbrev mi_X5_init : ev_Mi := (yX5_init, cX5_init, 1, none, 0)
abbrev mi_X5_size : ev_Mi := (yX5_size, cX5_size, 2, (some .int), 0)
abbrev mi_X5_member : ev_Mi := (yX5_member, cX5_member, 4, (some .int), 0)
abbrev mi_X5_contains : ev_Mi := (yX5_contains, cX5_contains, 6, (some .boolean), 0)
abbrev mi_X5_add : ev_Mi := (yX5_add, cX5_add, 4, none, 1)
abbrev mi_X5_remove : ev_Mi := (yX5_remove, cX5_remove, 7, none, 1)
abbrev mi_X5_clear : ev_Mi := (yX5_clear, cX5_clear, 1, none, 1)
abbrev mi_X5_copyFrom : ev_Mi := (yX5_copyFrom, cX5_copyFrom, 2, none, 2)
abbrev mi_X6_init : ev_Mi := (yX6_init, cX6_init, 1, none, 7)
abbrev mi_X6_clear : ev_Mi := (yX6_clear, cX6_clear, 1, none, 2)
abbrev mi_X6_copyFrom : ev_Mi := (yX6_copyFrom, cX6_copyFrom, 2, none, 3)
abbrev mi_X6_given : ev_Mi := (yX6_given, cX6_given, 3, (some .int), 1)
abbrev mi_X6_put : ev_Mi := (yX6_put, cX6_put, 6, none, 1)
abbrev mi_X6_countFor : ev_Mi := (yX6_countFor, cX6_countFor, 4, (some .int), 1)
abbrev mi_X6_mean : ev_Mi := (yX6_mean, cX6_mean, 6, (some .int), 1)
abbrev mi_X6_meanOfAll : ev_Mi := (yX6_meanOfAll, cX6_meanOfAll, 1, (some .int), 0)
abbrev mi_X6_personWithLeastMean : ev_Mi := (yX6_personWithLeastMean, cX6_personWithLeastMean, 5, (some .int), 2)
abbrev mi_X6_adjusted : ev_Mi := (yX6_adjusted, cX6_adjusted, 3, (some .int), 2)
abbrev mi_X6_total : ev_Mi := (yX6_total, cX6_total, 5, (some .int), 3)
abbrev mi_X6_spread : ev_Mi := (yX6_spread, cX6_spread, 7, (some .int), 3)
abbrev mi_X6_distanceFromTotals : ev_Mi := (yX6_distanceFromTotals, cX6_distanceFromTotals, 4, (some .int), 4)
abbrev mi_X6_rank : ev_Mi := (yX6_rank, cX6_rank, 4, (some .int), 5)
abbrev mi_X6_pancakeWithRank : ev_Mi := (yX6_pancakeWithRank, cX6_pancakeWithRank, 3, (some .int), 6)
abbrev mi_X6_comesBefore : ev_Mi := (yX6_comesBefore, cX6_comesBefore, 6, (some .boolean), 4)
abbrev mi_X6_canBeTalkedOver : ev_Mi := (yX6_canBeTalkedOver, cX6_canBeTalkedOver, 2, (some .boolean), 2)
abbrev mi_X6_middle : ev_Mi := (yX6_middle, cX6_middle, 8, (some .int), 1)
abbrev mi_X6_holdTalk : ev_Mi := (yX6_holdTalk, cX6_holdTalk, 6, (some .int), 2)
abbrev mi_X6_makeEven : ev_Mi := (yX6_makeEven, cX6_makeEven, 4, none, 2)
abbrev mi_X7_init : ev_Mi := (yX7_init, cX7_init, 1, none, 9)
abbrev mi_X7_parse : ev_Mi := (yX7_parse, cX7_parse, 6, (some .boolean), 6)
abbrev mi_X7_readHead : ev_Mi := (yX7_readHead, cX7_readHead, 1, none, 3)
abbrev mi_X7_readItem : ev_Mi := (yX7_readItem, cX7_readItem, 2, (some .boolean), 5)
abbrev mi_X7_keyword : ev_Mi := (yX7_keyword, cX7_keyword, 2, (some (.object "PancakePanel$Keyword")), 1)
abbrev mi_X7_isOneTooMany : ev_Mi := (yX7_isOneTooMany, cX7_isOneTooMany, 2, (some .boolean), 0)
abbrev mi_X7_readPerson : ev_Mi := (yX7_readPerson, cX7_readPerson, 4, none, 3)
abbrev mi_X7_readTaster : ev_Mi := (yX7_readTaster, cX7_readTaster, 4, none, 4)
abbrev mi_X7_readPancake : ev_Mi := (yX7_readPancake, cX7_readPancake, 4, none, 4)
abbrev mi_X7_readBid : ev_Mi := (yX7_readBid, cX7_readBid, 4, none, 4)
abbrev mi_X7_readTogether : ev_Mi := (yX7_readTogether, cX7_readTogether, 3, none, 4)
abbrev mi_X7_readConflict : ev_Mi := (yX7_readConflict, cX7_readConflict, 3, none, 4)
abbrev mi_X7_readSeat : ev_Mi := (yX7_readSeat, cX7_readSeat, 3, none, 4)
abbrev mi_X7_readLeave : ev_Mi := (yX7_readLeave, cX7_readLeave, 3, none, 4)
abbrev mi_X7_readScore : ev_Mi := (yX7_readScore, cX7_readScore, 4, none, 4)
abbrev mi_X7_readTalk : ev_Mi := (yX7_readTalk, cX7_readTalk, 2, none, 4)
abbrev mi_X7_readLimit : ev_Mi := (yX7_readLimit, cX7_readLimit, 3, none, 4)
abbrev mi_X7_readKitchen : ev_Mi := (yX7_readKitchen, cX7_readKitchen, 3, none, 4)
abbrev mi_X7_readSwap : ev_Mi := (yX7_readSwap, cX7_readSwap, 3, none, 4)
abbrev mi_X7_readClear : ev_Mi := (yX7_readClear, cX7_readClear, 2, none, 4)
abbrev mi_X7_readEven : ev_Mi := (yX7_readEven, cX7_readEven, 2, none, 4)
abbrev mi_X7_readCopy : ev_Mi := (yX7_readCopy, cX7_readCopy, 3, none, 4)
abbrev mi_X7_beginRepeat : ev_Mi := (yX7_beginRepeat, cX7_beginRepeat, 2, (some .boolean), 3)
abbrev mi_X7_endPass : ev_Mi := (yX7_endPass, cX7_endPass, 3, (some .boolean), 1)
abbrev mi_X7_number : ev_Mi := (yX7_number, cX7_number, 5, (some .int), 2)
abbrev mi_X7_pancake : ev_Mi := (yX7_pancake, cX7_pancake, 1, (some .int), 3)
abbrev mi_X7_person : ev_Mi := (yX7_person, cX7_person, 2, (some .int), 3)
abbrev mi_X7_checkName : ev_Mi := (yX7_checkName, cX7_checkName, 1, none, 2)
abbrev mi_X7_checkTaster : ev_Mi := (yX7_checkTaster, cX7_checkTaster, 2, none, 2)
abbrev mi_X7_checkSeat : ev_Mi := (yX7_checkSeat, cX7_checkSeat, 3, none, 2)
abbrev mi_X7_checkScores : ev_Mi := (yX7_checkScores, cX7_checkScores, 2, none, 3)
abbrev mi_X7_fail : ev_Mi := (yX7_fail, cX7_fail, 3, none, 1)
abbrev mi_X8_init : ev_Mi := (yX8_init, cX8_init, 3, none, 1)
abbrev mi_X8_get : ev_Mi := (yX8_get, cX8_get, 3, (some .int), 0)
abbrev mi_X8_set : ev_Mi := (yX8_set, cX8_set, 4, none, 0)
abbrev mi_X8_clear : ev_Mi := (yX8_clear, cX8_clear, 1, none, 1)
abbrev mi_X8_copyFrom : ev_Mi := (yX8_copyFrom, cX8_copyFrom, 2, none, 2)
abbrev mi_X9_init : ev_Mi := (yX9_init, cX9_init, 1, none, 0)
abbrev mi_X9_split : ev_Mi := (yX9_split, cX9_split, 5, none, 3)
abbrev mi_X9_kind : ev_Mi := (yX9_kind, cX9_kind, 2, (some .int), 0)
abbrev mi_X9_start : ev_Mi := (yX9_start, cX9_start, 2, (some .int), 0)
abbrev mi_X9_value : ev_Mi := (yX9_value, cX9_value, 2, (some .long), 0)
abbrev mi_X9_add : ev_Mi := (yX9_add, cX9_add, 5, none, 1)
abbrev mi_X9_addWordAt : ev_Mi := (yX9_addWordAt, cX9_addWordAt, 6, none, 2)
abbrev mi_X9_addNumberAt : ev_Mi := (yX9_addNumberAt, cX9_addNumberAt, 6, none, 2)
abbrev mi_X9_isLetter : ev_Mi := (yX9_isLetter, cX9_isLetter, 1, (some .boolean), 0)
abbrev mi_X9_isDigit : ev_Mi := (yX9_isDigit, cX9_isDigit, 1, (some .boolean), 0)
abbrev mi_X9_kindOf : ev_Mi := (yX9_kindOf, cX9_kindOf, 1, (some .int), 0)
abbrev mi_X10_init : ev_Mi := (yX10_init, cX10_init, 2, none, 10)
abbrev mi_X10_append : ev_Mi := (yX10_append, cX10_append, 6, (some .int), 3)
abbrev mi_X10_parseSetup : ev_Mi := (yX10_parseSetup, cX10_parseSetup, 4, (some .int), 7)
abbrev mi_X10_parseErrorCode : ev_Mi := (yX10_parseErrorCode, cX10_parseErrorCode, 1, (some .int), 0)
abbrev mi_X10_parseErrorPosition : ev_Mi := (yX10_parseErrorPosition, cX10_parseErrorPosition, 1, (some .int), 0)
abbrev mi_X10_bufferLength : ev_Mi := (yX10_bufferLength, cX10_bufferLength, 1, (some .int), 0)
abbrev mi_X10_pancakeCount : ev_Mi := (yX10_pancakeCount, cX10_pancakeCount, 1, (some .int), 8)
abbrev mi_X10_topicOf : ev_Mi := (yX10_topicOf, cX10_topicOf, 2, (some .int), 9)
abbrev mi_X10_cookCount : ev_Mi := (yX10_cookCount, cX10_cookCount, 2, (some .int), 9)
abbrev mi_X10_cookAt : ev_Mi := (yX10_cookAt, cX10_cookAt, 3, (some .int), 9)
abbrev mi_X10_personCount : ev_Mi := (yX10_personCount, cX10_personCount, 1, (some .int), 8)
abbrev mi_X10_nameLetter : ev_Mi := (yX10_nameLetter, cX10_nameLetter, 6, (some .int), 9)
abbrev mi_X10_kitchenOf : ev_Mi := (yX10_kitchenOf, cX10_kitchenOf, 2, (some .int), 9)
abbrev mi_X10_isTaster : ev_Mi := (yX10_isTaster, cX10_isTaster, 2, (some .boolean), 9)
abbrev mi_X10_limitOf : ev_Mi := (yX10_limitOf, cX10_limitOf, 2, (some .int), 9)
abbrev mi_X10_tasteOf : ev_Mi := (yX10_tasteOf, cX10_tasteOf, 3, (some .int), 9)
abbrev mi_X10_bidOf : ev_Mi := (yX10_bidOf, cX10_bidOf, 3, (some .int), 10)
abbrev mi_X10_preference : ev_Mi := (yX10_preference, cX10_preference, 3, (some .int), 10)
abbrev mi_X10_conflict : ev_Mi := (yX10_conflict, cX10_conflict, 3, (some .int), 10)
abbrev mi_X10_conflictCount : ev_Mi := (yX10_conflictCount, cX10_conflictCount, 2, (some .int), 9)
abbrev mi_X10_favoriteOf : ev_Mi := (yX10_favoriteOf, cX10_favoriteOf, 2, (some .int), 9)
abbrev mi_X10_seatCount : ev_Mi := (yX10_seatCount, cX10_seatCount, 2, (some .int), 9)
abbrev mi_X10_seatAt : ev_Mi := (yX10_seatAt, cX10_seatAt, 3, (some .int), 9)
abbrev mi_X10_loadOf : ev_Mi := (yX10_loadOf, cX10_loadOf, 2, (some .int), 9)
abbrev mi_X10_refusal : ev_Mi := (yX10_refusal, cX10_refusal, 3, (some .int), 10)
abbrev mi_X10_bestTaster : ev_Mi := (yX10_bestTaster, cX10_bestTaster, 2, (some .int), 9)
abbrev mi_X10_lacking : ev_Mi := (yX10_lacking, cX10_lacking, 1, (some .int), 8)
abbrev mi_X10_lackingAfterFilling : ev_Mi := (yX10_lackingAfterFilling, cX10_lackingAfterFilling, 1, (some .int), 8)
abbrev mi_X10_scoreOf : ev_Mi := (yX10_scoreOf, cX10_scoreOf, 3, (some .int), 10)
abbrev mi_X10_scoreCount : ev_Mi := (yX10_scoreCount, cX10_scoreCount, 2, (some .int), 9)
abbrev mi_X10_meanOf : ev_Mi := (yX10_meanOf, cX10_meanOf, 2, (some .int), 9)
abbrev mi_X10_harshest : ev_Mi := (yX10_harshest, cX10_harshest, 1, (some .int), 8)
abbrev mi_X10_disagreement : ev_Mi := (yX10_disagreement, cX10_disagreement, 2, (some .int), 9)
abbrev mi_X10_adjustedScore : ev_Mi := (yX10_adjustedScore, cX10_adjustedScore, 3, (some .int), 10)
abbrev mi_X10_totalOf : ev_Mi := (yX10_totalOf, cX10_totalOf, 2, (some .int), 9)
abbrev mi_X10_spreadOf : ev_Mi := (yX10_spreadOf, cX10_spreadOf, 2, (some .int), 9)
abbrev mi_X10_needsTalk : ev_Mi := (yX10_needsTalk, cX10_needsTalk, 2, (some .boolean), 9)
abbrev mi_X10_spreadAfterTalk : ev_Mi := (yX10_spreadAfterTalk, cX10_spreadAfterTalk, 2, (some .int), 9)
abbrev mi_X10_rankOf : ev_Mi := (yX10_rankOf, cX10_rankOf, 2, (some .int), 9)
abbrev mi_X10_pancakeAt : ev_Mi := (yX10_pancakeAt, cX10_pancakeAt, 2, (some .int), 8)
abbrev mi_X10_isAccepted : ev_Mi := (yX10_isAccepted, cX10_isAccepted, 2, (some .boolean), 9)
abbrev mi_X10_fillCount : ev_Mi := (yX10_fillCount, cX10_fillCount, 1, (some .int), 8)
abbrev mi_X10_moveCount : ev_Mi := (yX10_moveCount, cX10_moveCount, 1, (some .int), 8)
abbrev mi_X10_talkCount : ev_Mi := (yX10_talkCount, cX10_talkCount, 1, (some .int), 8)
abbrev mi_X10_changeCount : ev_Mi := (yX10_changeCount, cX10_changeCount, 1, (some .int), 8)
abbrev mi_X10_averageScore : ev_Mi := (yX10_averageScore, cX10_averageScore, 2, (some .double), 8)
abbrev mi_X10_seatShare : ev_Mi := (yX10_seatShare, cX10_seatShare, 2, (some .float), 8)
abbrev mi_X10_imbalance : ev_Mi := (yX10_imbalance, cX10_imbalance, 1, (some .int), 8)
abbrev mi_X10_writePancake : ev_Mi := (yX10_writePancake, cX10_writePancake, 4, (some .int), 9)
abbrev mi_X10_writeBids : ev_Mi := (yX10_writeBids, cX10_writeBids, 3, (some .int), 9)
abbrev mi_X10_outputByte : ev_Mi := (yX10_outputByte, cX10_outputByte, 2, (some .int), 7)
abbrev mi_X10_bid : ev_Mi := (yX10_bid, cX10_bid, 5, (some .int), 10)
abbrev mi_X10_assign : ev_Mi := (yX10_assign, cX10_assign, 3, (some .int), 10)
abbrev mi_X10_unassign : ev_Mi := (yX10_unassign, cX10_unassign, 3, (some .int), 10)
abbrev mi_X10_fill : ev_Mi := (yX10_fill, cX10_fill, 1, (some .int), 8)
abbrev mi_X10_score : ev_Mi := (yX10_score, cX10_score, 5, (some .int), 10)
abbrev mi_X10_talk : ev_Mi := (yX10_talk, cX10_talk, 2, (some .int), 9)
abbrev mi_X10_declare : ev_Mi := (yX10_declare, cX10_declare, 5, (some .boolean), 10)
abbrev mi_X10_undo : ev_Mi := (yX10_undo, cX10_undo, 1, (some .int), 7)
abbrev mi_X10_undoCount : ev_Mi := (yX10_undoCount, cX10_undoCount, 1, (some .int), 0)
abbrev mi_X10_saveState : ev_Mi := (yX10_saveState, cX10_saveState, 2, (some .int), 8)
abbrev mi_X10_restoreState : ev_Mi := (yX10_restoreState, cX10_restoreState, 2, (some .int), 7)
abbrev mi_X10_requirePanel : ev_Mi := (yX10_requirePanel, cX10_requirePanel, 1, none, 7)
abbrev mi_X10_requirePerson : ev_Mi := (yX10_requirePerson, cX10_requirePerson, 2, none, 8)
abbrev mi_X10_requirePancake : ev_Mi := (yX10_requirePancake, cX10_requirePancake, 2, none, 8)
abbrev mi_X10_requirePair : ev_Mi := (yX10_requirePair, cX10_requirePair, 3, none, 9)
abbrev mi_X10_requireSeat : ev_Mi := (yX10_requireSeat, cX10_requireSeat, 3, none, 7)
abbrev mi_X10_writeTaster : ev_Mi := (yX10_writeTaster, cX10_writeTaster, 4, none, 3)
abbrev mi_X10_cell : ev_Mi := (yX10_cell, cX10_cell, 2, (some .int), 0)
abbrev mi_X10_setCell : ev_Mi := (yX10_setCell, cX10_setCell, 3, none, 0)
abbrev mi_X10_copyRow : ev_Mi := (yX10_copyRow, cX10_copyRow, 2, none, 1)
abbrev mi_X10_letterCount : ev_Mi := (yX10_letterCount, cX10_letterCount, 3, (some .int), 0)
abbrev mi_X10_letterOf : ev_Mi := (yX10_letterOf, cX10_letterOf, 4, (some .int), 0)
abbrev mi_X11_init : ev_Mi := (yX11_init, cX11_init, 1, none, 0)
abbrev mi_X11_thrown : ev_Mi := (yX11_thrown, cX11_thrown, 1, (some .int), 0)
abbrev mi_X11_in : ev_Mi := (yX11_in, cX11_in, 3, (some .boolean), 0)
abbrev mi_X11_one : ev_Mi := (yX11_one, cX11_one, 1, (some .int), 0)
abbrev mi_X11_may : ev_Mi := (yX11_may, cX11_may, 4, (some .boolean), 0)
abbrev mi_X11_mayTwo : ev_Mi := (yX11_mayTwo, cX11_mayTwo, 3, (some .boolean), 1)
abbrev mi_X11_mayLook : ev_Mi := (yX11_mayLook, cX11_mayLook, 1, (some .boolean), 1)
abbrev mi_X11_lays : ev_Mi := (yX11_lays, cX11_lays, 5, none, 0)
abbrev mi_X11_thinks : ev_Mi := (yX11_thinks, cX11_thinks, 1, none, 1)
abbrev mi_X11_back : ev_Mi := (yX11_back, cX11_back, 2, (some .int), 1)
abbrev mi_X11_append : ev_Mi := (yX11_append, cX11_append, 6, (some .int), 1)
abbrev mi_X11_four : ev_Mi := (yX11_four, cX11_four, 3, none, 0)
abbrev mi_X11_told : ev_Mi := (yX11_told, cX11_told, 2, (some .int), 0)
abbrev mi_X11_parseErrorCode : ev_Mi := (yX11_parseErrorCode, cX11_parseErrorCode, 1, (some .int), 1)
abbrev mi_X11_parseErrorPosition : ev_Mi := (yX11_parseErrorPosition, cX11_parseErrorPosition, 1, (some .int), 1)
abbrev mi_X11_bufferLength : ev_Mi := (yX11_bufferLength, cX11_bufferLength, 1, (some .int), 1)
abbrev mi_X11_isSmall : ev_Mi := (yX11_isSmall, cX11_isSmall, 2, (some .boolean), 1)
abbrev mi_X11_isDigit : ev_Mi := (yX11_isDigit, cX11_isDigit, 2, (some .boolean), 1)
abbrev mi_X11_goes : ev_Mi := (yX11_goes, cX11_goes, 1, none, 2)
abbrev mi_X11_signOf : ev_Mi := (yX11_signOf, cX11_signOf, 1, (some .int), 0)
abbrev mi_X11_faults : ev_Mi := (yX11_faults, cX11_faults, 2, none, 0)
abbrev mi_X11_refuses : ev_Mi := (yX11_refuses, cX11_refuses, 2, none, 1)
abbrev mi_X11_limits : ev_Mi := (yX11_limits, cX11_limits, 2, none, 1)
abbrev mi_X11_is : ev_Mi := (yX11_is, cX11_is, 2, (some .boolean), 0)
abbrev mi_X11_isWord : ev_Mi := (yX11_isWord, cX11_isWord, 3, (some .boolean), 12)
abbrev mi_X11_numberHere : ev_Mi := (yX11_numberHere, cX11_numberHere, 3, (some .int), 1)
abbrev mi_X11_readNumber : ev_Mi := (yX11_readNumber, cX11_readNumber, 4, (some .int), 3)
abbrev mi_X11_isNamed : ev_Mi := (yX11_isNamed, cX11_isNamed, 3, (some .boolean), 1)
abbrev mi_X11_personNamed : ev_Mi := (yX11_personNamed, cX11_personNamed, 2, (some .int), 2)
abbrev mi_X11_wantsName : ev_Mi := (yX11_wantsName, cX11_wantsName, 1, none, 1)
abbrev mi_X11_personHere : ev_Mi := (yX11_personHere, cX11_personHere, 2, (some .int), 3)
abbrev mi_X11_readPerson : ev_Mi := (yX11_readPerson, cX11_readPerson, 2, (some .int), 4)
abbrev mi_X11_readTaster : ev_Mi := (yX11_readTaster, cX11_readTaster, 2, (some .int), 4)
abbrev mi_X11_pancakeHere : ev_Mi := (yX11_pancakeHere, cX11_pancakeHere, 1, (some .int), 2)
abbrev mi_X11_readPancake : ev_Mi := (yX11_readPancake, cX11_readPancake, 2, (some .int), 3)
abbrev mi_X11_readsPerson : ev_Mi := (yX11_readsPerson, cX11_readsPerson, 3, none, 4)
abbrev mi_X11_readsTaster : ev_Mi := (yX11_readsTaster, cX11_readsTaster, 5, none, 4)
abbrev mi_X11_readsPancake : ev_Mi := (yX11_readsPancake, cX11_readsPancake, 5, none, 4)
abbrev mi_X11_readsBid : ev_Mi := (yX11_readsBid, cX11_readsBid, 4, none, 5)
abbrev mi_X11_readsTogether : ev_Mi := (yX11_readsTogether, cX11_readsTogether, 3, none, 5)
abbrev mi_X11_readsConflict : ev_Mi := (yX11_readsConflict, cX11_readsConflict, 3, none, 5)
abbrev mi_X11_readsSeat : ev_Mi := (yX11_readsSeat, cX11_readsSeat, 4, none, 5)
abbrev mi_X11_readsFill : ev_Mi := (yX11_readsFill, cX11_readsFill, 2, none, 8)
abbrev mi_X11_tastedHere : ev_Mi := (yX11_tastedHere, cX11_tastedHere, 3, (some .int), 3)
abbrev mi_X11_readsLeave : ev_Mi := (yX11_readsLeave, cX11_readsLeave, 4, none, 5)
abbrev mi_X11_readsScore : ev_Mi := (yX11_readsScore, cX11_readsScore, 4, none, 5)
abbrev mi_X11_readsTalk : ev_Mi := (yX11_readsTalk, cX11_readsTalk, 3, none, 4)
abbrev mi_X11_readsLimit : ev_Mi := (yX11_readsLimit, cX11_readsLimit, 3, none, 5)
abbrev mi_X11_readsKitchen : ev_Mi := (yX11_readsKitchen, cX11_readsKitchen, 3, none, 5)
abbrev mi_X11_readsSwap : ev_Mi := (yX11_readsSwap, cX11_readsSwap, 4, none, 4)
abbrev mi_X11_readsClear : ev_Mi := (yX11_readsClear, cX11_readsClear, 3, none, 3)
abbrev mi_X11_readsEven : ev_Mi := (yX11_readsEven, cX11_readsEven, 4, none, 3)
abbrev mi_X11_readsCopy : ev_Mi := (yX11_readsCopy, cX11_readsCopy, 4, none, 5)
abbrev mi_X11_readsItems (r : Nat) : ev_Mi := (yX11_readsItems, cX11_readsItems, 1, none, 17 + 10 * r)
abbrev mi_X11_readsRepeat (r : Nat) : ev_Mi := (yX11_readsRepeat, cX11_readsRepeat, 4, none, 14 + 10 * r)
abbrev mi_X11_readsItem (r : Nat) : ev_Mi := (yX11_readsItem, cX11_readsItem, 1, none, 16 + 10 * r)
abbrev mi_X11_readsMore (r : Nat) : ev_Mi := (yX11_readsMore, cX11_readsMore, 1, none, 15 + 10 * r)
abbrev mi_X11_readsText : ev_Mi := (yX11_readsText, cX11_readsText, 1, none, 40)
abbrev mi_X11_parseSetup : ev_Mi := (yX11_parseSetup, cX11_parseSetup, 3, (some .int), 41)
abbrev mi_X11_of : ev_Mi := (yX11_of, cX11_of, 3, (some .int), 0)
abbrev mi_X11_puts : ev_Mi := (yX11_puts, cX11_puts, 4, none, 0)
abbrev mi_X11_ofCake : ev_Mi := (yX11_ofCake, cX11_ofCake, 3, (some .int), 0)
abbrev mi_X11_putsCake : ev_Mi := (yX11_putsCake, cX11_putsCake, 4, none, 0)
abbrev mi_X11_isTasting : ev_Mi := (yX11_isTasting, cX11_isTasting, 2, (some .boolean), 1)
abbrev mi_X11_cooks : ev_Mi := (yX11_cooks, cX11_cooks, 5, (some .boolean), 1)
abbrev mi_X11_conflictOf : ev_Mi := (yX11_conflictOf, cX11_conflictOf, 8, (some .int), 2)
abbrev mi_X11_seatOf : ev_Mi := (yX11_seatOf, cX11_seatOf, 4, (some .int), 1)
abbrev mi_X11_load : ev_Mi := (yX11_load, cX11_load, 4, (some .int), 2)
abbrev mi_X11_why : ev_Mi := (yX11_why, cX11_why, 3, (some .int), 3)
abbrev mi_X11_seats : ev_Mi := (yX11_seats, cX11_seats, 4, (some .int), 1)
abbrev mi_X11_leaves : ev_Mi := (yX11_leaves, cX11_leaves, 5, (some .int), 2)
abbrev mi_X11_wish : ev_Mi := (yX11_wish, cX11_wish, 3, (some .int), 1)
abbrev mi_X11_isBetter : ev_Mi := (yX11_isBetter, cX11_isBetter, 5, (some .boolean), 3)
abbrev mi_X11_best : ev_Mi := (yX11_best, cX11_best, 4, (some .int), 4)
abbrev mi_X11_neediest : ev_Mi := (yX11_neediest, cX11_neediest, 3, (some .int), 1)
abbrev mi_X11_fills : ev_Mi := (yX11_fills, cX11_fills, 5, (some .int), 7)
abbrev mi_X11_moves : ev_Mi := (yX11_moves, cX11_moves, 3, (some .boolean), 6)
abbrev mi_X11_movesFor : ev_Mi := (yX11_movesFor, cX11_movesFor, 6, (some .boolean), 5)
abbrev mi_X11_other : ev_Mi := (yX11_other, cX11_other, 7, (some .int), 4)
abbrev mi_X11_lacks : ev_Mi := (yX11_lacks, cX11_lacks, 3, (some .int), 1)
abbrev mi_X11_scores : ev_Mi := (yX11_scores, cX11_scores, 4, (some .int), 1)
abbrev mi_X11_scoresBy : ev_Mi := (yX11_scoresBy, cX11_scoresBy, 4, (some .int), 1)
abbrev mi_X11_sumBy : ev_Mi := (yX11_sumBy, cX11_sumBy, 4, (some .int), 1)
abbrev mi_X11_allScores : ev_Mi := (yX11_allScores, cX11_allScores, 3, (some .int), 2)
abbrev mi_X11_allSum : ev_Mi := (yX11_allSum, cX11_allSum, 3, (some .int), 2)
abbrev mi_X11_mean : ev_Mi := (yX11_mean, cX11_mean, 2, (some .int), 2)
abbrev mi_X11_adjusted : ev_Mi := (yX11_adjusted, cX11_adjusted, 3, (some .int), 3)
abbrev mi_X11_isScored : ev_Mi := (yX11_isScored, cX11_isScored, 3, (some .boolean), 1)
abbrev mi_X11_total : ev_Mi := (yX11_total, cX11_total, 5, (some .int), 4)
abbrev mi_X11_spread : ev_Mi := (yX11_spread, cX11_spread, 7, (some .int), 4)
abbrev mi_X11_mustTalk : ev_Mi := (yX11_mustTalk, cX11_mustTalk, 2, (some .boolean), 5)
abbrev mi_X11_middle : ev_Mi := (yX11_middle, cX11_middle, 6, (some .int), 2)
abbrev mi_X11_talks : ev_Mi := (yX11_talks, cX11_talks, 6, (some .int), 3)
abbrev mi_X11_isAhead : ev_Mi := (yX11_isAhead, cX11_isAhead, 5, (some .boolean), 5)
abbrev mi_X11_rank : ev_Mi := (yX11_rank, cX11_rank, 4, (some .int), 6)
abbrev mi_X11_isPancake : ev_Mi := (yX11_isPancake, cX11_isPancake, 2, (some .boolean), 1)
abbrev mi_X11_isPerson : ev_Mi := (yX11_isPerson, cX11_isPerson, 2, (some .boolean), 1)
abbrev mi_X11_mayPancake : ev_Mi := (yX11_mayPancake, cX11_mayPancake, 2, (some .boolean), 2)
abbrev mi_X11_mayPerson : ev_Mi := (yX11_mayPerson, cX11_mayPerson, 2, (some .boolean), 2)
abbrev mi_X11_areBoth : ev_Mi := (yX11_areBoth, cX11_areBoth, 3, (some .boolean), 2)
abbrev mi_X11_mayBoth : ev_Mi := (yX11_mayBoth, cX11_mayBoth, 3, (some .boolean), 3)
abbrev mi_X11_look : ev_Mi := (yX11_look, cX11_look, 2, (some .int), 2)
abbrev mi_X11_lookCake : ev_Mi := (yX11_lookCake, cX11_lookCake, 3, (some .int), 3)
abbrev mi_X11_lookPerson : ev_Mi := (yX11_lookPerson, cX11_lookPerson, 3, (some .int), 3)
abbrev mi_X11_pancakeCount : ev_Mi := (yX11_pancakeCount, cX11_pancakeCount, 1, (some .int), 3)
abbrev mi_X11_topicOf : ev_Mi := (yX11_topicOf, cX11_topicOf, 2, (some .int), 4)
abbrev mi_X11_cookCount : ev_Mi := (yX11_cookCount, cX11_cookCount, 2, (some .int), 4)
abbrev mi_X11_lookAt : ev_Mi := (yX11_lookAt, cX11_lookAt, 6, (some .int), 2)
abbrev mi_X11_cookAt : ev_Mi := (yX11_cookAt, cX11_cookAt, 3, (some .int), 3)
abbrev mi_X11_personCount : ev_Mi := (yX11_personCount, cX11_personCount, 1, (some .int), 3)
abbrev mi_X11_nameLetter : ev_Mi := (yX11_nameLetter, cX11_nameLetter, 3, (some .int), 3)
abbrev mi_X11_kitchenOf : ev_Mi := (yX11_kitchenOf, cX11_kitchenOf, 2, (some .int), 4)
abbrev mi_X11_isTaster : ev_Mi := (yX11_isTaster, cX11_isTaster, 2, (some .boolean), 3)
abbrev mi_X11_limitOf : ev_Mi := (yX11_limitOf, cX11_limitOf, 2, (some .int), 4)
abbrev mi_X11_tasteOf : ev_Mi := (yX11_tasteOf, cX11_tasteOf, 3, (some .int), 2)
abbrev mi_X11_bidOf : ev_Mi := (yX11_bidOf, cX11_bidOf, 3, (some .int), 4)
abbrev mi_X11_preference : ev_Mi := (yX11_preference, cX11_preference, 3, (some .int), 4)
abbrev mi_X11_conflict : ev_Mi := (yX11_conflict, cX11_conflict, 3, (some .int), 4)
abbrev mi_X11_favoriteOf : ev_Mi := (yX11_favoriteOf, cX11_favoriteOf, 4, (some .int), 3)
abbrev mi_X11_conflictCount : ev_Mi := (yX11_conflictCount, cX11_conflictCount, 4, (some .int), 3)
abbrev mi_X11_seatCount : ev_Mi := (yX11_seatCount, cX11_seatCount, 2, (some .int), 4)
abbrev mi_X11_seatAt : ev_Mi := (yX11_seatAt, cX11_seatAt, 3, (some .int), 3)
abbrev mi_X11_loadOf : ev_Mi := (yX11_loadOf, cX11_loadOf, 2, (some .int), 3)
abbrev mi_X11_refusal : ev_Mi := (yX11_refusal, cX11_refusal, 3, (some .int), 4)
abbrev mi_X11_bestTaster : ev_Mi := (yX11_bestTaster, cX11_bestTaster, 2, (some .int), 5)
abbrev mi_X11_lacking : ev_Mi := (yX11_lacking, cX11_lacking, 1, (some .int), 2)
abbrev mi_X11_lackingAfterFilling : ev_Mi := (yX11_lackingAfterFilling, cX11_lackingAfterFilling, 2, (some .int), 8)
abbrev mi_X11_scoreOf : ev_Mi := (yX11_scoreOf, cX11_scoreOf, 3, (some .int), 4)
abbrev mi_X11_scoreCount : ev_Mi := (yX11_scoreCount, cX11_scoreCount, 2, (some .int), 3)
abbrev mi_X11_meanOf : ev_Mi := (yX11_meanOf, cX11_meanOf, 2, (some .int), 3)
abbrev mi_X11_adjustedScore : ev_Mi := (yX11_adjustedScore, cX11_adjustedScore, 3, (some .int), 4)
abbrev mi_X11_harshest : ev_Mi := (yX11_harshest, cX11_harshest, 3, (some .int), 3)
abbrev mi_X11_disagreement : ev_Mi := (yX11_disagreement, cX11_disagreement, 4, (some .int), 5)
abbrev mi_X11_totalOf : ev_Mi := (yX11_totalOf, cX11_totalOf, 2, (some .int), 5)
abbrev mi_X11_spreadOf : ev_Mi := (yX11_spreadOf, cX11_spreadOf, 2, (some .int), 5)
abbrev mi_X11_needsTalk : ev_Mi := (yX11_needsTalk, cX11_needsTalk, 2, (some .boolean), 6)
abbrev mi_X11_spreadAfterTalk : ev_Mi := (yX11_spreadAfterTalk, cX11_spreadAfterTalk, 3, (some .int), 5)
abbrev mi_X11_rankOf : ev_Mi := (yX11_rankOf, cX11_rankOf, 2, (some .int), 7)
abbrev mi_X11_pancakeAt : ev_Mi := (yX11_pancakeAt, cX11_pancakeAt, 3, (some .int), 7)
abbrev mi_X11_isAccepted : ev_Mi := (yX11_isAccepted, cX11_isAccepted, 2, (some .boolean), 7)
abbrev mi_X11_fillCount : ev_Mi := (yX11_fillCount, cX11_fillCount, 1, (some .int), 3)
abbrev mi_X11_moveCount : ev_Mi := (yX11_moveCount, cX11_moveCount, 1, (some .int), 3)
abbrev mi_X11_talkCount : ev_Mi := (yX11_talkCount, cX11_talkCount, 1, (some .int), 3)
abbrev mi_X11_changeCount : ev_Mi := (yX11_changeCount, cX11_changeCount, 1, (some .int), 3)
abbrev mi_X11_averageScore : ev_Mi := (yX11_averageScore, cX11_averageScore, 1, (some .double), 3)
abbrev mi_X11_seatShare : ev_Mi := (yX11_seatShare, cX11_seatShare, 1, (some .float), 2)
abbrev mi_X11_imbalance : ev_Mi := (yX11_imbalance, cX11_imbalance, 5, (some .int), 4)
abbrev mi_X11_troubles : ev_Mi := (yX11_troubles, cX11_troubles, 4, (some .int), 3)
abbrev mi_X11_writesByte : ev_Mi := (yX11_writesByte, cX11_writesByte, 2, none, 0)
abbrev mi_X11_writesNumber : ev_Mi := (yX11_writesNumber, cX11_writesNumber, 4, none, 1)
abbrev mi_X11_writePancake : ev_Mi := (yX11_writePancake, cX11_writePancake, 5, (some .int), 5)
abbrev mi_X11_writeBids : ev_Mi := (yX11_writeBids, cX11_writeBids, 3, (some .int), 3)
abbrev mi_X11_outputByte : ev_Mi := (yX11_outputByte, cX11_outputByte, 2, (some .int), 1)
abbrev mi_X11_remembers : ev_Mi := (yX11_remembers, cX11_remembers, 2, none, 1)
abbrev mi_X11_bid : ev_Mi := (yX11_bid, cX11_bid, 6, (some .int), 3)
abbrev mi_X11_assign : ev_Mi := (yX11_assign, cX11_assign, 4, (some .int), 4)
abbrev mi_X11_unassign : ev_Mi := (yX11_unassign, cX11_unassign, 4, (some .int), 3)
abbrev mi_X11_fill : ev_Mi := (yX11_fill, cX11_fill, 1, (some .int), 8)
abbrev mi_X11_score : ev_Mi := (yX11_score, cX11_score, 6, (some .int), 3)
abbrev mi_X11_talk : ev_Mi := (yX11_talk, cX11_talk, 3, (some .int), 4)
abbrev mi_X11_declare : ev_Mi := (yX11_declare, cX11_declare, 5, (some .boolean), 4)
abbrev mi_X11_undo : ev_Mi := (yX11_undo, cX11_undo, 1, (some .int), 1)
abbrev mi_X11_undoCount : ev_Mi := (yX11_undoCount, cX11_undoCount, 1, (some .int), 1)
abbrev mi_X11_isSlot : ev_Mi := (yX11_isSlot, cX11_isSlot, 1, (some .boolean), 1)
abbrev mi_X11_saveState : ev_Mi := (yX11_saveState, cX11_saveState, 2, (some .int), 3)
abbrev mi_X11_restoreState : ev_Mi := (yX11_restoreState, cX11_restoreState, 3, (some .int), 3)
abbrev mi_J7_fill_d0a16 : ev_Mi := (yJ7_fill_d0a16, cJ7_fill_d0a16, 5, none, 0)
abbrev mi_J7_fill_53178 : ev_Mi := (yJ7_fill_53178, cJ7_fill_53178, 4, none, 0)
def fl_X1 : List (Nat × Nat × Nat × Nat) := [(13, 0, 0, 1), (19, 0, 1, 0)]
theorem fl_X1_13 : ev_lu fl_X1 13 = some (0, 0, 1) := rfl
theorem fl_X1_19 : ev_lu fl_X1 19 = some (0, 1, 0) := rfl
def ca_X1 : List (Nat × ev_Ca) := [(7, (10, mi_J7_fill_53178, 2, 0)), (23, (3, mi_X10_cell, 2, 8)), (29, (3, mi_X10_setCell, 3, 8)), (33, (0, mi_X1_add, 1, 0)), (37, (3, mi_X10_letterCount, 1, 8)), (41, (3, mi_X10_letterOf, 3, 8)), (45, (12, mi_J7_fill_53178, 1, 0))]
theorem ca_X1_7 : ev_lu ca_X1 7 = some (10, mi_J7_fill_53178, 2, 0) := rfl
theorem ca_X1_23 : ev_lu ca_X1 23 = some (3, mi_X10_cell, 2, 8) := rfl
theorem ca_X1_29 : ev_lu ca_X1 29 = some (3, mi_X10_setCell, 3, 8) := rfl
theorem ca_X1_33 : ev_lu ca_X1 33 = some (0, mi_X1_add, 1, 0) := rfl
theorem ca_X1_37 : ev_lu ca_X1 37 = some (3, mi_X10_letterCount, 1, 8) := rfl
theorem ca_X1_41 : ev_lu ca_X1 41 = some (3, mi_X10_letterOf, 3, 8) := rfl
theorem ca_X1_45 : ev_lu ca_X1 45 = some (12, mi_J7_fill_53178, 1, 0) := rfl
def th_X1 : List (Nat × String) := []
def ko_X1 : List (Nat × Int32) := [(49, 1000000000)]
theorem ko_X1_49 : ev_lu ko_X1 49 = some 1000000000 := rfl
def kl_X1 : List (Nat × Int64) := []
def fl_X2 : List (Nat × Nat × Nat × Nat) := [(11, 1, 0, 1), (18, 1, 2, 0), (22, 1, 1, 0)]
theorem fl_X2_11 : ev_lu fl_X2 11 = some (1, 0, 1) := rfl
theorem fl_X2_18 : ev_lu fl_X2 18 = some (1, 2, 0) := rfl
theorem fl_X2_22 : ev_lu fl_X2 22 = some (1, 1, 0) := rfl
def ca_X2 : List (Nat × ev_Ca) := [(25, (0, mi_X4_copyFrom, 1, 2)), (29, (11, mi_J7_fill_53178, 2, 0))]
theorem ca_X2_25 : ev_lu ca_X2 25 = some (0, mi_X4_copyFrom, 1, 2) := rfl
theorem ca_X2_29 : ev_lu ca_X2 29 = some (11, mi_J7_fill_53178, 2, 0) := rfl
def th_X2 : List (Nat × String) := []
def ko_X2 : List (Nat × Int32) := []
def kl_X2 : List (Nat × Int64) := []
def fl_X4 : List (Nat × Nat × Nat × Nat) := [(9, 2, 7, 1), (15, 2, 8, 1), (19, 2, 9, 1), (22, 2, 10, 1), (30, 2, 11, 1), (34, 2, 12, 1), (37, 2, 13, 1), (40, 2, 14, 1), (46, 2, 15, 1), (50, 2, 16, 1), (56, 2, 17, 1), (60, 2, 0, 3), (64, 2, 1, 0), (68, 2, 2, 0), (71, 2, 3, 0), (74, 2, 4, 0), (77, 2, 5, 0), (80, 2, 6, 0)]
theorem fl_X4_9 : ev_lu fl_X4 9 = some (2, 7, 1) := rfl
theorem fl_X4_15 : ev_lu fl_X4 15 = some (2, 8, 1) := rfl
theorem fl_X4_19 : ev_lu fl_X4 19 = some (2, 9, 1) := rfl
theorem fl_X4_22 : ev_lu fl_X4 22 = some (2, 10, 1) := rfl
theorem fl_X4_30 : ev_lu fl_X4 30 = some (2, 11, 1) := rfl
theorem fl_X4_34 : ev_lu fl_X4 34 = some (2, 12, 1) := rfl
theorem fl_X4_37 : ev_lu fl_X4 37 = some (2, 13, 1) := rfl
theorem fl_X4_40 : ev_lu fl_X4 40 = some (2, 14, 1) := rfl
theorem fl_X4_46 : ev_lu fl_X4 46 = some (2, 15, 1) := rfl
theorem fl_X4_50 : ev_lu fl_X4 50 = some (2, 16, 1) := rfl
theorem fl_X4_56 : ev_lu fl_X4 56 = some (2, 17, 1) := rfl
theorem fl_X4_60 : ev_lu fl_X4 60 = some (2, 0, 3) := rfl
theorem fl_X4_64 : ev_lu fl_X4 64 = some (2, 1, 0) := rfl
theorem fl_X4_68 : ev_lu fl_X4 68 = some (2, 2, 0) := rfl
theorem fl_X4_71 : ev_lu fl_X4 71 = some (2, 3, 0) := rfl
theorem fl_X4_74 : ev_lu fl_X4 74 = some (2, 4, 0) := rfl
theorem fl_X4_77 : ev_lu fl_X4 77 = some (2, 5, 0) := rfl
theorem fl_X4_80 : ev_lu fl_X4 80 = some (2, 6, 0) := rfl
def ca_X4 : List (Nat × ev_Ca) := [(83, (1, mi_J7_fill_d0a16, 2, 0)), (89, (1, mi_J7_fill_53178, 2, 0)), (92, (0, mi_X8_clear, 0, 6)), (95, (0, mi_X5_clear, 0, 3)), (96, (0, mi_X6_clear, 0, 4)), (97, (11, mi_J7_fill_53178, 2, 0)), (103, (13, mi_J7_fill_53178, 5, 0)), (109, (3, mi_X10_copyRow, 2, 8)), (113, (0, mi_X8_copyFrom, 1, 6)), (117, (0, mi_X5_copyFrom, 1, 3)), (120, (0, mi_X6_copyFrom, 1, 4)), (123, (0, mi_X4_name, 1, 2)), (127, (3, mi_X10_setCell, 3, 8)), (131, (3, mi_X10_cell, 2, 8)), (135, (0, mi_X8_set, 3, 6)), (139, (0, mi_X8_get, 2, 6)), (142, (0, mi_X4_liking, 2, 2)), (145, (0, mi_X4_conflictReason, 2, 2)), (148, (0, mi_X5_contains, 2, 3)), (152, (0, mi_X5_size, 1, 3)), (156, (0, mi_X5_member, 2, 3)), (159, (0, mi_X4_isOneOfTasters, 1, 2)), (163, (0, mi_X4_load, 1, 2)), (166, (0, mi_X4_refusalReason, 3, 2)), (170, (0, mi_X4_isBetter, 3, 2)), (174, (0, mi_X5_remove, 2, 3)), (177, (0, mi_X6_put, 3, 4)), (180, (0, mi_X4_takeSeat, 2, 2)), (183, (0, mi_X4_takenSeats, 0, 2)), (188, (0, mi_X4_neediest, 1, 2)), (191, (0, mi_X4_bestFor, 1, 2)), (194, (0, mi_X5_add, 2, 3)), (197, (0, mi_X4_makeMove, 1, 2)), (200, (0, mi_X6_given, 2, 4)), (203, (0, mi_X6_spread, 1, 4))]
theorem ca_X4_83 : ev_lu ca_X4 83 = some (1, mi_J7_fill_d0a16, 2, 0) := rfl
theorem ca_X4_89 : ev_lu ca_X4 89 = some (1, mi_J7_fill_53178, 2, 0) := rfl
theorem ca_X4_92 : ev_lu ca_X4 92 = some (0, mi_X8_clear, 0, 6) := rfl
theorem ca_X4_95 : ev_lu ca_X4 95 = some (0, mi_X5_clear, 0, 3) := rfl
theorem ca_X4_96 : ev_lu ca_X4 96 = some (0, mi_X6_clear, 0, 4) := rfl
theorem ca_X4_97 : ev_lu ca_X4 97 = some (11, mi_J7_fill_53178, 2, 0) := rfl
theorem ca_X4_103 : ev_lu ca_X4 103 = some (13, mi_J7_fill_53178, 5, 0) := rfl
theorem ca_X4_109 : ev_lu ca_X4 109 = some (3, mi_X10_copyRow, 2, 8) := rfl
theorem ca_X4_113 : ev_lu ca_X4 113 = some (0, mi_X8_copyFrom, 1, 6) := rfl
theorem ca_X4_117 : ev_lu ca_X4 117 = some (0, mi_X5_copyFrom, 1, 3) := rfl
theorem ca_X4_120 : ev_lu ca_X4 120 = some (0, mi_X6_copyFrom, 1, 4) := rfl
theorem ca_X4_123 : ev_lu ca_X4 123 = some (0, mi_X4_name, 1, 2) := rfl
theorem ca_X4_127 : ev_lu ca_X4 127 = some (3, mi_X10_setCell, 3, 8) := rfl
theorem ca_X4_131 : ev_lu ca_X4 131 = some (3, mi_X10_cell, 2, 8) := rfl
theorem ca_X4_135 : ev_lu ca_X4 135 = some (0, mi_X8_set, 3, 6) := rfl
theorem ca_X4_139 : ev_lu ca_X4 139 = some (0, mi_X8_get, 2, 6) := rfl
theorem ca_X4_142 : ev_lu ca_X4 142 = some (0, mi_X4_liking, 2, 2) := rfl
theorem ca_X4_145 : ev_lu ca_X4 145 = some (0, mi_X4_conflictReason, 2, 2) := rfl
theorem ca_X4_148 : ev_lu ca_X4 148 = some (0, mi_X5_contains, 2, 3) := rfl
theorem ca_X4_152 : ev_lu ca_X4 152 = some (0, mi_X5_size, 1, 3) := rfl
theorem ca_X4_156 : ev_lu ca_X4 156 = some (0, mi_X5_member, 2, 3) := rfl
theorem ca_X4_159 : ev_lu ca_X4 159 = some (0, mi_X4_isOneOfTasters, 1, 2) := rfl
theorem ca_X4_163 : ev_lu ca_X4 163 = some (0, mi_X4_load, 1, 2) := rfl
theorem ca_X4_166 : ev_lu ca_X4 166 = some (0, mi_X4_refusalReason, 3, 2) := rfl
theorem ca_X4_170 : ev_lu ca_X4 170 = some (0, mi_X4_isBetter, 3, 2) := rfl
theorem ca_X4_174 : ev_lu ca_X4 174 = some (0, mi_X5_remove, 2, 3) := rfl
theorem ca_X4_177 : ev_lu ca_X4 177 = some (0, mi_X6_put, 3, 4) := rfl
theorem ca_X4_180 : ev_lu ca_X4 180 = some (0, mi_X4_takeSeat, 2, 2) := rfl
theorem ca_X4_183 : ev_lu ca_X4 183 = some (0, mi_X4_takenSeats, 0, 2) := rfl
theorem ca_X4_188 : ev_lu ca_X4 188 = some (0, mi_X4_neediest, 1, 2) := rfl
theorem ca_X4_191 : ev_lu ca_X4 191 = some (0, mi_X4_bestFor, 1, 2) := rfl
theorem ca_X4_194 : ev_lu ca_X4 194 = some (0, mi_X5_add, 2, 3) := rfl
theorem ca_X4_197 : ev_lu ca_X4 197 = some (0, mi_X4_makeMove, 1, 2) := rfl
theorem ca_X4_200 : ev_lu ca_X4 200 = some (0, mi_X6_given, 2, 4) := rfl
theorem ca_X4_203 : ev_lu ca_X4 203 = some (0, mi_X6_spread, 1, 4) := rfl
def th_X4 : List (Nat × String) := []
def ko_X4 : List (Nat × Int32) := [(187, 1000000)]
theorem ko_X4_187 : ev_lu ko_X4 187 = some 1000000 := rfl
def kl_X4 : List (Nat × Int64) := []
def fl_X5 : List (Nat × Nat × Nat × Nat) := [(9, 3, 0, 1), (15, 3, 1, 1)]
theorem fl_X5_9 : ev_lu fl_X5 9 = some (3, 0, 1) := rfl
theorem fl_X5_15 : ev_lu fl_X5 15 = some (3, 1, 1) := rfl
def ca_X5 : List (Nat × ev_Ca) := [(18, (3, mi_X10_cell, 2, 8)), (22, (3, mi_X10_setCell, 3, 8)), (26, (0, mi_X5_member, 2, 3)), (30, (1, mi_J7_fill_53178, 2, 0)), (36, (3, mi_X10_copyRow, 2, 8))]
theorem ca_X5_18 : ev_lu ca_X5 18 = some (3, mi_X10_cell, 2, 8) := rfl
theorem ca_X5_22 : ev_lu ca_X5 22 = some (3, mi_X10_setCell, 3, 8) := rfl
theorem ca_X5_26 : ev_lu ca_X5 26 = some (0, mi_X5_member, 2, 3) := rfl
theorem ca_X5_30 : ev_lu ca_X5 30 = some (1, mi_J7_fill_53178, 2, 0) := rfl
theorem ca_X5_36 : ev_lu ca_X5 36 = some (3, mi_X10_copyRow, 2, 8) := rfl
def th_X5 : List (Nat × String) := []
def ko_X5 : List (Nat × Int32) := []
def kl_X5 : List (Nat × Int64) := []
def fl_X6 : List (Nat × Nat × Nat × Nat) := [(14, 4, 0, 1), (23, 4, 1, 0), (27, 4, 2, 0), (30, 4, 3, 0), (33, 4, 4, 0)]
theorem fl_X6_14 : ev_lu fl_X6 14 = some (4, 0, 1) := rfl
theorem fl_X6_23 : ev_lu fl_X6 23 = some (4, 1, 0) := rfl
theorem fl_X6_27 : ev_lu fl_X6 27 = some (4, 2, 0) := rfl
theorem fl_X6_30 : ev_lu fl_X6 30 = some (4, 3, 0) := rfl
theorem fl_X6_33 : ev_lu fl_X6 33 = some (4, 4, 0) := rfl
def ca_X6 : List (Nat × ev_Ca) := [(20, (0, mi_X8_clear, 0, 6)), (36, (0, mi_X8_copyFrom, 1, 6)), (40, (0, mi_X8_get, 2, 6)), (44, (0, mi_X8_set, 3, 6)), (48, (0, mi_X6_mean, 1, 4)), (52, (0, mi_X6_meanOfAll, 0, 4)), (56, (0, mi_X6_adjusted, 2, 4)), (59, (11, mi_J7_fill_53178, 2, 0)), (64, (10, mi_J7_fill_53178, 2, 0)), (67, (0, mi_X6_total, 1, 4)), (70, (12, mi_J7_fill_53178, 1, 0)), (73, (0, mi_X6_comesBefore, 2, 4)), (77, (0, mi_X6_rank, 1, 4)), (80, (0, mi_X6_countFor, 1, 4)), (83, (0, mi_X6_middle, 1, 4)), (86, (0, mi_X6_put, 3, 4))]
theorem ca_X6_20 : ev_lu ca_X6 20 = some (0, mi_X8_clear, 0, 6) := rfl
theorem ca_X6_36 : ev_lu ca_X6 36 = some (0, mi_X8_copyFrom, 1, 6) := rfl
theorem ca_X6_40 : ev_lu ca_X6 40 = some (0, mi_X8_get, 2, 6) := rfl
theorem ca_X6_44 : ev_lu ca_X6 44 = some (0, mi_X8_set, 3, 6) := rfl
theorem ca_X6_48 : ev_lu ca_X6 48 = some (0, mi_X6_mean, 1, 4) := rfl
theorem ca_X6_52 : ev_lu ca_X6 52 = some (0, mi_X6_meanOfAll, 0, 4) := rfl
theorem ca_X6_56 : ev_lu ca_X6 56 = some (0, mi_X6_adjusted, 2, 4) := rfl
theorem ca_X6_59 : ev_lu ca_X6 59 = some (11, mi_J7_fill_53178, 2, 0) := rfl
theorem ca_X6_64 : ev_lu ca_X6 64 = some (10, mi_J7_fill_53178, 2, 0) := rfl
theorem ca_X6_67 : ev_lu ca_X6 67 = some (0, mi_X6_total, 1, 4) := rfl
theorem ca_X6_70 : ev_lu ca_X6 70 = some (12, mi_J7_fill_53178, 1, 0) := rfl
theorem ca_X6_73 : ev_lu ca_X6 73 = some (0, mi_X6_comesBefore, 2, 4) := rfl
theorem ca_X6_77 : ev_lu ca_X6 77 = some (0, mi_X6_rank, 1, 4) := rfl
theorem ca_X6_80 : ev_lu ca_X6 80 = some (0, mi_X6_countFor, 1, 4) := rfl
theorem ca_X6_83 : ev_lu ca_X6 83 = some (0, mi_X6_middle, 1, 4) := rfl
theorem ca_X6_86 : ev_lu ca_X6 86 = some (0, mi_X6_put, 3, 4) := rfl
def th_X6 : List (Nat × String) := []
def ko_X6 : List (Nat × Int32) := []
def kl_X6 : List (Nat × Int64) := []
def fl_X7 : List (Nat × Nat × Nat × Nat) := [(12, 5, 0, 1), (18, 5, 2, 0), (25, 5, 3, 1), (29, 5, 4, 1), (33, 5, 5, 1), (43, 5, 1, 0), (46, 5, 6, 0), (49, 5, 7, 0), (85, 2, 1, 0), (88, 2, 2, 0), (176, 2, 3, 0), (182, 2, 4, 0), (206, 2, 11, 1), (216, 2, 9, 1), (227, 2, 15, 1), (246, 2, 13, 1), (249, 2, 12, 1), (258, 2, 14, 1), (265, 2, 16, 1), (274, 2, 17, 1), (289, 2, 8, 1)]
theorem fl_X7_12 : ev_lu fl_X7 12 = some (5, 0, 1) := rfl
theorem fl_X7_18 : ev_lu fl_X7 18 = some (5, 2, 0) := rfl
theorem fl_X7_25 : ev_lu fl_X7 25 = some (5, 3, 1) := rfl
theorem fl_X7_29 : ev_lu fl_X7 29 = some (5, 4, 1) := rfl
theorem fl_X7_33 : ev_lu fl_X7 33 = some (5, 5, 1) := rfl
theorem fl_X7_43 : ev_lu fl_X7 43 = some (5, 1, 0) := rfl
theorem fl_X7_46 : ev_lu fl_X7 46 = some (5, 6, 0) := rfl
theorem fl_X7_49 : ev_lu fl_X7 49 = some (5, 7, 0) := rfl
theorem fl_X7_85 : ev_lu fl_X7 85 = some (2, 1, 0) := rfl
theorem fl_X7_88 : ev_lu fl_X7 88 = some (2, 2, 0) := rfl
theorem fl_X7_176 : ev_lu fl_X7 176 = some (2, 3, 0) := rfl
theorem fl_X7_182 : ev_lu fl_X7 182 = some (2, 4, 0) := rfl
theorem fl_X7_206 : ev_lu fl_X7 206 = some (2, 11, 1) := rfl
theorem fl_X7_216 : ev_lu fl_X7 216 = some (2, 9, 1) := rfl
theorem fl_X7_227 : ev_lu fl_X7 227 = some (2, 15, 1) := rfl
theorem fl_X7_246 : ev_lu fl_X7 246 = some (2, 13, 1) := rfl
theorem fl_X7_249 : ev_lu fl_X7 249 = some (2, 12, 1) := rfl
theorem fl_X7_258 : ev_lu fl_X7 258 = some (2, 14, 1) := rfl
theorem fl_X7_265 : ev_lu fl_X7 265 = some (2, 16, 1) := rfl
theorem fl_X7_274 : ev_lu fl_X7 274 = some (2, 17, 1) := rfl
theorem fl_X7_289 : ev_lu fl_X7 289 = some (2, 8, 1) := rfl
def ca_X7 : List (Nat × ev_Ca) := [(36, (0, mi_X4_clear, 0, 2)), (39, (0, mi_X9_split, 2, 7)), (52, (0, mi_X7_readHead, 0, 5)), (56, (0, mi_X9_kind, 1, 7)), (60, (0, mi_X7_readItem, 0, 5)), (64, (0, mi_X7_endPass, 0, 5)), (67, (0, mi_X7_fail, 2, 5)), (71, (0, mi_X7_keyword, 0, 5)), (81, (0, mi_X7_number, 2, 5)), (91, (0, mi_X7_isOneTooMany, 1, 5)), (104, (0, mi_X7_readPerson, 0, 5)), (107, (0, mi_X7_readTaster, 0, 5)), (110, (0, mi_X7_readPancake, 0, 5)), (113, (0, mi_X7_readBid, 0, 5)), (116, (0, mi_X7_readTogether, 0, 5)), (119, (0, mi_X7_readConflict, 0, 5)), (122, (0, mi_X7_readSeat, 0, 5)), (125, (0, mi_X4_fillSeats, 0, 2)), (128, (0, mi_X7_readLeave, 0, 5)), (131, (0, mi_X7_readScore, 0, 5)), (134, (0, mi_X7_readTalk, 0, 5)), (137, (0, mi_X7_readLimit, 0, 5)), (140, (0, mi_X7_readKitchen, 0, 5)), (143, (0, mi_X7_readSwap, 0, 5)), (146, (0, mi_X7_readClear, 0, 5)), (149, (0, mi_X7_readEven, 0, 5)), (152, (0, mi_X7_readCopy, 0, 5)), (155, (0, mi_X7_beginRepeat, 0, 5)), (166, (0, mi_X9_value, 1, 7)), (188, (0, mi_X7_checkName, 0, 5)), (191, (0, mi_X4_personNamed, 1, 2)), (195, (0, mi_X4_addPerson, 2, 2)), (199, (0, mi_X7_person, 0, 5)), (202, (0, mi_X4_isOneOfTasters, 1, 2)), (210, (0, mi_X8_set, 3, 6)), (219, (3, mi_X10_setCell, 3, 8)), (223, (0, mi_X4_addPancake, 1, 2)), (231, (0, mi_X5_contains, 2, 3)), (237, (0, mi_X5_add, 2, 3)), (240, (0, mi_X7_checkTaster, 1, 5)), (243, (0, mi_X7_pancake, 0, 5)), (252, (0, mi_X8_get, 2, 6)), (255, (0, mi_X4_joinCooks, 2, 2)), (261, (0, mi_X4_refusalReason, 3, 2)), (268, (0, mi_X7_checkSeat, 2, 5)), (271, (0, mi_X4_takeSeat, 2, 2)), (278, (0, mi_X6_put, 3, 4)), (283, (0, mi_X7_checkScores, 1, 5)), (286, (0, mi_X6_holdTalk, 1, 4)), (292, (0, mi_X4_swapTopics, 2, 2)), (295, (0, mi_X4_clearSeats, 1, 2)), (298, (0, mi_X6_makeEven, 1, 4)), (301, (0, mi_X4_copyBids, 2, 2)), (304, (3, mi_X10_cell, 2, 8)), (308, (3, mi_X10_letterCount, 1, 8)), (311, (0, mi_X6_canBeTalkedOver, 1, 4)), (314, (0, mi_X9_start, 1, 7))]
theorem ca_X7_36 : ev_lu ca_X7 36 = some (0, mi_X4_clear, 0, 2) := rfl
theorem ca_X7_39 : ev_lu ca_X7 39 = some (0, mi_X9_split, 2, 7) := rfl
theorem ca_X7_52 : ev_lu ca_X7 52 = some (0, mi_X7_readHead, 0, 5) := rfl
theorem ca_X7_56 : ev_lu ca_X7 56 = some (0, mi_X9_kind, 1, 7) := rfl
theorem ca_X7_60 : ev_lu ca_X7 60 = some (0, mi_X7_readItem, 0, 5) := rfl
theorem ca_X7_64 : ev_lu ca_X7 64 = some (0, mi_X7_endPass, 0, 5) := rfl
theorem ca_X7_67 : ev_lu ca_X7 67 = some (0, mi_X7_fail, 2, 5) := rfl
theorem ca_X7_71 : ev_lu ca_X7 71 = some (0, mi_X7_keyword, 0, 5) := rfl
theorem ca_X7_81 : ev_lu ca_X7 81 = some (0, mi_X7_number, 2, 5) := rfl
theorem ca_X7_91 : ev_lu ca_X7 91 = some (0, mi_X7_isOneTooMany, 1, 5) := rfl
theorem ca_X7_104 : ev_lu ca_X7 104 = some (0, mi_X7_readPerson, 0, 5) := rfl
theorem ca_X7_107 : ev_lu ca_X7 107 = some (0, mi_X7_readTaster, 0, 5) := rfl
theorem ca_X7_110 : ev_lu ca_X7 110 = some (0, mi_X7_readPancake, 0, 5) := rfl
theorem ca_X7_113 : ev_lu ca_X7 113 = some (0, mi_X7_readBid, 0, 5) := rfl
theorem ca_X7_116 : ev_lu ca_X7 116 = some (0, mi_X7_readTogether, 0, 5) := rfl
theorem ca_X7_119 : ev_lu ca_X7 119 = some (0, mi_X7_readConflict, 0, 5) := rfl
theorem ca_X7_122 : ev_lu ca_X7 122 = some (0, mi_X7_readSeat, 0, 5) := rfl
theorem ca_X7_125 : ev_lu ca_X7 125 = some (0, mi_X4_fillSeats, 0, 2) := rfl
theorem ca_X7_128 : ev_lu ca_X7 128 = some (0, mi_X7_readLeave, 0, 5) := rfl
theorem ca_X7_131 : ev_lu ca_X7 131 = some (0, mi_X7_readScore, 0, 5) := rfl
theorem ca_X7_134 : ev_lu ca_X7 134 = some (0, mi_X7_readTalk, 0, 5) := rfl
theorem ca_X7_137 : ev_lu ca_X7 137 = some (0, mi_X7_readLimit, 0, 5) := rfl
theorem ca_X7_140 : ev_lu ca_X7 140 = some (0, mi_X7_readKitchen, 0, 5) := rfl
theorem ca_X7_143 : ev_lu ca_X7 143 = some (0, mi_X7_readSwap, 0, 5) := rfl
theorem ca_X7_146 : ev_lu ca_X7 146 = some (0, mi_X7_readClear, 0, 5) := rfl
theorem ca_X7_149 : ev_lu ca_X7 149 = some (0, mi_X7_readEven, 0, 5) := rfl
theorem ca_X7_152 : ev_lu ca_X7 152 = some (0, mi_X7_readCopy, 0, 5) := rfl
theorem ca_X7_155 : ev_lu ca_X7 155 = some (0, mi_X7_beginRepeat, 0, 5) := rfl
theorem ca_X7_166 : ev_lu ca_X7 166 = some (0, mi_X9_value, 1, 7) := rfl
theorem ca_X7_188 : ev_lu ca_X7 188 = some (0, mi_X7_checkName, 0, 5) := rfl
theorem ca_X7_191 : ev_lu ca_X7 191 = some (0, mi_X4_personNamed, 1, 2) := rfl
theorem ca_X7_195 : ev_lu ca_X7 195 = some (0, mi_X4_addPerson, 2, 2) := rfl
theorem ca_X7_199 : ev_lu ca_X7 199 = some (0, mi_X7_person, 0, 5) := rfl
theorem ca_X7_202 : ev_lu ca_X7 202 = some (0, mi_X4_isOneOfTasters, 1, 2) := rfl
theorem ca_X7_210 : ev_lu ca_X7 210 = some (0, mi_X8_set, 3, 6) := rfl
theorem ca_X7_219 : ev_lu ca_X7 219 = some (3, mi_X10_setCell, 3, 8) := rfl
theorem ca_X7_223 : ev_lu ca_X7 223 = some (0, mi_X4_addPancake, 1, 2) := rfl
theorem ca_X7_231 : ev_lu ca_X7 231 = some (0, mi_X5_contains, 2, 3) := rfl
theorem ca_X7_237 : ev_lu ca_X7 237 = some (0, mi_X5_add, 2, 3) := rfl
theorem ca_X7_240 : ev_lu ca_X7 240 = some (0, mi_X7_checkTaster, 1, 5) := rfl
theorem ca_X7_243 : ev_lu ca_X7 243 = some (0, mi_X7_pancake, 0, 5) := rfl
theorem ca_X7_252 : ev_lu ca_X7 252 = some (0, mi_X8_get, 2, 6) := rfl
theorem ca_X7_255 : ev_lu ca_X7 255 = some (0, mi_X4_joinCooks, 2, 2) := rfl
theorem ca_X7_261 : ev_lu ca_X7 261 = some (0, mi_X4_refusalReason, 3, 2) := rfl
theorem ca_X7_268 : ev_lu ca_X7 268 = some (0, mi_X7_checkSeat, 2, 5) := rfl
theorem ca_X7_271 : ev_lu ca_X7 271 = some (0, mi_X4_takeSeat, 2, 2) := rfl
theorem ca_X7_278 : ev_lu ca_X7 278 = some (0, mi_X6_put, 3, 4) := rfl
theorem ca_X7_283 : ev_lu ca_X7 283 = some (0, mi_X7_checkScores, 1, 5) := rfl
theorem ca_X7_286 : ev_lu ca_X7 286 = some (0, mi_X6_holdTalk, 1, 4) := rfl
theorem ca_X7_292 : ev_lu ca_X7 292 = some (0, mi_X4_swapTopics, 2, 2) := rfl
theorem ca_X7_295 : ev_lu ca_X7 295 = some (0, mi_X4_clearSeats, 1, 2) := rfl
theorem ca_X7_298 : ev_lu ca_X7 298 = some (0, mi_X6_makeEven, 1, 4) := rfl
theorem ca_X7_301 : ev_lu ca_X7 301 = some (0, mi_X4_copyBids, 2, 2) := rfl
theorem ca_X7_304 : ev_lu ca_X7 304 = some (3, mi_X10_cell, 2, 8) := rfl
theorem ca_X7_308 : ev_lu ca_X7 308 = some (3, mi_X10_letterCount, 1, 8) := rfl
theorem ca_X7_311 : ev_lu ca_X7 311 = some (0, mi_X6_canBeTalkedOver, 1, 4) := rfl
theorem ca_X7_314 : ev_lu ca_X7 314 = some (0, mi_X9_start, 1, 7) := rfl
def th_X7 : List (Nat × String) := []
def ko_X7 : List (Nat × Int32) := [(55, 1000000)]
theorem ko_X7_55 : ev_lu ko_X7 55 = some 1000000 := rfl
def kl_X7 : List (Nat × Int64) := []
def fl_X8 : List (Nat × Nat × Nat × Nat) := [(13, 6, 0, 2), (19, 6, 1, 2), (22, 6, 2, 1)]
theorem fl_X8_13 : ev_lu fl_X8 13 = some (6, 0, 2) := rfl
theorem fl_X8_19 : ev_lu fl_X8 19 = some (6, 1, 2) := rfl
theorem fl_X8_22 : ev_lu fl_X8 22 = some (6, 2, 1) := rfl
def ca_X8 : List (Nat × ev_Ca) := [(7, (10, mi_J7_fill_53178, 2, 0)), (26, (1, mi_J7_fill_53178, 2, 0)), (32, (3, mi_X10_copyRow, 2, 8))]
theorem ca_X8_7 : ev_lu ca_X8 7 = some (10, mi_J7_fill_53178, 2, 0) := rfl
theorem ca_X8_26 : ev_lu ca_X8 26 = some (1, mi_J7_fill_53178, 2, 0) := rfl
theorem ca_X8_32 : ev_lu ca_X8 32 = some (3, mi_X10_copyRow, 2, 8) := rfl
def th_X8 : List (Nat × String) := []
def ko_X8 : List (Nat × Int32) := []
def kl_X8 : List (Nat × Int64) := []
def fl_X9 : List (Nat × Nat × Nat × Nat) := [(9, 7, 0, 1), (15, 7, 1, 1), (18, 7, 2, 1), (22, 7, 3, 0), (26, 7, 4, 0)]
theorem fl_X9_9 : ev_lu fl_X9 9 = some (7, 0, 1) := rfl
theorem fl_X9_15 : ev_lu fl_X9 15 = some (7, 1, 1) := rfl
theorem fl_X9_18 : ev_lu fl_X9 18 = some (7, 2, 1) := rfl
theorem fl_X9_22 : ev_lu fl_X9 22 = some (7, 3, 0) := rfl
theorem fl_X9_26 : ev_lu fl_X9 26 = some (7, 4, 0) := rfl
def ca_X9 : List (Nat × ev_Ca) := [(29, (0, mi_X1_get, 1, 0)), (35, (1, mi_X9_isLetter, 1, 7)), (39, (0, mi_X9_addWordAt, 2, 7)), (43, (1, mi_X9_isDigit, 1, 7)), (46, (0, mi_X9_addNumberAt, 2, 7)), (49, (1, mi_X9_kindOf, 1, 7)), (52, (0, mi_X9_add, 3, 7)), (56, (3, mi_X10_setCell, 3, 8))]
theorem ca_X9_29 : ev_lu ca_X9 29 = some (0, mi_X1_get, 1, 0) := rfl
theorem ca_X9_35 : ev_lu ca_X9 35 = some (1, mi_X9_isLetter, 1, 7) := rfl
theorem ca_X9_39 : ev_lu ca_X9 39 = some (0, mi_X9_addWordAt, 2, 7) := rfl
theorem ca_X9_43 : ev_lu ca_X9 43 = some (1, mi_X9_isDigit, 1, 7) := rfl
theorem ca_X9_46 : ev_lu ca_X9 46 = some (0, mi_X9_addNumberAt, 2, 7) := rfl
theorem ca_X9_49 : ev_lu ca_X9 49 = some (1, mi_X9_kindOf, 1, 7) := rfl
theorem ca_X9_52 : ev_lu ca_X9 52 = some (0, mi_X9_add, 3, 7) := rfl
theorem ca_X9_56 : ev_lu ca_X9 56 = some (3, mi_X10_setCell, 3, 8) := rfl
def th_X9 : List (Nat × String) := []
def ko_X9 : List (Nat × Int32) := []
def kl_X9 : List (Nat × Int64) := [(60, 10), (62, 48)]
theorem kl_X9_60 : ev_lu kl_X9 60 = some 10 := rfl
theorem kl_X9_62 : ev_lu kl_X9 62 = some 48 := rfl
def fl_X10 : List (Nat × Nat × Nat × Nat) := [(14, 8, 0, 1), (18, 8, 1, 1), (24, 8, 2, 1), (31, 8, 3, 1), (35, 8, 4, 1), (41, 8, 5, 1), (45, 8, 6, 1), (49, 0, 1, 0), (75, 5, 0, 1), (80, 2, 0, 3), (87, 2, 4, 0), (90, 5, 1, 0), (93, 5, 2, 0), (102, 2, 10, 1), (110, 2, 15, 1), (125, 2, 3, 0), (143, 2, 8, 1), (150, 2, 9, 1), (155, 2, 11, 1), (168, 2, 13, 1), (183, 2, 16, 1), (205, 2, 17, 1), (252, 2, 2, 0), (255, 2, 5, 0), (258, 2, 6, 0), (261, 4, 3, 0), (264, 4, 4, 0), (267, 4, 1, 0), (270, 4, 2, 0), (336, 2, 14, 1), (339, 1, 2, 0)]
theorem fl_X10_14 : ev_lu fl_X10 14 = some (8, 0, 1) := rfl
theorem fl_X10_18 : ev_lu fl_X10 18 = some (8, 1, 1) := rfl
theorem fl_X10_24 : ev_lu fl_X10 24 = some (8, 2, 1) := rfl
theorem fl_X10_31 : ev_lu fl_X10 31 = some (8, 3, 1) := rfl
theorem fl_X10_35 : ev_lu fl_X10 35 = some (8, 4, 1) := rfl
theorem fl_X10_41 : ev_lu fl_X10 41 = some (8, 5, 1) := rfl
theorem fl_X10_45 : ev_lu fl_X10 45 = some (8, 6, 1) := rfl
theorem fl_X10_49 : ev_lu fl_X10 49 = some (0, 1, 0) := rfl
theorem fl_X10_75 : ev_lu fl_X10 75 = some (5, 0, 1) := rfl
theorem fl_X10_80 : ev_lu fl_X10 80 = some (2, 0, 3) := rfl
theorem fl_X10_87 : ev_lu fl_X10 87 = some (2, 4, 0) := rfl
theorem fl_X10_90 : ev_lu fl_X10 90 = some (5, 1, 0) := rfl
theorem fl_X10_93 : ev_lu fl_X10 93 = some (5, 2, 0) := rfl
theorem fl_X10_102 : ev_lu fl_X10 102 = some (2, 10, 1) := rfl
theorem fl_X10_110 : ev_lu fl_X10 110 = some (2, 15, 1) := rfl
theorem fl_X10_125 : ev_lu fl_X10 125 = some (2, 3, 0) := rfl
theorem fl_X10_143 : ev_lu fl_X10 143 = some (2, 8, 1) := rfl
theorem fl_X10_150 : ev_lu fl_X10 150 = some (2, 9, 1) := rfl
theorem fl_X10_155 : ev_lu fl_X10 155 = some (2, 11, 1) := rfl
theorem fl_X10_168 : ev_lu fl_X10 168 = some (2, 13, 1) := rfl
theorem fl_X10_183 : ev_lu fl_X10 183 = some (2, 16, 1) := rfl
theorem fl_X10_205 : ev_lu fl_X10 205 = some (2, 17, 1) := rfl
theorem fl_X10_252 : ev_lu fl_X10 252 = some (2, 2, 0) := rfl
theorem fl_X10_255 : ev_lu fl_X10 255 = some (2, 5, 0) := rfl
theorem fl_X10_258 : ev_lu fl_X10 258 = some (2, 6, 0) := rfl
theorem fl_X10_261 : ev_lu fl_X10 261 = some (4, 3, 0) := rfl
theorem fl_X10_264 : ev_lu fl_X10 264 = some (4, 4, 0) := rfl
theorem fl_X10_267 : ev_lu fl_X10 267 = some (4, 1, 0) := rfl
theorem fl_X10_270 : ev_lu fl_X10 270 = some (4, 2, 0) := rfl
theorem fl_X10_336 : ev_lu fl_X10 336 = some (2, 14, 1) := rfl
theorem fl_X10_339 : ev_lu fl_X10 339 = some (1, 2, 0) := rfl
def ca_X10 : List (Nat × ev_Ca) := [(53, (0, mi_X1_addFourBytes, 1, 0)), (63, (0, mi_X7_parse, 2, 5)), (67, (0, mi_X1_empty, 0, 0)), (76, (0, mi_X4_copyFrom, 1, 2)), (84, (0, mi_X2_forget, 0, 1)), (96, (0, mi_X10_requirePanel, 0, 8)), (99, (0, mi_X10_requirePancake, 1, 8)), (106, (1, mi_X10_cell, 2, 8)), (114, (0, mi_X5_size, 1, 3)), (121, (0, mi_X5_member, 2, 3)), (128, (0, mi_X10_requirePerson, 1, 8)), (131, (0, mi_X4_name, 1, 2)), (135, (1, mi_X10_letterCount, 1, 8)), (139, (1, mi_X10_letterOf, 3, 8)), (146, (0, mi_X4_isOneOfTasters, 1, 2)), (159, (0, mi_X8_get, 2, 6)), (164, (0, mi_X10_requirePair, 2, 8)), (171, (0, mi_X4_liking, 2, 2)), (174, (0, mi_X4_conflictReason, 2, 2)), (177, (0, mi_X4_tastersInConflict, 1, 2)), (180, (0, mi_X4_mostLiked, 1, 2)), (188, (0, mi_X4_load, 1, 2)), (191, (0, mi_X4_refusalReason, 3, 2)), (195, (0, mi_X4_bestFor, 1, 2)), (198, (0, mi_X4_freeSeats, 0, 2)), (202, (0, mi_X4_fillSeats, 0, 2)), (209, (0, mi_X6_given, 2, 4)), (214, (0, mi_X6_countFor, 1, 4)), (217, (0, mi_X6_mean, 1, 4)), (220, (0, mi_X6_personWithLeastMean, 0, 4)), (223, (0, mi_X6_distanceFromTotals, 1, 4)), (226, (0, mi_X6_adjusted, 2, 4)), (229, (0, mi_X6_total, 1, 4)), (232, (0, mi_X6_spread, 1, 4)), (235, (0, mi_X4_isDisputed, 1, 2)), (238, (0, mi_X6_canBeTalkedOver, 1, 4)), (241, (0, mi_X6_holdTalk, 1, 4)), (244, (0, mi_X6_rank, 1, 4)), (249, (0, mi_X6_pancakeWithRank, 1, 4)), (273, (0, mi_X4_takenSeats, 0, 2)), (276, (0, mi_X4_seatsInConflict, 0, 2)), (279, (0, mi_X4_overloadedTasters, 0, 2)), (282, (0, mi_X4_scoresWithoutSeat, 0, 2)), (285, (0, mi_X4_loadSum, 0, 2)), (288, (12, mi_J7_fill_53178, 1, 0)), (293, (0, mi_X1_add, 1, 0)), (296, (0, mi_X10_writeTaster, 2, 8)), (299, (0, mi_X1_addNumber, 1, 0)), (302, (0, mi_X5_contains, 2, 3)), (308, (0, mi_X1_get, 1, 0)), (312, (0, mi_X2_remember, 1, 1)), (315, (0, mi_X8_set, 3, 6)), (321, (0, mi_X5_add, 2, 3)), (323, (0, mi_X10_requireSeat, 2, 8)), (326, (0, mi_X4_takeSeat, 2, 2)), (331, (0, mi_X6_put, 3, 4)), (345, (0, mi_X2_bringBack, 1, 1)), (360, (0, mi_X1_addWord, 1, 0)), (364, (11, mi_J7_fill_53178, 2, 0)), (367, (13, mi_J7_fill_53178, 5, 0))]
theorem ca_X10_53 : ev_lu ca_X10 53 = some (0, mi_X1_addFourBytes, 1, 0) := rfl
theorem ca_X10_63 : ev_lu ca_X10 63 = some (0, mi_X7_parse, 2, 5) := rfl
theorem ca_X10_67 : ev_lu ca_X10 67 = some (0, mi_X1_empty, 0, 0) := rfl
theorem ca_X10_76 : ev_lu ca_X10 76 = some (0, mi_X4_copyFrom, 1, 2) := rfl
theorem ca_X10_84 : ev_lu ca_X10 84 = some (0, mi_X2_forget, 0, 1) := rfl
theorem ca_X10_96 : ev_lu ca_X10 96 = some (0, mi_X10_requirePanel, 0, 8) := rfl
theorem ca_X10_99 : ev_lu ca_X10 99 = some (0, mi_X10_requirePancake, 1, 8) := rfl
theorem ca_X10_106 : ev_lu ca_X10 106 = some (1, mi_X10_cell, 2, 8) := rfl
theorem ca_X10_114 : ev_lu ca_X10 114 = some (0, mi_X5_size, 1, 3) := rfl
theorem ca_X10_121 : ev_lu ca_X10 121 = some (0, mi_X5_member, 2, 3) := rfl
theorem ca_X10_128 : ev_lu ca_X10 128 = some (0, mi_X10_requirePerson, 1, 8) := rfl
theorem ca_X10_131 : ev_lu ca_X10 131 = some (0, mi_X4_name, 1, 2) := rfl
theorem ca_X10_135 : ev_lu ca_X10 135 = some (1, mi_X10_letterCount, 1, 8) := rfl
theorem ca_X10_139 : ev_lu ca_X10 139 = some (1, mi_X10_letterOf, 3, 8) := rfl
theorem ca_X10_146 : ev_lu ca_X10 146 = some (0, mi_X4_isOneOfTasters, 1, 2) := rfl
theorem ca_X10_159 : ev_lu ca_X10 159 = some (0, mi_X8_get, 2, 6) := rfl
theorem ca_X10_164 : ev_lu ca_X10 164 = some (0, mi_X10_requirePair, 2, 8) := rfl
theorem ca_X10_171 : ev_lu ca_X10 171 = some (0, mi_X4_liking, 2, 2) := rfl
theorem ca_X10_174 : ev_lu ca_X10 174 = some (0, mi_X4_conflictReason, 2, 2) := rfl
theorem ca_X10_177 : ev_lu ca_X10 177 = some (0, mi_X4_tastersInConflict, 1, 2) := rfl
theorem ca_X10_180 : ev_lu ca_X10 180 = some (0, mi_X4_mostLiked, 1, 2) := rfl
theorem ca_X10_188 : ev_lu ca_X10 188 = some (0, mi_X4_load, 1, 2) := rfl
theorem ca_X10_191 : ev_lu ca_X10 191 = some (0, mi_X4_refusalReason, 3, 2) := rfl
theorem ca_X10_195 : ev_lu ca_X10 195 = some (0, mi_X4_bestFor, 1, 2) := rfl
theorem ca_X10_198 : ev_lu ca_X10 198 = some (0, mi_X4_freeSeats, 0, 2) := rfl
theorem ca_X10_202 : ev_lu ca_X10 202 = some (0, mi_X4_fillSeats, 0, 2) := rfl
theorem ca_X10_209 : ev_lu ca_X10 209 = some (0, mi_X6_given, 2, 4) := rfl
theorem ca_X10_214 : ev_lu ca_X10 214 = some (0, mi_X6_countFor, 1, 4) := rfl
theorem ca_X10_217 : ev_lu ca_X10 217 = some (0, mi_X6_mean, 1, 4) := rfl
theorem ca_X10_220 : ev_lu ca_X10 220 = some (0, mi_X6_personWithLeastMean, 0, 4) := rfl
theorem ca_X10_223 : ev_lu ca_X10 223 = some (0, mi_X6_distanceFromTotals, 1, 4) := rfl
theorem ca_X10_226 : ev_lu ca_X10 226 = some (0, mi_X6_adjusted, 2, 4) := rfl
theorem ca_X10_229 : ev_lu ca_X10 229 = some (0, mi_X6_total, 1, 4) := rfl
theorem ca_X10_232 : ev_lu ca_X10 232 = some (0, mi_X6_spread, 1, 4) := rfl
theorem ca_X10_235 : ev_lu ca_X10 235 = some (0, mi_X4_isDisputed, 1, 2) := rfl
theorem ca_X10_238 : ev_lu ca_X10 238 = some (0, mi_X6_canBeTalkedOver, 1, 4) := rfl
theorem ca_X10_241 : ev_lu ca_X10 241 = some (0, mi_X6_holdTalk, 1, 4) := rfl
theorem ca_X10_244 : ev_lu ca_X10 244 = some (0, mi_X6_rank, 1, 4) := rfl
theorem ca_X10_249 : ev_lu ca_X10 249 = some (0, mi_X6_pancakeWithRank, 1, 4) := rfl
theorem ca_X10_273 : ev_lu ca_X10 273 = some (0, mi_X4_takenSeats, 0, 2) := rfl
theorem ca_X10_276 : ev_lu ca_X10 276 = some (0, mi_X4_seatsInConflict, 0, 2) := rfl
theorem ca_X10_279 : ev_lu ca_X10 279 = some (0, mi_X4_overloadedTasters, 0, 2) := rfl
theorem ca_X10_282 : ev_lu ca_X10 282 = some (0, mi_X4_scoresWithoutSeat, 0, 2) := rfl
theorem ca_X10_285 : ev_lu ca_X10 285 = some (0, mi_X4_loadSum, 0, 2) := rfl
theorem ca_X10_288 : ev_lu ca_X10 288 = some (12, mi_J7_fill_53178, 1, 0) := rfl
theorem ca_X10_293 : ev_lu ca_X10 293 = some (0, mi_X1_add, 1, 0) := rfl
theorem ca_X10_296 : ev_lu ca_X10 296 = some (0, mi_X10_writeTaster, 2, 8) := rfl
theorem ca_X10_299 : ev_lu ca_X10 299 = some (0, mi_X1_addNumber, 1, 0) := rfl
theorem ca_X10_302 : ev_lu ca_X10 302 = some (0, mi_X5_contains, 2, 3) := rfl
theorem ca_X10_308 : ev_lu ca_X10 308 = some (0, mi_X1_get, 1, 0) := rfl
theorem ca_X10_312 : ev_lu ca_X10 312 = some (0, mi_X2_remember, 1, 1) := rfl
theorem ca_X10_315 : ev_lu ca_X10 315 = some (0, mi_X8_set, 3, 6) := rfl
theorem ca_X10_321 : ev_lu ca_X10 321 = some (0, mi_X5_add, 2, 3) := rfl
theorem ca_X10_323 : ev_lu ca_X10 323 = some (0, mi_X10_requireSeat, 2, 8) := rfl
theorem ca_X10_326 : ev_lu ca_X10 326 = some (0, mi_X4_takeSeat, 2, 2) := rfl
theorem ca_X10_331 : ev_lu ca_X10 331 = some (0, mi_X6_put, 3, 4) := rfl
theorem ca_X10_345 : ev_lu ca_X10 345 = some (0, mi_X2_bringBack, 1, 1) := rfl
theorem ca_X10_360 : ev_lu ca_X10 360 = some (0, mi_X1_addWord, 1, 0) := rfl
theorem ca_X10_364 : ev_lu ca_X10 364 = some (11, mi_J7_fill_53178, 2, 0) := rfl
theorem ca_X10_367 : ev_lu ca_X10 367 = some (13, mi_J7_fill_53178, 5, 0) := rfl
def th_X10 : List (Nat × String) := [(56, "java/lang/IndexOutOfBoundsException"), (70, "java/lang/IllegalArgumentException"), (340, "java/lang/IllegalStateException")]
theorem th_X10_56 : ev_lu th_X10 56 = some "java/lang/IndexOutOfBoundsException" := rfl
theorem th_X10_70 : ev_lu th_X10 70 = some "java/lang/IllegalArgumentException" := rfl
theorem th_X10_340 : ev_lu th_X10 340 = some "java/lang/IllegalStateException" := rfl
def ko_X10 : List (Nat × Int32) := []
def kl_X10 : List (Nat × Int64) := []
def fl_X11 : List (Nat × Nat × Nat × Nat) := [(9, 9, 1, 1), (13, 9, 2, 1), (16, 9, 3, 1), (19, 9, 4, 1), (22, 9, 5, 1), (26, 9, 8, 1), (30, 9, 11, 0), (34, 9, 18, 1), (37, 9, 19, 1), (40, 9, 0, 0), (47, 9, 6, 3), (55, 9, 9, 0), (62, 9, 10, 0), (69, 9, 12, 0), (76, 9, 13, 0), (79, 9, 14, 0), (82, 9, 15, 0), (92, 9, 16, 0), (208, 9, 17, 0), (322, 9, 7, 0), (445, 9, 20, 0)]
theorem fl_X11_9 : ev_lu fl_X11 9 = some (9, 1, 1) := rfl
theorem fl_X11_13 : ev_lu fl_X11 13 = some (9, 2, 1) := rfl
theorem fl_X11_16 : ev_lu fl_X11 16 = some (9, 3, 1) := rfl
theorem fl_X11_19 : ev_lu fl_X11 19 = some (9, 4, 1) := rfl
theorem fl_X11_22 : ev_lu fl_X11 22 = some (9, 5, 1) := rfl
theorem fl_X11_26 : ev_lu fl_X11 26 = some (9, 8, 1) := rfl
theorem fl_X11_30 : ev_lu fl_X11 30 = some (9, 11, 0) := rfl
theorem fl_X11_34 : ev_lu fl_X11 34 = some (9, 18, 1) := rfl
theorem fl_X11_37 : ev_lu fl_X11 37 = some (9, 19, 1) := rfl
theorem fl_X11_40 : ev_lu fl_X11 40 = some (9, 0, 0) := rfl
theorem fl_X11_47 : ev_lu fl_X11 47 = some (9, 6, 3) := rfl
theorem fl_X11_55 : ev_lu fl_X11 55 = some (9, 9, 0) := rfl
theorem fl_X11_62 : ev_lu fl_X11 62 = some (9, 10, 0) := rfl
theorem fl_X11_69 : ev_lu fl_X11 69 = some (9, 12, 0) := rfl
theorem fl_X11_76 : ev_lu fl_X11 76 = some (9, 13, 0) := rfl
theorem fl_X11_79 : ev_lu fl_X11 79 = some (9, 14, 0) := rfl
theorem fl_X11_82 : ev_lu fl_X11 82 = some (9, 15, 0) := rfl
theorem fl_X11_92 : ev_lu fl_X11 92 = some (9, 16, 0) := rfl
theorem fl_X11_208 : ev_lu fl_X11 208 = some (9, 17, 0) := rfl
theorem fl_X11_322 : ev_lu fl_X11 322 = some (9, 7, 0) := rfl
theorem fl_X11_445 : ev_lu fl_X11 445 = some (9, 20, 0) := rfl
def ev_lv : Nat → Nat
  | 0 => 0
  | r + 1 => r
def ca_X11 (r : Nat) : List (Nat × ev_Ca) := [(43, (0, mi_X11_may, 3, 9)), (51, (1, mi_X11_lays, 4, 9)), (58, (0, mi_X11_four, 1, 9)), (65, (0, mi_X11_told, 1, 9)), (72, (1, mi_X11_in, 3, 9)), (85, (0, mi_X11_isSmall, 1, 9)), (89, (0, mi_X11_isDigit, 1, 9)), (95, (1, mi_X11_signOf, 1, 9)), (98, (0, mi_X11_faults, 1, 9)), (101, (0, mi_X11_is, 1, 9)), (114, (0, mi_X11_numberHere, 2, 9)), (118, (0, mi_X11_goes, 0, 9)), (121, (0, mi_X11_of, 2, 9)), (124, (0, mi_X11_isNamed, 1, 9)), (127, (0, mi_X11_wantsName, 0, 9)), (130, (0, mi_X11_personNamed, 0, 9)), (133, (0, mi_X11_refuses, 1, 9)), (137, (0, mi_X11_personHere, 0, 9)), (140, (0, mi_X11_isTasting, 1, 9)), (143, (0, mi_X11_pancakeHere, 0, 9)), (146, (0, mi_X11_limits, 1, 9)), (149, (0, mi_X11_puts, 3, 9)), (153, (0, mi_X11_readNumber, 2, 9)), (156, (0, mi_X11_cooks, 3, 9)), (159, (0, mi_X11_putsCake, 3, 9)), (162, (0, mi_X11_readTaster, 0, 9)), (165, (0, mi_X11_readPancake, 0, 9)), (168, (0, mi_X11_readPerson, 0, 9)), (171, (0, mi_X11_why, 2, 9)), (174, (0, mi_X11_seats, 2, 9)), (177, (0, mi_X11_fills, 0, 9)), (180, (0, mi_X11_seatOf, 2, 9)), (183, (0, mi_X11_tastedHere, 1, 9)), (186, (0, mi_X11_leaves, 2, 9)), (189, (0, mi_X11_scores, 1, 9)), (192, (0, mi_X11_talks, 1, 9)), (195, (0, mi_X11_ofCake, 2, 9)), (198, (0, mi_X11_middle, 1, 9)), (201, (0, mi_X11_isScored, 2, 9)), (205, (0, mi_X11_readsItem r, 0, 9)), (211, (0, mi_X11_readsItems (ev_lv r), 0, 9)), (216, (0, mi_X11_isWord, 1, 9)), (220, (0, mi_X11_readsPerson, 0, 9)), (225, (0, mi_X11_readsTaster, 0, 9)), (230, (0, mi_X11_readsPancake, 0, 9)), (235, (0, mi_X11_readsBid, 0, 9)), (240, (0, mi_X11_readsTogether, 0, 9)), (245, (0, mi_X11_readsConflict, 0, 9)), (250, (0, mi_X11_readsSeat, 0, 9)), (253, (0, mi_X11_readsMore r, 0, 9)), (258, (0, mi_X11_readsFill, 0, 9)), (263, (0, mi_X11_readsLeave, 0, 9)), (268, (0, mi_X11_readsScore, 0, 9)), (273, (0, mi_X11_readsTalk, 0, 9)), (278, (0, mi_X11_readsLimit, 0, 9)), (283, (0, mi_X11_readsKitchen, 0, 9)), (288, (0, mi_X11_readsSwap, 0, 9)), (293, (0, mi_X11_readsClear, 0, 9)), (298, (0, mi_X11_readsEven, 0, 9)), (303, (0, mi_X11_readsCopy, 0, 9)), (308, (0, mi_X11_readsRepeat r, 0, 9)), (313, (0, mi_X11_thinks, 0, 9)), (316, (0, mi_X11_readsText, 0, 9)), (319, (0, mi_X11_back, 1, 9)), (325, (1, mi_X11_one, 1, 9)), (329, (0, mi_X11_conflictOf, 2, 9)), (332, (0, mi_X11_load, 1, 9)), (335, (0, mi_X11_wish, 2, 9)), (338, (0, mi_X11_isBetter, 3, 9)), (341, (0, mi_X11_neediest, 0, 9)), (344, (0, mi_X11_best, 1, 9)), (347, (0, mi_X11_moves, 1, 9)), (350, (0, mi_X11_movesFor, 2, 9)), (353, (0, mi_X11_other, 2, 9)), (356, (0, mi_X11_scoresBy, 1, 9)), (359, (0, mi_X11_sumBy, 1, 9)), (362, (0, mi_X11_mean, 1, 9)), (365, (0, mi_X11_allSum, 0, 9)), (368, (0, mi_X11_allScores, 0, 9)), (371, (0, mi_X11_adjusted, 2, 9)), (374, (11, mi_J7_fill_53178, 2, 0)), (379, (10, mi_J7_fill_53178, 2, 0)), (382, (0, mi_X11_spread, 1, 9)), (385, (12, mi_J7_fill_53178, 1, 0)), (388, (0, mi_X11_total, 1, 9)), (391, (0, mi_X11_isAhead, 2, 9)), (394, (0, mi_X11_isPancake, 1, 9)), (397, (0, mi_X11_mayTwo, 2, 9)), (401, (0, mi_X11_isPerson, 1, 9)), (404, (0, mi_X11_areBoth, 2, 9)), (407, (0, mi_X11_mayLook, 0, 9)), (411, (0, mi_X11_mayPancake, 1, 9)), (414, (0, mi_X11_mayPerson, 1, 9)), (417, (0, mi_X11_look, 1, 9)), (420, (0, mi_X11_lookCake, 2, 9)), (423, (0, mi_X11_lookAt, 4, 9)), (427, (0, mi_X11_lookPerson, 2, 9)), (430, (0, mi_X11_mayBoth, 2, 9)), (433, (0, mi_X11_lacks, 0, 9)), (436, (0, mi_X11_mustTalk, 1, 9)), (439, (0, mi_X11_rank, 1, 9)), (442, (0, mi_X11_troubles, 2, 9)), (448, (0, mi_X11_writesByte, 1, 9)), (451, (0, mi_X11_writesNumber, 1, 9)), (454, (0, mi_X11_remembers, 0, 9)), (457, (1, mi_X11_isSlot, 1, 9))]
theorem ca_X11_43 (r : Nat) : ev_lu (ca_X11 r) 43 = some (0, mi_X11_may, 3, 9) := rfl
theorem ca_X11_51 (r : Nat) : ev_lu (ca_X11 r) 51 = some (1, mi_X11_lays, 4, 9) := rfl
theorem ca_X11_58 (r : Nat) : ev_lu (ca_X11 r) 58 = some (0, mi_X11_four, 1, 9) := rfl
theorem ca_X11_65 (r : Nat) : ev_lu (ca_X11 r) 65 = some (0, mi_X11_told, 1, 9) := rfl
theorem ca_X11_72 (r : Nat) : ev_lu (ca_X11 r) 72 = some (1, mi_X11_in, 3, 9) := rfl
theorem ca_X11_85 (r : Nat) : ev_lu (ca_X11 r) 85 = some (0, mi_X11_isSmall, 1, 9) := rfl
theorem ca_X11_89 (r : Nat) : ev_lu (ca_X11 r) 89 = some (0, mi_X11_isDigit, 1, 9) := rfl
theorem ca_X11_95 (r : Nat) : ev_lu (ca_X11 r) 95 = some (1, mi_X11_signOf, 1, 9) := rfl
theorem ca_X11_98 (r : Nat) : ev_lu (ca_X11 r) 98 = some (0, mi_X11_faults, 1, 9) := rfl
theorem ca_X11_101 (r : Nat) : ev_lu (ca_X11 r) 101 = some (0, mi_X11_is, 1, 9) := rfl
theorem ca_X11_114 (r : Nat) : ev_lu (ca_X11 r) 114 = some (0, mi_X11_numberHere, 2, 9) := rfl
theorem ca_X11_118 (r : Nat) : ev_lu (ca_X11 r) 118 = some (0, mi_X11_goes, 0, 9) := rfl
theorem ca_X11_121 (r : Nat) : ev_lu (ca_X11 r) 121 = some (0, mi_X11_of, 2, 9) := rfl
theorem ca_X11_124 (r : Nat) : ev_lu (ca_X11 r) 124 = some (0, mi_X11_isNamed, 1, 9) := rfl
theorem ca_X11_127 (r : Nat) : ev_lu (ca_X11 r) 127 = some (0, mi_X11_wantsName, 0, 9) := rfl
theorem ca_X11_130 (r : Nat) : ev_lu (ca_X11 r) 130 = some (0, mi_X11_personNamed, 0, 9) := rfl
theorem ca_X11_133 (r : Nat) : ev_lu (ca_X11 r) 133 = some (0, mi_X11_refuses, 1, 9) := rfl
theorem ca_X11_137 (r : Nat) : ev_lu (ca_X11 r) 137 = some (0, mi_X11_personHere, 0, 9) := rfl
theorem ca_X11_140 (r : Nat) : ev_lu (ca_X11 r) 140 = some (0, mi_X11_isTasting, 1, 9) := rfl
theorem ca_X11_143 (r : Nat) : ev_lu (ca_X11 r) 143 = some (0, mi_X11_pancakeHere, 0, 9) := rfl
theorem ca_X11_146 (r : Nat) : ev_lu (ca_X11 r) 146 = some (0, mi_X11_limits, 1, 9) := rfl
theorem ca_X11_149 (r : Nat) : ev_lu (ca_X11 r) 149 = some (0, mi_X11_puts, 3, 9) := rfl
theorem ca_X11_153 (r : Nat) : ev_lu (ca_X11 r) 153 = some (0, mi_X11_readNumber, 2, 9) := rfl
theorem ca_X11_156 (r : Nat) : ev_lu (ca_X11 r) 156 = some (0, mi_X11_cooks, 3, 9) := rfl
theorem ca_X11_159 (r : Nat) : ev_lu (ca_X11 r) 159 = some (0, mi_X11_putsCake, 3, 9) := rfl
theorem ca_X11_162 (r : Nat) : ev_lu (ca_X11 r) 162 = some (0, mi_X11_readTaster, 0, 9) := rfl
theorem ca_X11_165 (r : Nat) : ev_lu (ca_X11 r) 165 = some (0, mi_X11_readPancake, 0, 9) := rfl
theorem ca_X11_168 (r : Nat) : ev_lu (ca_X11 r) 168 = some (0, mi_X11_readPerson, 0, 9) := rfl
theorem ca_X11_171 (r : Nat) : ev_lu (ca_X11 r) 171 = some (0, mi_X11_why, 2, 9) := rfl
theorem ca_X11_174 (r : Nat) : ev_lu (ca_X11 r) 174 = some (0, mi_X11_seats, 2, 9) := rfl
theorem ca_X11_177 (r : Nat) : ev_lu (ca_X11 r) 177 = some (0, mi_X11_fills, 0, 9) := rfl
theorem ca_X11_180 (r : Nat) : ev_lu (ca_X11 r) 180 = some (0, mi_X11_seatOf, 2, 9) := rfl
theorem ca_X11_183 (r : Nat) : ev_lu (ca_X11 r) 183 = some (0, mi_X11_tastedHere, 1, 9) := rfl
theorem ca_X11_186 (r : Nat) : ev_lu (ca_X11 r) 186 = some (0, mi_X11_leaves, 2, 9) := rfl
theorem ca_X11_189 (r : Nat) : ev_lu (ca_X11 r) 189 = some (0, mi_X11_scores, 1, 9) := rfl
theorem ca_X11_192 (r : Nat) : ev_lu (ca_X11 r) 192 = some (0, mi_X11_talks, 1, 9) := rfl
theorem ca_X11_195 (r : Nat) : ev_lu (ca_X11 r) 195 = some (0, mi_X11_ofCake, 2, 9) := rfl
theorem ca_X11_198 (r : Nat) : ev_lu (ca_X11 r) 198 = some (0, mi_X11_middle, 1, 9) := rfl
theorem ca_X11_201 (r : Nat) : ev_lu (ca_X11 r) 201 = some (0, mi_X11_isScored, 2, 9) := rfl
theorem ca_X11_205 (r : Nat) : ev_lu (ca_X11 r) 205 = some (0, mi_X11_readsItem r, 0, 9) := rfl
theorem ca_X11_211 (r : Nat) : ev_lu (ca_X11 r) 211 = some (0, mi_X11_readsItems (ev_lv r), 0, 9) := rfl
theorem ca_X11_216 (r : Nat) : ev_lu (ca_X11 r) 216 = some (0, mi_X11_isWord, 1, 9) := rfl
theorem ca_X11_220 (r : Nat) : ev_lu (ca_X11 r) 220 = some (0, mi_X11_readsPerson, 0, 9) := rfl
theorem ca_X11_225 (r : Nat) : ev_lu (ca_X11 r) 225 = some (0, mi_X11_readsTaster, 0, 9) := rfl
theorem ca_X11_230 (r : Nat) : ev_lu (ca_X11 r) 230 = some (0, mi_X11_readsPancake, 0, 9) := rfl
theorem ca_X11_235 (r : Nat) : ev_lu (ca_X11 r) 235 = some (0, mi_X11_readsBid, 0, 9) := rfl
theorem ca_X11_240 (r : Nat) : ev_lu (ca_X11 r) 240 = some (0, mi_X11_readsTogether, 0, 9) := rfl
theorem ca_X11_245 (r : Nat) : ev_lu (ca_X11 r) 245 = some (0, mi_X11_readsConflict, 0, 9) := rfl
theorem ca_X11_250 (r : Nat) : ev_lu (ca_X11 r) 250 = some (0, mi_X11_readsSeat, 0, 9) := rfl
theorem ca_X11_253 (r : Nat) : ev_lu (ca_X11 r) 253 = some (0, mi_X11_readsMore r, 0, 9) := rfl
theorem ca_X11_258 (r : Nat) : ev_lu (ca_X11 r) 258 = some (0, mi_X11_readsFill, 0, 9) := rfl
theorem ca_X11_263 (r : Nat) : ev_lu (ca_X11 r) 263 = some (0, mi_X11_readsLeave, 0, 9) := rfl
theorem ca_X11_268 (r : Nat) : ev_lu (ca_X11 r) 268 = some (0, mi_X11_readsScore, 0, 9) := rfl
theorem ca_X11_273 (r : Nat) : ev_lu (ca_X11 r) 273 = some (0, mi_X11_readsTalk, 0, 9) := rfl
theorem ca_X11_278 (r : Nat) : ev_lu (ca_X11 r) 278 = some (0, mi_X11_readsLimit, 0, 9) := rfl
theorem ca_X11_283 (r : Nat) : ev_lu (ca_X11 r) 283 = some (0, mi_X11_readsKitchen, 0, 9) := rfl
theorem ca_X11_288 (r : Nat) : ev_lu (ca_X11 r) 288 = some (0, mi_X11_readsSwap, 0, 9) := rfl
theorem ca_X11_293 (r : Nat) : ev_lu (ca_X11 r) 293 = some (0, mi_X11_readsClear, 0, 9) := rfl
theorem ca_X11_298 (r : Nat) : ev_lu (ca_X11 r) 298 = some (0, mi_X11_readsEven, 0, 9) := rfl
theorem ca_X11_303 (r : Nat) : ev_lu (ca_X11 r) 303 = some (0, mi_X11_readsCopy, 0, 9) := rfl
theorem ca_X11_308 (r : Nat) : ev_lu (ca_X11 r) 308 = some (0, mi_X11_readsRepeat r, 0, 9) := rfl
theorem ca_X11_313 (r : Nat) : ev_lu (ca_X11 r) 313 = some (0, mi_X11_thinks, 0, 9) := rfl
theorem ca_X11_316 (r : Nat) : ev_lu (ca_X11 r) 316 = some (0, mi_X11_readsText, 0, 9) := rfl
theorem ca_X11_319 (r : Nat) : ev_lu (ca_X11 r) 319 = some (0, mi_X11_back, 1, 9) := rfl
theorem ca_X11_325 (r : Nat) : ev_lu (ca_X11 r) 325 = some (1, mi_X11_one, 1, 9) := rfl
theorem ca_X11_329 (r : Nat) : ev_lu (ca_X11 r) 329 = some (0, mi_X11_conflictOf, 2, 9) := rfl
theorem ca_X11_332 (r : Nat) : ev_lu (ca_X11 r) 332 = some (0, mi_X11_load, 1, 9) := rfl
theorem ca_X11_335 (r : Nat) : ev_lu (ca_X11 r) 335 = some (0, mi_X11_wish, 2, 9) := rfl
theorem ca_X11_338 (r : Nat) : ev_lu (ca_X11 r) 338 = some (0, mi_X11_isBetter, 3, 9) := rfl
theorem ca_X11_341 (r : Nat) : ev_lu (ca_X11 r) 341 = some (0, mi_X11_neediest, 0, 9) := rfl
theorem ca_X11_344 (r : Nat) : ev_lu (ca_X11 r) 344 = some (0, mi_X11_best, 1, 9) := rfl
theorem ca_X11_347 (r : Nat) : ev_lu (ca_X11 r) 347 = some (0, mi_X11_moves, 1, 9) := rfl
theorem ca_X11_350 (r : Nat) : ev_lu (ca_X11 r) 350 = some (0, mi_X11_movesFor, 2, 9) := rfl
theorem ca_X11_353 (r : Nat) : ev_lu (ca_X11 r) 353 = some (0, mi_X11_other, 2, 9) := rfl
theorem ca_X11_356 (r : Nat) : ev_lu (ca_X11 r) 356 = some (0, mi_X11_scoresBy, 1, 9) := rfl
theorem ca_X11_359 (r : Nat) : ev_lu (ca_X11 r) 359 = some (0, mi_X11_sumBy, 1, 9) := rfl
theorem ca_X11_362 (r : Nat) : ev_lu (ca_X11 r) 362 = some (0, mi_X11_mean, 1, 9) := rfl
theorem ca_X11_365 (r : Nat) : ev_lu (ca_X11 r) 365 = some (0, mi_X11_allSum, 0, 9) := rfl
theorem ca_X11_368 (r : Nat) : ev_lu (ca_X11 r) 368 = some (0, mi_X11_allScores, 0, 9) := rfl
theorem ca_X11_371 (r : Nat) : ev_lu (ca_X11 r) 371 = some (0, mi_X11_adjusted, 2, 9) := rfl
theorem ca_X11_374 (r : Nat) : ev_lu (ca_X11 r) 374 = some (11, mi_J7_fill_53178, 2, 0) := rfl
theorem ca_X11_379 (r : Nat) : ev_lu (ca_X11 r) 379 = some (10, mi_J7_fill_53178, 2, 0) := rfl
theorem ca_X11_382 (r : Nat) : ev_lu (ca_X11 r) 382 = some (0, mi_X11_spread, 1, 9) := rfl
theorem ca_X11_385 (r : Nat) : ev_lu (ca_X11 r) 385 = some (12, mi_J7_fill_53178, 1, 0) := rfl
theorem ca_X11_388 (r : Nat) : ev_lu (ca_X11 r) 388 = some (0, mi_X11_total, 1, 9) := rfl
theorem ca_X11_391 (r : Nat) : ev_lu (ca_X11 r) 391 = some (0, mi_X11_isAhead, 2, 9) := rfl
theorem ca_X11_394 (r : Nat) : ev_lu (ca_X11 r) 394 = some (0, mi_X11_isPancake, 1, 9) := rfl
theorem ca_X11_397 (r : Nat) : ev_lu (ca_X11 r) 397 = some (0, mi_X11_mayTwo, 2, 9) := rfl
theorem ca_X11_401 (r : Nat) : ev_lu (ca_X11 r) 401 = some (0, mi_X11_isPerson, 1, 9) := rfl
theorem ca_X11_404 (r : Nat) : ev_lu (ca_X11 r) 404 = some (0, mi_X11_areBoth, 2, 9) := rfl
theorem ca_X11_407 (r : Nat) : ev_lu (ca_X11 r) 407 = some (0, mi_X11_mayLook, 0, 9) := rfl
theorem ca_X11_411 (r : Nat) : ev_lu (ca_X11 r) 411 = some (0, mi_X11_mayPancake, 1, 9) := rfl
theorem ca_X11_414 (r : Nat) : ev_lu (ca_X11 r) 414 = some (0, mi_X11_mayPerson, 1, 9) := rfl
theorem ca_X11_417 (r : Nat) : ev_lu (ca_X11 r) 417 = some (0, mi_X11_look, 1, 9) := rfl
theorem ca_X11_420 (r : Nat) : ev_lu (ca_X11 r) 420 = some (0, mi_X11_lookCake, 2, 9) := rfl
theorem ca_X11_423 (r : Nat) : ev_lu (ca_X11 r) 423 = some (0, mi_X11_lookAt, 4, 9) := rfl
theorem ca_X11_427 (r : Nat) : ev_lu (ca_X11 r) 427 = some (0, mi_X11_lookPerson, 2, 9) := rfl
theorem ca_X11_430 (r : Nat) : ev_lu (ca_X11 r) 430 = some (0, mi_X11_mayBoth, 2, 9) := rfl
theorem ca_X11_433 (r : Nat) : ev_lu (ca_X11 r) 433 = some (0, mi_X11_lacks, 0, 9) := rfl
theorem ca_X11_436 (r : Nat) : ev_lu (ca_X11 r) 436 = some (0, mi_X11_mustTalk, 1, 9) := rfl
theorem ca_X11_439 (r : Nat) : ev_lu (ca_X11 r) 439 = some (0, mi_X11_rank, 1, 9) := rfl
theorem ca_X11_442 (r : Nat) : ev_lu (ca_X11 r) 442 = some (0, mi_X11_troubles, 2, 9) := rfl
theorem ca_X11_448 (r : Nat) : ev_lu (ca_X11 r) 448 = some (0, mi_X11_writesByte, 1, 9) := rfl
theorem ca_X11_451 (r : Nat) : ev_lu (ca_X11 r) 451 = some (0, mi_X11_writesNumber, 1, 9) := rfl
theorem ca_X11_454 (r : Nat) : ev_lu (ca_X11 r) 454 = some (0, mi_X11_remembers, 0, 9) := rfl
theorem ca_X11_457 (r : Nat) : ev_lu (ca_X11 r) 457 = some (1, mi_X11_isSlot, 1, 9) := rfl
def th_X11 : List (Nat × String) := []
def ko_X11 : List (Nat × Int32) := []
def kl_X11 : List (Nat × Int64) := []
def fl_J7 : List (Nat × Nat × Nat × Nat) := []
def ca_J7 : List (Nat × ev_Ca) := []
def th_J7 : List (Nat × String) := []
def ko_J7 : List (Nat × Int32) := []
def kl_J7 : List (Nat × Int64) := []
abbrev tb_X1_init : ev_Tb := (ev_lu fl_X1, ev_lu (ca_X1), ev_lu th_X1, ev_lu ko_X1, ev_lu kl_X1, 2, false)
def cd_X1_init_0 : List (Nat × Instr) := (0, .aload 0) :: (1, .invokespecial 1) :: (4, .aload 0) :: (5, .iconst 0) :: (6, .iload 1) :: (7, .invokestatic 7) :: (10, .newarray .int) :: (12, .putfield 13) :: (15, .return_) :: []
def cd_X1_init : List (Nat × Instr) := cd_X1_init_0
set_option maxRecDepth 100000 in
theorem at_X1_init_0 : ev_at cd_X1_init 0 = cd_X1_init_0 := rfl
abbrev tb_X1_empty : ev_Tb := (ev_lu fl_X1, ev_lu (ca_X1), ev_lu th_X1, ev_lu ko_X1, ev_lu kl_X1, 1, false)
def cd_X1_empty_0 : List (Nat × Instr) := (0, .aload 0) :: (1, .iconst 0) :: (2, .putfield 19) :: (5, .return_) :: []
def cd_X1_empty : List (Nat × Instr) := cd_X1_empty_0
set_option maxRecDepth 100000 in
theorem at_X1_empty_0 : ev_at cd_X1_empty 0 = cd_X1_empty_0 := rfl
abbrev tb_X1_get : ev_Tb := (ev_lu fl_X1, ev_lu (ca_X1), ev_lu th_X1, ev_lu ko_X1, ev_lu kl_X1, 2, false)
def cd_X1_get_0 : List (Nat × Instr) := (0, .aload 0) :: (1, .getfield 13) :: (4, .iload 1) :: (5, .invokestatic 23) :: (8, .ireturn) :: []
def cd_X1_get : List (Nat × Instr) := cd_X1_get_0
set_option maxRecDepth 100000 in
theorem at_X1_get_0 : ev_at cd_X1_get 0 = cd_X1_get_0 := rfl
abbrev tb_X1_add : ev_Tb := (ev_lu fl_X1, ev_lu (ca_X1), ev_lu th_X1, ev_lu ko_X1, ev_lu kl_X1, 2, false)
def cd_X1_add_34 : List (Nat × Instr) := (34, .return_) :: []
def cd_X1_add_0 : List (Nat × Instr) := (0, .aload 0) :: (1, .getfield 19) :: (4, .aload 0) :: (5, .getfield 13) :: (8, .arraylength) :: (9, .if_icmp .ge 34) :: (12, .aload 0) :: (13, .getfield 13) :: (16, .aload 0) :: (17, .getfield 19) :: (20, .iload 1) :: (21, .invokestatic 29) :: (24, .aload 0) :: (25, .dup) :: (26, .getfield 19) :: (29, .iconst 1) :: (30, .iadd) :: (31, .putfield 19) :: cd_X1_add_34
def cd_X1_add : List (Nat × Instr) := cd_X1_add_0
set_option maxRecDepth 100000 in
theorem at_X1_add_34 : ev_at cd_X1_add 34 = cd_X1_add_34 := rfl
set_option maxRecDepth 100000 in
theorem at_X1_add_0 : ev_at cd_X1_add 0 = cd_X1_add_0 := rfl
abbrev tb_X1_addFourBytes : ev_Tb := (ev_lu fl_X1, ev_lu (ca_X1), ev_lu th_X1, ev_lu ko_X1, ev_lu kl_X1, 3, false)
def cd_X1_addFourBytes_24 : List (Nat × Instr) := (24, .return_) :: []
def cd_X1_addFourBytes_3 : List (Nat × Instr) := (3, .iload 2) :: (4, .ifCond .lt 24) :: (7, .aload 0) :: (8, .iload 1) :: (9, .iload 2) :: (10, .iushr) :: (11, .sipush 255) :: (14, .iand) :: (15, .invokevirtual 33) :: (18, .iinc 2 (-8)) :: (21, .goto 3) :: cd_X1_addFourBytes_24
def cd_X1_addFourBytes_0 : List (Nat × Instr) := (0, .bipush 24) :: (2, .istore 2) :: cd_X1_addFourBytes_3
def cd_X1_addFourBytes : List (Nat × Instr) := cd_X1_addFourBytes_0
set_option maxRecDepth 100000 in
theorem at_X1_addFourBytes_24 : ev_at cd_X1_addFourBytes 24 = cd_X1_addFourBytes_24 := rfl
set_option maxRecDepth 100000 in
theorem at_X1_addFourBytes_3 : ev_at cd_X1_addFourBytes 3 = cd_X1_addFourBytes_3 := rfl
set_option maxRecDepth 100000 in
theorem at_X1_addFourBytes_0 : ev_at cd_X1_addFourBytes 0 = cd_X1_addFourBytes_0 := rfl
abbrev tb_X1_addWord : ev_Tb := (ev_lu fl_X1, ev_lu (ca_X1), ev_lu th_X1, ev_lu ko_X1, ev_lu kl_X1, 5, false)
def cd_X1_addWord_31 : List (Nat × Instr) := (31, .return_) :: []
def cd_X1_addWord_8 : List (Nat × Instr) := (8, .iload 4) :: (10, .iload 3) :: (11, .if_icmp .ge 31) :: (14, .aload 0) :: (15, .lload 1) :: (16, .iload 3) :: (17, .iload 4) :: (19, .invokestatic 41) :: (22, .invokevirtual 33) :: (25, .iinc 4 1) :: (28, .goto 8) :: cd_X1_addWord_31
def cd_X1_addWord_0 : List (Nat × Instr) := (0, .lload 1) :: (1, .invokestatic 37) :: (4, .istore 3) :: (5, .iconst 0) :: (6, .istore 4) :: cd_X1_addWord_8
def cd_X1_addWord : List (Nat × Instr) := cd_X1_addWord_0
set_option maxRecDepth 100000 in
theorem at_X1_addWord_31 : ev_at cd_X1_addWord 31 = cd_X1_addWord_31 := rfl
set_option maxRecDepth 100000 in
theorem at_X1_addWord_8 : ev_at cd_X1_addWord 8 = cd_X1_addWord_8 := rfl
set_option maxRecDepth 100000 in
theorem at_X1_addWord_0 : ev_at cd_X1_addWord 0 = cd_X1_addWord_0 := rfl
abbrev tb_X1_addNumber : ev_Tb := (ev_lu fl_X1, ev_lu (ca_X1), ev_lu th_X1, ev_lu ko_X1, ev_lu kl_X1, 6, false)
def cd_X1_addNumber_79 : List (Nat × Instr) := (79, .return_) :: []
def cd_X1_addNumber_69 : List (Nat × Instr) := (69, .iload 4) :: (71, .bipush 10) :: (73, .idiv) :: (74, .istore 4) :: (76, .goto 21) :: cd_X1_addNumber_79
def cd_X1_addNumber_55 : List (Nat × Instr) := (55, .istore 3) :: (56, .iload 3) :: (57, .ifCond .eq 69) :: (60, .aload 0) :: (61, .bipush 48) :: (63, .iload 5) :: (65, .iadd) :: (66, .invokevirtual 33) :: cd_X1_addNumber_69
def cd_X1_addNumber_54 : List (Nat × Instr) := (54, .iconst 0) :: cd_X1_addNumber_55
def cd_X1_addNumber_50 : List (Nat × Instr) := (50, .iconst 1) :: (51, .goto 55) :: cd_X1_addNumber_54
def cd_X1_addNumber_21 : List (Nat × Instr) := (21, .iload 4) :: (23, .ifCond .le 79) :: (26, .iload 2) :: (27, .iload 4) :: (29, .idiv) :: (30, .bipush 10) :: (32, .irem) :: (33, .istore 5) :: (35, .iload 3) :: (36, .ifCond .ne 50) :: (39, .iload 5) :: (41, .ifCond .ne 50) :: (44, .iload 4) :: (46, .iconst 1) :: (47, .if_icmp .ne 54) :: cd_X1_addNumber_50
def cd_X1_addNumber_10 : List (Nat × Instr) := (10, .iload 1) :: (11, .invokestatic 45) :: (14, .istore 2) :: (15, .iconst 0) :: (16, .istore 3) :: (17, .ldc 49) :: (19, .istore 4) :: cd_X1_addNumber_21
def cd_X1_addNumber_0 : List (Nat × Instr) := (0, .iload 1) :: (1, .ifCond .ge 10) :: (4, .aload 0) :: (5, .bipush 45) :: (7, .invokevirtual 33) :: cd_X1_addNumber_10
def cd_X1_addNumber : List (Nat × Instr) := cd_X1_addNumber_0
set_option maxRecDepth 100000 in
theorem at_X1_addNumber_79 : ev_at cd_X1_addNumber 79 = cd_X1_addNumber_79 := rfl
set_option maxRecDepth 100000 in
theorem at_X1_addNumber_69 : ev_at cd_X1_addNumber 69 = cd_X1_addNumber_69 := rfl
set_option maxRecDepth 100000 in
theorem at_X1_addNumber_55 : ev_at cd_X1_addNumber 55 = cd_X1_addNumber_55 := rfl
set_option maxRecDepth 100000 in
theorem at_X1_addNumber_54 : ev_at cd_X1_addNumber 54 = cd_X1_addNumber_54 := rfl
set_option maxRecDepth 100000 in
theorem at_X1_addNumber_50 : ev_at cd_X1_addNumber 50 = cd_X1_addNumber_50 := rfl
set_option maxRecDepth 100000 in
theorem at_X1_addNumber_21 : ev_at cd_X1_addNumber 21 = cd_X1_addNumber_21 := rfl
set_option maxRecDepth 100000 in
theorem at_X1_addNumber_10 : ev_at cd_X1_addNumber 10 = cd_X1_addNumber_10 := rfl
set_option maxRecDepth 100000 in
theorem at_X1_addNumber_0 : ev_at cd_X1_addNumber 0 = cd_X1_addNumber_0 := rfl
abbrev tb_X2_init : ev_Tb := (ev_lu fl_X2, ev_lu (ca_X2), ev_lu th_X2, ev_lu ko_X2, ev_lu kl_X2, 2, false)
def cd_X2_init_43 : List (Nat × Instr) := (43, .return_) :: []
def cd_X2_init_15 : List (Nat × Instr) := (15, .iload 1) :: (16, .aload 0) :: (17, .getfield 11) :: (20, .arraylength) :: (21, .if_icmp .ge 43) :: (24, .aload 0) :: (25, .getfield 11) :: (28, .iload 1) :: (29, .new 9) :: (32, .dup) :: (33, .invokespecial 17) :: (36, .aastore) :: (37, .iinc 1 1) :: (40, .goto 15) :: cd_X2_init_43
def cd_X2_init_0 : List (Nat × Instr) := (0, .aload 0) :: (1, .invokespecial 3) :: (4, .aload 0) :: (5, .bipush 8) :: (7, .anewarray 9) :: (10, .putfield 11) :: (13, .iconst 0) :: (14, .istore 1) :: cd_X2_init_15
def cd_X2_init : List (Nat × Instr) := cd_X2_init_0
set_option maxRecDepth 100000 in
theorem at_X2_init_43 : ev_at cd_X2_init 43 = cd_X2_init_43 := rfl
set_option maxRecDepth 100000 in
theorem at_X2_init_15 : ev_at cd_X2_init 15 = cd_X2_init_15 := rfl
set_option maxRecDepth 100000 in
theorem at_X2_init_0 : ev_at cd_X2_init 0 = cd_X2_init_0 := rfl
abbrev tb_X2_forget : ev_Tb := (ev_lu fl_X2, ev_lu (ca_X2), ev_lu th_X2, ev_lu ko_X2, ev_lu kl_X2, 1, false)
def cd_X2_forget_0 : List (Nat × Instr) := (0, .aload 0) :: (1, .iconst 0) :: (2, .putfield 18) :: (5, .return_) :: []
def cd_X2_forget : List (Nat × Instr) := cd_X2_forget_0
set_option maxRecDepth 100000 in
theorem at_X2_forget_0 : ev_at cd_X2_forget 0 = cd_X2_forget_0 := rfl
abbrev tb_X2_remember : ev_Tb := (ev_lu fl_X2, ev_lu (ca_X2), ev_lu th_X2, ev_lu ko_X2, ev_lu kl_X2, 2, false)
def cd_X2_remember_78 : List (Nat × Instr) := (78, .return_) :: []
def cd_X2_remember_25 : List (Nat × Instr) := (25, .putfield 22) :: (28, .aload 0) :: (29, .getfield 22) :: (32, .ifCond .lt 78) :: (35, .aload 0) :: (36, .getfield 22) :: (39, .aload 0) :: (40, .getfield 11) :: (43, .arraylength) :: (44, .if_icmp .ge 78) :: (47, .aload 0) :: (48, .getfield 11) :: (51, .aload 0) :: (52, .getfield 22) :: (55, .aaload) :: (56, .aload 1) :: (57, .invokevirtual 25) :: (60, .aload 0) :: (61, .aload 0) :: (62, .getfield 18) :: (65, .iconst 1) :: (66, .iadd) :: (67, .aload 0) :: (68, .getfield 11) :: (71, .arraylength) :: (72, .invokestatic 29) :: (75, .putfield 18) :: cd_X2_remember_78
def cd_X2_remember_24 : List (Nat × Instr) := (24, .iconst 0) :: cd_X2_remember_25
def cd_X2_remember_0 : List (Nat × Instr) := (0, .aload 0) :: (1, .aload 0) :: (2, .getfield 22) :: (5, .aload 0) :: (6, .getfield 11) :: (9, .arraylength) :: (10, .iconst 1) :: (11, .isub) :: (12, .if_icmp .ge 24) :: (15, .aload 0) :: (16, .getfield 22) :: (19, .iconst 1) :: (20, .iadd) :: (21, .goto 25) :: cd_X2_remember_24
def cd_X2_remember : List (Nat × Instr) := cd_X2_remember_0
set_option maxRecDepth 100000 in
theorem at_X2_remember_78 : ev_at cd_X2_remember 78 = cd_X2_remember_78 := rfl
set_option maxRecDepth 100000 in
theorem at_X2_remember_25 : ev_at cd_X2_remember 25 = cd_X2_remember_25 := rfl
set_option maxRecDepth 100000 in
theorem at_X2_remember_24 : ev_at cd_X2_remember 24 = cd_X2_remember_24 := rfl
set_option maxRecDepth 100000 in
theorem at_X2_remember_0 : ev_at cd_X2_remember 0 = cd_X2_remember_0 := rfl
abbrev tb_X2_bringBack : ev_Tb := (ev_lu fl_X2, ev_lu (ca_X2), ev_lu th_X2, ev_lu ko_X2, ev_lu kl_X2, 2, false)
def cd_X2_bringBack_76 : List (Nat × Instr) := (76, .return_) :: []
def cd_X2_bringBack_63 : List (Nat × Instr) := (63, .putfield 22) :: (66, .aload 0) :: (67, .dup) :: (68, .getfield 18) :: (71, .iconst 1) :: (72, .isub) :: (73, .putfield 18) :: cd_X2_bringBack_76
def cd_X2_bringBack_56 : List (Nat × Instr) := (56, .aload 0) :: (57, .getfield 11) :: (60, .arraylength) :: (61, .iconst 1) :: (62, .isub) :: cd_X2_bringBack_63
def cd_X2_bringBack_0 : List (Nat × Instr) := (0, .aload 0) :: (1, .getfield 18) :: (4, .ifCond .le 76) :: (7, .aload 0) :: (8, .getfield 22) :: (11, .ifCond .lt 76) :: (14, .aload 0) :: (15, .getfield 22) :: (18, .aload 0) :: (19, .getfield 11) :: (22, .arraylength) :: (23, .if_icmp .ge 76) :: (26, .aload 1) :: (27, .aload 0) :: (28, .getfield 11) :: (31, .aload 0) :: (32, .getfield 22) :: (35, .aaload) :: (36, .invokevirtual 25) :: (39, .aload 0) :: (40, .aload 0) :: (41, .getfield 22) :: (44, .ifCond .le 56) :: (47, .aload 0) :: (48, .getfield 22) :: (51, .iconst 1) :: (52, .isub) :: (53, .goto 63) :: cd_X2_bringBack_56
def cd_X2_bringBack : List (Nat × Instr) := cd_X2_bringBack_0
set_option maxRecDepth 100000 in
theorem at_X2_bringBack_76 : ev_at cd_X2_bringBack 76 = cd_X2_bringBack_76 := rfl
set_option maxRecDepth 100000 in
theorem at_X2_bringBack_63 : ev_at cd_X2_bringBack 63 = cd_X2_bringBack_63 := rfl
set_option maxRecDepth 100000 in
theorem at_X2_bringBack_56 : ev_at cd_X2_bringBack 56 = cd_X2_bringBack_56 := rfl
set_option maxRecDepth 100000 in
theorem at_X2_bringBack_0 : ev_at cd_X2_bringBack 0 = cd_X2_bringBack_0 := rfl
abbrev tb_X4_init : ev_Tb := (ev_lu fl_X4, ev_lu (ca_X4), ev_lu th_X4, ev_lu ko_X4, ev_lu kl_X4, 1, false)
def cd_X4_init_0 : List (Nat × Instr) := (0, .aload 0) :: (1, .invokespecial 3) :: (4, .aload 0) :: (5, .bipush 16) :: (7, .newarray .long) :: (9, .putfield 9) :: (12, .aload 0) :: (13, .bipush 16) :: (15, .newarray .int) :: (17, .putfield 15) :: (20, .aload 0) :: (21, .bipush 16) :: (23, .newarray .int) :: (25, .putfield 19) :: (28, .aload 0) :: (29, .bipush 10) :: (31, .newarray .int) :: (33, .putfield 22) :: (36, .aload 0) :: (37, .new 25) :: (40, .dup) :: (41, .bipush 16) :: (43, .iconst 4) :: (44, .invokespecial 27) :: (47, .putfield 30) :: (50, .aload 0) :: (51, .new 25) :: (54, .dup) :: (55, .bipush 16) :: (57, .bipush 16) :: (59, .invokespecial 27) :: (62, .putfield 34) :: (65, .aload 0) :: (66, .new 25) :: (69, .dup) :: (70, .bipush 16) :: (72, .bipush 10) :: (74, .invokespecial 27) :: (77, .putfield 37) :: (80, .aload 0) :: (81, .new 25) :: (84, .dup) :: (85, .bipush 16) :: (87, .bipush 10) :: (89, .invokespecial 27) :: (92, .putfield 40) :: (95, .aload 0) :: (96, .new 43) :: (99, .dup) :: (100, .invokespecial 45) :: (103, .putfield 46) :: (106, .aload 0) :: (107, .new 43) :: (110, .dup) :: (111, .invokespecial 45) :: (114, .putfield 50) :: (117, .aload 0) :: (118, .new 53) :: (121, .dup) :: (122, .invokespecial 55) :: (125, .putfield 56) :: (128, .return_) :: []
def cd_X4_init : List (Nat × Instr) := cd_X4_init_0
set_option maxRecDepth 100000 in
theorem at_X4_init_0 : ev_at cd_X4_init 0 = cd_X4_init_0 := rfl
abbrev tb_X4_clear : ev_Tb := (ev_lu fl_X4, ev_lu (ca_X4), ev_lu th_X4, ev_lu ko_X4, ev_lu kl_X4, 1, false)
def cd_X4_clear_0 : List (Nat × Instr) := (0, .aload 0) :: (1, .iconst 0) :: (2, .putfield 60) :: (5, .aload 0) :: (6, .iconst 0) :: (7, .putfield 64) :: (10, .aload 0) :: (11, .iconst 0) :: (12, .putfield 68) :: (15, .aload 0) :: (16, .iconst 0) :: (17, .putfield 71) :: (20, .aload 0) :: (21, .iconst 0) :: (22, .putfield 74) :: (25, .aload 0) :: (26, .iconst 0) :: (27, .putfield 77) :: (30, .aload 0) :: (31, .iconst 0) :: (32, .putfield 80) :: (35, .aload 0) :: (36, .getfield 9) :: (39, .lconst 0) :: (40, .invokestatic 83) :: (43, .aload 0) :: (44, .getfield 15) :: (47, .iconst 0) :: (48, .invokestatic 89) :: (51, .aload 0) :: (52, .getfield 19) :: (55, .iconst 0) :: (56, .invokestatic 89) :: (59, .aload 0) :: (60, .getfield 22) :: (63, .iconst 0) :: (64, .invokestatic 89) :: (67, .aload 0) :: (68, .getfield 30) :: (71, .invokevirtual 92) :: (74, .aload 0) :: (75, .getfield 34) :: (78, .invokevirtual 92) :: (81, .aload 0) :: (82, .getfield 37) :: (85, .invokevirtual 92) :: (88, .aload 0) :: (89, .getfield 40) :: (92, .invokevirtual 92) :: (95, .aload 0) :: (96, .getfield 46) :: (99, .invokevirtual 95) :: (102, .aload 0) :: (103, .getfield 50) :: (106, .invokevirtual 95) :: (109, .aload 0) :: (110, .getfield 56) :: (113, .invokevirtual 96) :: (116, .return_) :: []
def cd_X4_clear : List (Nat × Instr) := cd_X4_clear_0
set_option maxRecDepth 100000 in
theorem at_X4_clear_0 : ev_at cd_X4_clear 0 = cd_X4_clear_0 := rfl
abbrev tb_X4_copyFrom : ev_Tb := (ev_lu fl_X4, ev_lu (ca_X4), ev_lu th_X4, ev_lu ko_X4, ev_lu kl_X4, 2, false)
def cd_X4_copyFrom_0 : List (Nat × Instr) := (0, .aload 0) :: (1, .aload 1) :: (2, .getfield 60) :: (5, .putfield 60) :: (8, .aload 0) :: (9, .aload 1) :: (10, .getfield 64) :: (13, .putfield 64) :: (16, .aload 0) :: (17, .aload 1) :: (18, .getfield 68) :: (21, .putfield 68) :: (24, .aload 0) :: (25, .aload 1) :: (26, .getfield 71) :: (29, .putfield 71) :: (32, .aload 0) :: (33, .aload 1) :: (34, .getfield 74) :: (37, .putfield 74) :: (40, .aload 0) :: (41, .aload 1) :: (42, .getfield 77) :: (45, .putfield 77) :: (48, .aload 0) :: (49, .aload 1) :: (50, .getfield 80) :: (53, .putfield 80) :: (56, .aload 1) :: (57, .getfield 9) :: (60, .iconst 0) :: (61, .aload 0) :: (62, .getfield 9) :: (65, .iconst 0) :: (66, .aload 1) :: (67, .getfield 9) :: (70, .arraylength) :: (71, .aload 0) :: (72, .getfield 9) :: (75, .arraylength) :: (76, .invokestatic 97) :: (79, .invokestatic 103) :: (82, .aload 1) :: (83, .getfield 15) :: (86, .aload 0) :: (87, .getfield 15) :: (90, .invokestatic 109) :: (93, .aload 1) :: (94, .getfield 19) :: (97, .aload 0) :: (98, .getfield 19) :: (101, .invokestatic 109) :: (104, .aload 1) :: (105, .getfield 22) :: (108, .aload 0) :: (109, .getfield 22) :: (112, .invokestatic 109) :: (115, .aload 0) :: (116, .getfield 30) :: (119, .aload 1) :: (120, .getfield 30) :: (123, .invokevirtual 113) :: (126, .aload 0) :: (127, .getfield 34) :: (130, .aload 1) :: (131, .getfield 34) :: (134, .invokevirtual 113) :: (137, .aload 0) :: (138, .getfield 37) :: (141, .aload 1) :: (142, .getfield 37) :: (145, .invokevirtual 113) :: (148, .aload 0) :: (149, .getfield 40) :: (152, .aload 1) :: (153, .getfield 40) :: (156, .invokevirtual 113) :: (159, .aload 0) :: (160, .getfield 46) :: (163, .aload 1) :: (164, .getfield 46) :: (167, .invokevirtual 117) :: (170, .aload 0) :: (171, .getfield 50) :: (174, .aload 1) :: (175, .getfield 50) :: (178, .invokevirtual 117) :: (181, .aload 0) :: (182, .getfield 56) :: (185, .aload 1) :: (186, .getfield 56) :: (189, .invokevirtual 120) :: (192, .return_) :: []
def cd_X4_copyFrom : List (Nat × Instr) := cd_X4_copyFrom_0
set_option maxRecDepth 100000 in
theorem at_X4_copyFrom_0 : ev_at cd_X4_copyFrom 0 = cd_X4_copyFrom_0 := rfl
abbrev tb_X4_name : ev_Tb := (ev_lu fl_X4, ev_lu (ca_X4), ev_lu th_X4, ev_lu ko_X4, ev_lu kl_X4, 2, false)
def cd_X4_name_23 : List (Nat × Instr) := (23, .lreturn) :: []
def cd_X4_name_22 : List (Nat × Instr) := (22, .lconst 0) :: cd_X4_name_23
def cd_X4_name_0 : List (Nat × Instr) := (0, .iload 1) :: (1, .ifCond .lt 22) :: (4, .iload 1) :: (5, .aload 0) :: (6, .getfield 9) :: (9, .arraylength) :: (10, .if_icmp .ge 22) :: (13, .aload 0) :: (14, .getfield 9) :: (17, .iload 1) :: (18, .laload) :: (19, .goto 23) :: cd_X4_name_22
def cd_X4_name : List (Nat × Instr) := cd_X4_name_0
set_option maxRecDepth 100000 in
theorem at_X4_name_23 : ev_at cd_X4_name 23 = cd_X4_name_23 := rfl
set_option maxRecDepth 100000 in
theorem at_X4_name_22 : ev_at cd_X4_name 22 = cd_X4_name_22 := rfl
set_option maxRecDepth 100000 in
theorem at_X4_name_0 : ev_at cd_X4_name 0 = cd_X4_name_0 := rfl
abbrev tb_X4_personNamed : ev_Tb := (ev_lu fl_X4, ev_lu (ca_X4), ev_lu th_X4, ev_lu ko_X4, ev_lu kl_X4, 4, false)
def cd_X4_personNamed_28 : List (Nat × Instr) := (28, .iconst (-1)) :: (29, .ireturn) :: []
def cd_X4_personNamed_22 : List (Nat × Instr) := (22, .iinc 3 1) :: (25, .goto 2) :: cd_X4_personNamed_28
def cd_X4_personNamed_2 : List (Nat × Instr) := (2, .iload 3) :: (3, .aload 0) :: (4, .getfield 71) :: (7, .if_icmp .ge 28) :: (10, .aload 0) :: (11, .iload 3) :: (12, .invokevirtual 123) :: (15, .lload 1) :: (16, .lcmp) :: (17, .ifCond .ne 22) :: (20, .iload 3) :: (21, .ireturn) :: cd_X4_personNamed_22
def cd_X4_personNamed_0 : List (Nat × Instr) := (0, .iconst 0) :: (1, .istore 3) :: cd_X4_personNamed_2
def cd_X4_personNamed : List (Nat × Instr) := cd_X4_personNamed_0
set_option maxRecDepth 100000 in
theorem at_X4_personNamed_28 : ev_at cd_X4_personNamed 28 = cd_X4_personNamed_28 := rfl
set_option maxRecDepth 100000 in
theorem at_X4_personNamed_22 : ev_at cd_X4_personNamed 22 = cd_X4_personNamed_22 := rfl
set_option maxRecDepth 100000 in
theorem at_X4_personNamed_2 : ev_at cd_X4_personNamed 2 = cd_X4_personNamed_2 := rfl
set_option maxRecDepth 100000 in
theorem at_X4_personNamed_0 : ev_at cd_X4_personNamed 0 = cd_X4_personNamed_0 := rfl
abbrev tb_X4_addPerson : ev_Tb := (ev_lu fl_X4, ev_lu (ca_X4), ev_lu th_X4, ev_lu ko_X4, ev_lu kl_X4, 4, false)
def cd_X4_addPerson_51 : List (Nat × Instr) := (51, .return_) :: []
def cd_X4_addPerson_0 : List (Nat × Instr) := (0, .aload 0) :: (1, .getfield 71) :: (4, .ifCond .lt 51) :: (7, .aload 0) :: (8, .getfield 71) :: (11, .aload 0) :: (12, .getfield 9) :: (15, .arraylength) :: (16, .if_icmp .ge 51) :: (19, .aload 0) :: (20, .getfield 9) :: (23, .aload 0) :: (24, .getfield 71) :: (27, .lload 1) :: (28, .lastore) :: (29, .aload 0) :: (30, .getfield 15) :: (33, .aload 0) :: (34, .getfield 71) :: (37, .iload 3) :: (38, .invokestatic 127) :: (41, .aload 0) :: (42, .dup) :: (43, .getfield 71) :: (46, .iconst 1) :: (47, .iadd) :: (48, .putfield 71) :: cd_X4_addPerson_51
def cd_X4_addPerson : List (Nat × Instr) := cd_X4_addPerson_0
set_option maxRecDepth 100000 in
theorem at_X4_addPerson_51 : ev_at cd_X4_addPerson 51 = cd_X4_addPerson_51 := rfl
set_option maxRecDepth 100000 in
theorem at_X4_addPerson_0 : ev_at cd_X4_addPerson 0 = cd_X4_addPerson_0 := rfl
abbrev tb_X4_isOneOfTasters : ev_Tb := (ev_lu fl_X4, ev_lu (ca_X4), ev_lu th_X4, ev_lu ko_X4, ev_lu kl_X4, 2, true)
def cd_X4_isOneOfTasters_16 : List (Nat × Instr) := (16, .ireturn) :: []
def cd_X4_isOneOfTasters_15 : List (Nat × Instr) := (15, .iconst 0) :: cd_X4_isOneOfTasters_16
def cd_X4_isOneOfTasters_0 : List (Nat × Instr) := (0, .aload 0) :: (1, .getfield 19) :: (4, .iload 1) :: (5, .invokestatic 131) :: (8, .ifCond .le 15) :: (11, .iconst 1) :: (12, .goto 16) :: cd_X4_isOneOfTasters_15
def cd_X4_isOneOfTasters : List (Nat × Instr) := cd_X4_isOneOfTasters_0
set_option maxRecDepth 100000 in
theorem at_X4_isOneOfTasters_16 : ev_at cd_X4_isOneOfTasters 16 = cd_X4_isOneOfTasters_16 := rfl
set_option maxRecDepth 100000 in
theorem at_X4_isOneOfTasters_15 : ev_at cd_X4_isOneOfTasters 15 = cd_X4_isOneOfTasters_15 := rfl
set_option maxRecDepth 100000 in
theorem at_X4_isOneOfTasters_0 : ev_at cd_X4_isOneOfTasters 0 = cd_X4_isOneOfTasters_0 := rfl
abbrev tb_X4_addPancake : ev_Tb := (ev_lu fl_X4, ev_lu (ca_X4), ev_lu th_X4, ev_lu ko_X4, ev_lu kl_X4, 2, false)
def cd_X4_addPancake_31 : List (Nat × Instr) := (31, .return_) :: []
def cd_X4_addPancake_0 : List (Nat × Instr) := (0, .aload 0) :: (1, .getfield 74) :: (4, .bipush 10) :: (6, .if_icmp .ge 31) :: (9, .aload 0) :: (10, .getfield 22) :: (13, .aload 0) :: (14, .getfield 74) :: (17, .iload 1) :: (18, .invokestatic 127) :: (21, .aload 0) :: (22, .dup) :: (23, .getfield 74) :: (26, .iconst 1) :: (27, .iadd) :: (28, .putfield 74) :: cd_X4_addPancake_31
def cd_X4_addPancake : List (Nat × Instr) := cd_X4_addPancake_0
set_option maxRecDepth 100000 in
theorem at_X4_addPancake_31 : ev_at cd_X4_addPancake 31 = cd_X4_addPancake_31 := rfl
set_option maxRecDepth 100000 in
theorem at_X4_addPancake_0 : ev_at cd_X4_addPancake 0 = cd_X4_addPancake_0 := rfl
abbrev tb_X4_swapTopics : ev_Tb := (ev_lu fl_X4, ev_lu (ca_X4), ev_lu th_X4, ev_lu ko_X4, ev_lu kl_X4, 4, false)
def cd_X4_swapTopics_0 : List (Nat × Instr) := (0, .aload 0) :: (1, .getfield 22) :: (4, .iload 1) :: (5, .invokestatic 131) :: (8, .istore 3) :: (9, .aload 0) :: (10, .getfield 22) :: (13, .iload 1) :: (14, .aload 0) :: (15, .getfield 22) :: (18, .iload 2) :: (19, .invokestatic 131) :: (22, .invokestatic 127) :: (25, .aload 0) :: (26, .getfield 22) :: (29, .iload 2) :: (30, .iload 3) :: (31, .invokestatic 127) :: (34, .return_) :: []
def cd_X4_swapTopics : List (Nat × Instr) := cd_X4_swapTopics_0
set_option maxRecDepth 100000 in
theorem at_X4_swapTopics_0 : ev_at cd_X4_swapTopics 0 = cd_X4_swapTopics_0 := rfl
abbrev tb_X4_joinCooks : ev_Tb := (ev_lu fl_X4, ev_lu (ca_X4), ev_lu th_X4, ev_lu ko_X4, ev_lu kl_X4, 3, false)
def cd_X4_joinCooks_0 : List (Nat × Instr) := (0, .aload 0) :: (1, .getfield 34) :: (4, .iload 1) :: (5, .iload 2) :: (6, .iconst 1) :: (7, .invokevirtual 135) :: (10, .aload 0) :: (11, .getfield 34) :: (14, .iload 2) :: (15, .iload 1) :: (16, .iconst 1) :: (17, .invokevirtual 135) :: (20, .return_) :: []
def cd_X4_joinCooks : List (Nat × Instr) := cd_X4_joinCooks_0
set_option maxRecDepth 100000 in
theorem at_X4_joinCooks_0 : ev_at cd_X4_joinCooks 0 = cd_X4_joinCooks_0 := rfl
abbrev tb_X4_copyBids : ev_Tb := (ev_lu fl_X4, ev_lu (ca_X4), ev_lu th_X4, ev_lu ko_X4, ev_lu kl_X4, 4, false)
def cd_X4_copyBids_34 : List (Nat × Instr) := (34, .return_) :: []
def cd_X4_copyBids_2 : List (Nat × Instr) := (2, .iload 3) :: (3, .aload 0) :: (4, .getfield 74) :: (7, .if_icmp .ge 34) :: (10, .aload 0) :: (11, .getfield 37) :: (14, .iload 2) :: (15, .iload 3) :: (16, .aload 0) :: (17, .getfield 37) :: (20, .iload 1) :: (21, .iload 3) :: (22, .invokevirtual 139) :: (25, .invokevirtual 135) :: (28, .iinc 3 1) :: (31, .goto 2) :: cd_X4_copyBids_34
def cd_X4_copyBids_0 : List (Nat × Instr) := (0, .iconst 0) :: (1, .istore 3) :: cd_X4_copyBids_2
def cd_X4_copyBids : List (Nat × Instr) := cd_X4_copyBids_0
set_option maxRecDepth 100000 in
theorem at_X4_copyBids_34 : ev_at cd_X4_copyBids 34 = cd_X4_copyBids_34 := rfl
set_option maxRecDepth 100000 in
theorem at_X4_copyBids_2 : ev_at cd_X4_copyBids 2 = cd_X4_copyBids_2 := rfl
set_option maxRecDepth 100000 in
theorem at_X4_copyBids_0 : ev_at cd_X4_copyBids 0 = cd_X4_copyBids_0 := rfl
abbrev tb_X4_liking : ev_Tb := (ev_lu fl_X4, ev_lu (ca_X4), ev_lu th_X4, ev_lu ko_X4, ev_lu kl_X4, 3, false)
def cd_X4_liking_0 : List (Nat × Instr) := (0, .bipush 10) :: (2, .aload 0) :: (3, .getfield 37) :: (6, .iload 1) :: (7, .iload 2) :: (8, .invokevirtual 139) :: (11, .imul) :: (12, .aload 0) :: (13, .getfield 30) :: (16, .iload 1) :: (17, .aload 0) :: (18, .getfield 22) :: (21, .iload 2) :: (22, .invokestatic 131) :: (25, .invokevirtual 139) :: (28, .iadd) :: (29, .ireturn) :: []
def cd_X4_liking : List (Nat × Instr) := cd_X4_liking_0
set_option maxRecDepth 100000 in
theorem at_X4_liking_0 : ev_at cd_X4_liking 0 = cd_X4_liking_0 := rfl
abbrev tb_X4_mostLiked : ev_Tb := (ev_lu fl_X4, ev_lu (ca_X4), ev_lu th_X4, ev_lu ko_X4, ev_lu kl_X4, 6, false)
def cd_X4_mostLiked_58 : List (Nat × Instr) := (58, .iload 2) :: (59, .ireturn) :: []
def cd_X4_mostLiked_52 : List (Nat × Instr) := (52, .iinc 4 1) :: (55, .goto 7) :: cd_X4_mostLiked_58
def cd_X4_mostLiked_36 : List (Nat × Instr) := (36, .aload 0) :: (37, .iload 1) :: (38, .iload 4) :: (40, .invokevirtual 145) :: (43, .ifCond .ne 52) :: (46, .iload 4) :: (48, .istore 2) :: (49, .iload 5) :: (51, .istore 3) :: cd_X4_mostLiked_52
def cd_X4_mostLiked_7 : List (Nat × Instr) := (7, .iload 4) :: (9, .aload 0) :: (10, .getfield 74) :: (13, .if_icmp .ge 58) :: (16, .aload 0) :: (17, .iload 1) :: (18, .iload 4) :: (20, .invokevirtual 142) :: (23, .istore 5) :: (25, .iload 2) :: (26, .iconst (-1)) :: (27, .if_icmp .eq 36) :: (30, .iload 5) :: (32, .iload 3) :: (33, .if_icmp .le 52) :: cd_X4_mostLiked_36
def cd_X4_mostLiked_0 : List (Nat × Instr) := (0, .iconst (-1)) :: (1, .istore 2) :: (2, .iconst 0) :: (3, .istore 3) :: (4, .iconst 0) :: (5, .istore 4) :: cd_X4_mostLiked_7
def cd_X4_mostLiked : List (Nat × Instr) := cd_X4_mostLiked_0
set_option maxRecDepth 100000 in
theorem at_X4_mostLiked_58 : ev_at cd_X4_mostLiked 58 = cd_X4_mostLiked_58 := rfl
set_option maxRecDepth 100000 in
theorem at_X4_mostLiked_52 : ev_at cd_X4_mostLiked 52 = cd_X4_mostLiked_52 := rfl
set_option maxRecDepth 100000 in
theorem at_X4_mostLiked_36 : ev_at cd_X4_mostLiked 36 = cd_X4_mostLiked_36 := rfl
set_option maxRecDepth 100000 in
theorem at_X4_mostLiked_7 : ev_at cd_X4_mostLiked 7 = cd_X4_mostLiked_7 := rfl
set_option maxRecDepth 100000 in
theorem at_X4_mostLiked_0 : ev_at cd_X4_mostLiked 0 = cd_X4_mostLiked_0 := rfl
abbrev tb_X4_conflictReason : ev_Tb := (ev_lu fl_X4, ev_lu (ca_X4), ev_lu th_X4, ev_lu ko_X4, ev_lu kl_X4, 8, false)
def cd_X4_conflictReason_128 : List (Nat × Instr) := (128, .ireturn) :: []
def cd_X4_conflictReason_127 : List (Nat × Instr) := (127, .iconst 0) :: cd_X4_conflictReason_128
def cd_X4_conflictReason_111 : List (Nat × Instr) := (111, .aload 0) :: (112, .getfield 40) :: (115, .iload 1) :: (116, .iload 2) :: (117, .invokevirtual 139) :: (120, .ifCond .eq 127) :: (123, .iconst 4) :: (124, .goto 128) :: cd_X4_conflictReason_127
def cd_X4_conflictReason_104 : List (Nat × Instr) := (104, .iload 5) :: (106, .ifCond .eq 111) :: (109, .iconst 3) :: (110, .ireturn) :: cd_X4_conflictReason_111
def cd_X4_conflictReason_96 : List (Nat × Instr) := (96, .istore 5) :: (98, .iinc 6 1) :: (101, .goto 39) :: cd_X4_conflictReason_104
def cd_X4_conflictReason_95 : List (Nat × Instr) := (95, .iconst 0) :: cd_X4_conflictReason_96
def cd_X4_conflictReason_91 : List (Nat × Instr) := (91, .iconst 1) :: (92, .goto 96) :: cd_X4_conflictReason_95
def cd_X4_conflictReason_73 : List (Nat × Instr) := (73, .iload 5) :: (75, .ifCond .ne 91) :: (78, .aload 0) :: (79, .getfield 34) :: (82, .iload 1) :: (83, .iload 7) :: (85, .invokevirtual 139) :: (88, .ifCond .eq 95) :: cd_X4_conflictReason_91
def cd_X4_conflictReason_39 : List (Nat × Instr) := (39, .iload 6) :: (41, .iload 3) :: (42, .if_icmp .ge 104) :: (45, .aload 0) :: (46, .getfield 46) :: (49, .iload 2) :: (50, .iload 6) :: (52, .invokevirtual 156) :: (55, .istore 7) :: (57, .aload 0) :: (58, .getfield 15) :: (61, .iload 7) :: (63, .invokestatic 131) :: (66, .iload 4) :: (68, .if_icmp .ne 73) :: (71, .iconst 2) :: (72, .ireturn) :: cd_X4_conflictReason_73
def cd_X4_conflictReason_14 : List (Nat × Instr) := (14, .aload 0) :: (15, .getfield 46) :: (18, .iload 2) :: (19, .invokevirtual 152) :: (22, .istore 3) :: (23, .aload 0) :: (24, .getfield 15) :: (27, .iload 1) :: (28, .invokestatic 131) :: (31, .istore 4) :: (33, .iconst 0) :: (34, .istore 5) :: (36, .iconst 0) :: (37, .istore 6) :: cd_X4_conflictReason_39
def cd_X4_conflictReason_0 : List (Nat × Instr) := (0, .aload 0) :: (1, .getfield 46) :: (4, .iload 2) :: (5, .iload 1) :: (6, .invokevirtual 148) :: (9, .ifCond .eq 14) :: (12, .iconst 1) :: (13, .ireturn) :: cd_X4_conflictReason_14
def cd_X4_conflictReason : List (Nat × Instr) := cd_X4_conflictReason_0
set_option maxRecDepth 100000 in
theorem at_X4_conflictReason_128 : ev_at cd_X4_conflictReason 128 = cd_X4_conflictReason_128 := rfl
set_option maxRecDepth 100000 in
theorem at_X4_conflictReason_127 : ev_at cd_X4_conflictReason 127 = cd_X4_conflictReason_127 := rfl
set_option maxRecDepth 100000 in
theorem at_X4_conflictReason_111 : ev_at cd_X4_conflictReason 111 = cd_X4_conflictReason_111 := rfl
set_option maxRecDepth 100000 in
theorem at_X4_conflictReason_104 : ev_at cd_X4_conflictReason 104 = cd_X4_conflictReason_104 := rfl
set_option maxRecDepth 100000 in
theorem at_X4_conflictReason_96 : ev_at cd_X4_conflictReason 96 = cd_X4_conflictReason_96 := rfl
set_option maxRecDepth 100000 in
theorem at_X4_conflictReason_95 : ev_at cd_X4_conflictReason 95 = cd_X4_conflictReason_95 := rfl
set_option maxRecDepth 100000 in
theorem at_X4_conflictReason_91 : ev_at cd_X4_conflictReason 91 = cd_X4_conflictReason_91 := rfl
set_option maxRecDepth 100000 in
theorem at_X4_conflictReason_73 : ev_at cd_X4_conflictReason 73 = cd_X4_conflictReason_73 := rfl
set_option maxRecDepth 100000 in
theorem at_X4_conflictReason_39 : ev_at cd_X4_conflictReason 39 = cd_X4_conflictReason_39 := rfl
set_option maxRecDepth 100000 in
theorem at_X4_conflictReason_14 : ev_at cd_X4_conflictReason 14 = cd_X4_conflictReason_14 := rfl
set_option maxRecDepth 100000 in
theorem at_X4_conflictReason_0 : ev_at cd_X4_conflictReason 0 = cd_X4_conflictReason_0 := rfl
abbrev tb_X4_tastersInConflict : ev_Tb := (ev_lu fl_X4, ev_lu (ca_X4), ev_lu th_X4, ev_lu ko_X4, ev_lu kl_X4, 4, false)
def cd_X4_tastersInConflict_38 : List (Nat × Instr) := (38, .iload 2) :: (39, .ireturn) :: []
def cd_X4_tastersInConflict_32 : List (Nat × Instr) := (32, .iinc 3 1) :: (35, .goto 4) :: cd_X4_tastersInConflict_38
def cd_X4_tastersInConflict_4 : List (Nat × Instr) := (4, .iload 3) :: (5, .aload 0) :: (6, .getfield 71) :: (9, .if_icmp .ge 38) :: (12, .aload 0) :: (13, .iload 3) :: (14, .invokevirtual 159) :: (17, .ifCond .eq 32) :: (20, .aload 0) :: (21, .iload 3) :: (22, .iload 1) :: (23, .invokevirtual 145) :: (26, .ifCond .eq 32) :: (29, .iinc 2 1) :: cd_X4_tastersInConflict_32
def cd_X4_tastersInConflict_0 : List (Nat × Instr) := (0, .iconst 0) :: (1, .istore 2) :: (2, .iconst 0) :: (3, .istore 3) :: cd_X4_tastersInConflict_4
def cd_X4_tastersInConflict : List (Nat × Instr) := cd_X4_tastersInConflict_0
set_option maxRecDepth 100000 in
theorem at_X4_tastersInConflict_38 : ev_at cd_X4_tastersInConflict 38 = cd_X4_tastersInConflict_38 := rfl
set_option maxRecDepth 100000 in
theorem at_X4_tastersInConflict_32 : ev_at cd_X4_tastersInConflict 32 = cd_X4_tastersInConflict_32 := rfl
set_option maxRecDepth 100000 in
theorem at_X4_tastersInConflict_4 : ev_at cd_X4_tastersInConflict 4 = cd_X4_tastersInConflict_4 := rfl
set_option maxRecDepth 100000 in
theorem at_X4_tastersInConflict_0 : ev_at cd_X4_tastersInConflict 0 = cd_X4_tastersInConflict_0 := rfl
abbrev tb_X4_load : ev_Tb := (ev_lu fl_X4, ev_lu (ca_X4), ev_lu th_X4, ev_lu ko_X4, ev_lu kl_X4, 4, false)
def cd_X4_load_33 : List (Nat × Instr) := (33, .iload 2) :: (34, .ireturn) :: []
def cd_X4_load_27 : List (Nat × Instr) := (27, .iinc 3 1) :: (30, .goto 4) :: cd_X4_load_33
def cd_X4_load_4 : List (Nat × Instr) := (4, .iload 3) :: (5, .aload 0) :: (6, .getfield 74) :: (9, .if_icmp .ge 33) :: (12, .aload 0) :: (13, .getfield 50) :: (16, .iload 3) :: (17, .iload 1) :: (18, .invokevirtual 148) :: (21, .ifCond .eq 27) :: (24, .iinc 2 1) :: cd_X4_load_27
def cd_X4_load_0 : List (Nat × Instr) := (0, .iconst 0) :: (1, .istore 2) :: (2, .iconst 0) :: (3, .istore 3) :: cd_X4_load_4
def cd_X4_load : List (Nat × Instr) := cd_X4_load_0
set_option maxRecDepth 100000 in
theorem at_X4_load_33 : ev_at cd_X4_load 33 = cd_X4_load_33 := rfl
set_option maxRecDepth 100000 in
theorem at_X4_load_27 : ev_at cd_X4_load 27 = cd_X4_load_27 := rfl
set_option maxRecDepth 100000 in
theorem at_X4_load_4 : ev_at cd_X4_load 4 = cd_X4_load_4 := rfl
set_option maxRecDepth 100000 in
theorem at_X4_load_0 : ev_at cd_X4_load 0 = cd_X4_load_0 := rfl
abbrev tb_X4_refusalReason : ev_Tb := (ev_lu fl_X4, ev_lu (ca_X4), ev_lu th_X4, ev_lu ko_X4, ev_lu kl_X4, 4, false)
def cd_X4_refusalReason_72 : List (Nat × Instr) := (72, .ireturn) :: []
def cd_X4_refusalReason_71 : List (Nat × Instr) := (71, .iconst 0) :: cd_X4_refusalReason_72
def cd_X4_refusalReason_51 : List (Nat × Instr) := (51, .aload 0) :: (52, .iload 1) :: (53, .invokevirtual 163) :: (56, .aload 0) :: (57, .getfield 19) :: (60, .iload 1) :: (61, .invokestatic 131) :: (64, .if_icmp .lt 71) :: (67, .iconst 5) :: (68, .goto 72) :: cd_X4_refusalReason_71
def cd_X4_refusalReason_35 : List (Nat × Instr) := (35, .aload 0) :: (36, .getfield 50) :: (39, .iload 2) :: (40, .invokevirtual 152) :: (43, .iload 3) :: (44, .isub) :: (45, .iconst 3) :: (46, .if_icmp .lt 51) :: (49, .iconst 4) :: (50, .ireturn) :: cd_X4_refusalReason_51
def cd_X4_refusalReason_24 : List (Nat × Instr) := (24, .aload 0) :: (25, .iload 1) :: (26, .iload 2) :: (27, .invokevirtual 145) :: (30, .ifCond .eq 35) :: (33, .iconst 3) :: (34, .ireturn) :: cd_X4_refusalReason_35
def cd_X4_refusalReason_10 : List (Nat × Instr) := (10, .aload 0) :: (11, .getfield 50) :: (14, .iload 2) :: (15, .iload 1) :: (16, .invokevirtual 148) :: (19, .ifCond .eq 24) :: (22, .iconst 2) :: (23, .ireturn) :: cd_X4_refusalReason_24
def cd_X4_refusalReason_0 : List (Nat × Instr) := (0, .aload 0) :: (1, .iload 1) :: (2, .invokevirtual 159) :: (5, .ifCond .ne 10) :: (8, .iconst 1) :: (9, .ireturn) :: cd_X4_refusalReason_10
def cd_X4_refusalReason : List (Nat × Instr) := cd_X4_refusalReason_0
set_option maxRecDepth 100000 in
theorem at_X4_refusalReason_72 : ev_at cd_X4_refusalReason 72 = cd_X4_refusalReason_72 := rfl
set_option maxRecDepth 100000 in
theorem at_X4_refusalReason_71 : ev_at cd_X4_refusalReason 71 = cd_X4_refusalReason_71 := rfl
set_option maxRecDepth 100000 in
theorem at_X4_refusalReason_51 : ev_at cd_X4_refusalReason 51 = cd_X4_refusalReason_51 := rfl
set_option maxRecDepth 100000 in
theorem at_X4_refusalReason_35 : ev_at cd_X4_refusalReason 35 = cd_X4_refusalReason_35 := rfl
set_option maxRecDepth 100000 in
theorem at_X4_refusalReason_24 : ev_at cd_X4_refusalReason 24 = cd_X4_refusalReason_24 := rfl
set_option maxRecDepth 100000 in
theorem at_X4_refusalReason_10 : ev_at cd_X4_refusalReason 10 = cd_X4_refusalReason_10 := rfl
set_option maxRecDepth 100000 in
theorem at_X4_refusalReason_0 : ev_at cd_X4_refusalReason 0 = cd_X4_refusalReason_0 := rfl
abbrev tb_X4_bestFor : ev_Tb := (ev_lu fl_X4, ev_lu (ca_X4), ev_lu th_X4, ev_lu ko_X4, ev_lu kl_X4, 4, false)
def cd_X4_bestFor_45 : List (Nat × Instr) := (45, .iload 2) :: (46, .ireturn) :: []
def cd_X4_bestFor_39 : List (Nat × Instr) := (39, .iinc 3 1) :: (42, .goto 4) :: cd_X4_bestFor_45
def cd_X4_bestFor_37 : List (Nat × Instr) := (37, .iload 3) :: (38, .istore 2) :: cd_X4_bestFor_39
def cd_X4_bestFor_4 : List (Nat × Instr) := (4, .iload 3) :: (5, .aload 0) :: (6, .getfield 71) :: (9, .if_icmp .ge 45) :: (12, .aload 0) :: (13, .iload 3) :: (14, .iload 1) :: (15, .iconst 0) :: (16, .invokevirtual 166) :: (19, .ifCond .ne 39) :: (22, .iload 2) :: (23, .iconst (-1)) :: (24, .if_icmp .eq 37) :: (27, .aload 0) :: (28, .iload 3) :: (29, .iload 2) :: (30, .iload 1) :: (31, .invokevirtual 170) :: (34, .ifCond .eq 39) :: cd_X4_bestFor_37
def cd_X4_bestFor_0 : List (Nat × Instr) := (0, .iconst (-1)) :: (1, .istore 2) :: (2, .iconst 0) :: (3, .istore 3) :: cd_X4_bestFor_4
def cd_X4_bestFor : List (Nat × Instr) := cd_X4_bestFor_0
set_option maxRecDepth 100000 in
theorem at_X4_bestFor_45 : ev_at cd_X4_bestFor 45 = cd_X4_bestFor_45 := rfl
set_option maxRecDepth 100000 in
theorem at_X4_bestFor_39 : ev_at cd_X4_bestFor 39 = cd_X4_bestFor_39 := rfl
set_option maxRecDepth 100000 in
theorem at_X4_bestFor_37 : ev_at cd_X4_bestFor 37 = cd_X4_bestFor_37 := rfl
set_option maxRecDepth 100000 in
theorem at_X4_bestFor_4 : ev_at cd_X4_bestFor 4 = cd_X4_bestFor_4 := rfl
set_option maxRecDepth 100000 in
theorem at_X4_bestFor_0 : ev_at cd_X4_bestFor 0 = cd_X4_bestFor_0 := rfl
abbrev tb_X4_isBetter : ev_Tb := (ev_lu fl_X4, ev_lu (ca_X4), ev_lu th_X4, ev_lu ko_X4, ev_lu kl_X4, 5, true)
def cd_X4_isBetter_43 : List (Nat × Instr) := (43, .ireturn) :: []
def cd_X4_isBetter_42 : List (Nat × Instr) := (42, .iconst 0) :: cd_X4_isBetter_43
def cd_X4_isBetter_38 : List (Nat × Instr) := (38, .iconst 1) :: (39, .goto 43) :: cd_X4_isBetter_42
def cd_X4_isBetter_0 : List (Nat × Instr) := (0, .aload 0) :: (1, .iload 1) :: (2, .iload 3) :: (3, .invokevirtual 142) :: (6, .aload 0) :: (7, .iload 2) :: (8, .iload 3) :: (9, .invokevirtual 142) :: (12, .isub) :: (13, .istore 4) :: (15, .iload 4) :: (17, .ifCond .gt 38) :: (20, .iload 4) :: (22, .ifCond .ne 42) :: (25, .aload 0) :: (26, .iload 1) :: (27, .invokevirtual 163) :: (30, .aload 0) :: (31, .iload 2) :: (32, .invokevirtual 163) :: (35, .if_icmp .ge 42) :: cd_X4_isBetter_38
def cd_X4_isBetter : List (Nat × Instr) := cd_X4_isBetter_0
set_option maxRecDepth 100000 in
theorem at_X4_isBetter_43 : ev_at cd_X4_isBetter 43 = cd_X4_isBetter_43 := rfl
set_option maxRecDepth 100000 in
theorem at_X4_isBetter_42 : ev_at cd_X4_isBetter 42 = cd_X4_isBetter_42 := rfl
set_option maxRecDepth 100000 in
theorem at_X4_isBetter_38 : ev_at cd_X4_isBetter 38 = cd_X4_isBetter_38 := rfl
set_option maxRecDepth 100000 in
theorem at_X4_isBetter_0 : ev_at cd_X4_isBetter 0 = cd_X4_isBetter_0 := rfl
abbrev tb_X4_takeSeat : ev_Tb := (ev_lu fl_X4, ev_lu (ca_X4), ev_lu th_X4, ev_lu ko_X4, ev_lu kl_X4, 3, false)
def cd_X4_takeSeat_0 : List (Nat × Instr) := (0, .aload 0) :: (1, .getfield 50) :: (4, .iload 2) :: (5, .iload 1) :: (6, .invokevirtual 174) :: (9, .aload 0) :: (10, .getfield 56) :: (13, .iload 1) :: (14, .iload 2) :: (15, .iconst 0) :: (16, .invokevirtual 177) :: (19, .return_) :: []
def cd_X4_takeSeat : List (Nat × Instr) := cd_X4_takeSeat_0
set_option maxRecDepth 100000 in
theorem at_X4_takeSeat_0 : ev_at cd_X4_takeSeat 0 = cd_X4_takeSeat_0 := rfl
abbrev tb_X4_clearSeats : ev_Tb := (ev_lu fl_X4, ev_lu (ca_X4), ev_lu th_X4, ev_lu ko_X4, ev_lu kl_X4, 3, false)
def cd_X4_clearSeats_22 : List (Nat × Instr) := (22, .return_) :: []
def cd_X4_clearSeats_2 : List (Nat × Instr) := (2, .iload 2) :: (3, .aload 0) :: (4, .getfield 71) :: (7, .if_icmp .ge 22) :: (10, .aload 0) :: (11, .iload 2) :: (12, .iload 1) :: (13, .invokevirtual 180) :: (16, .iinc 2 1) :: (19, .goto 2) :: cd_X4_clearSeats_22
def cd_X4_clearSeats_0 : List (Nat × Instr) := (0, .iconst 0) :: (1, .istore 2) :: cd_X4_clearSeats_2
def cd_X4_clearSeats : List (Nat × Instr) := cd_X4_clearSeats_0
set_option maxRecDepth 100000 in
theorem at_X4_clearSeats_22 : ev_at cd_X4_clearSeats 22 = cd_X4_clearSeats_22 := rfl
set_option maxRecDepth 100000 in
theorem at_X4_clearSeats_2 : ev_at cd_X4_clearSeats 2 = cd_X4_clearSeats_2 := rfl
set_option maxRecDepth 100000 in
theorem at_X4_clearSeats_0 : ev_at cd_X4_clearSeats 0 = cd_X4_clearSeats_0 := rfl
abbrev tb_X4_takenSeats : ev_Tb := (ev_lu fl_X4, ev_lu (ca_X4), ev_lu th_X4, ev_lu ko_X4, ev_lu kl_X4, 3, false)
def cd_X4_takenSeats_29 : List (Nat × Instr) := (29, .iload 1) :: (30, .ireturn) :: []
def cd_X4_takenSeats_4 : List (Nat × Instr) := (4, .iload 2) :: (5, .aload 0) :: (6, .getfield 74) :: (9, .if_icmp .ge 29) :: (12, .iload 1) :: (13, .aload 0) :: (14, .getfield 50) :: (17, .iload 2) :: (18, .invokevirtual 152) :: (21, .iadd) :: (22, .istore 1) :: (23, .iinc 2 1) :: (26, .goto 4) :: cd_X4_takenSeats_29
def cd_X4_takenSeats_0 : List (Nat × Instr) := (0, .iconst 0) :: (1, .istore 1) :: (2, .iconst 0) :: (3, .istore 2) :: cd_X4_takenSeats_4
def cd_X4_takenSeats : List (Nat × Instr) := cd_X4_takenSeats_0
set_option maxRecDepth 100000 in
theorem at_X4_takenSeats_29 : ev_at cd_X4_takenSeats 29 = cd_X4_takenSeats_29 := rfl
set_option maxRecDepth 100000 in
theorem at_X4_takenSeats_4 : ev_at cd_X4_takenSeats 4 = cd_X4_takenSeats_4 := rfl
set_option maxRecDepth 100000 in
theorem at_X4_takenSeats_0 : ev_at cd_X4_takenSeats 0 = cd_X4_takenSeats_0 := rfl
abbrev tb_X4_freeSeats : ev_Tb := (ev_lu fl_X4, ev_lu (ca_X4), ev_lu th_X4, ev_lu ko_X4, ev_lu kl_X4, 1, false)
def cd_X4_freeSeats_0 : List (Nat × Instr) := (0, .iconst 3) :: (1, .aload 0) :: (2, .getfield 74) :: (5, .imul) :: (6, .aload 0) :: (7, .invokevirtual 183) :: (10, .isub) :: (11, .ireturn) :: []
def cd_X4_freeSeats : List (Nat × Instr) := cd_X4_freeSeats_0
set_option maxRecDepth 100000 in
theorem at_X4_freeSeats_0 : ev_at cd_X4_freeSeats 0 = cd_X4_freeSeats_0 := rfl
abbrev tb_X4_fillSeats : ev_Tb := (ev_lu fl_X4, ev_lu (ca_X4), ev_lu th_X4, ev_lu ko_X4, ev_lu kl_X4, 6, false)
def cd_X4_fillSeats_87 : List (Nat × Instr) := (87, .aload 0) :: (88, .dup) :: (89, .getfield 77) :: (92, .iload 1) :: (93, .iadd) :: (94, .putfield 77) :: (97, .iload 1) :: (98, .ireturn) :: []
def cd_X4_fillSeats_81 : List (Nat × Instr) := (81, .iinc 3 1) :: (84, .goto 6) :: cd_X4_fillSeats_87
def cd_X4_fillSeats_74 : List (Nat × Instr) := (74, .iload 2) :: (75, .iconst 1) :: (76, .iload 4) :: (78, .ishl) :: (79, .ior) :: (80, .istore 2) :: cd_X4_fillSeats_81
def cd_X4_fillSeats_59 : List (Nat × Instr) := (59, .aload 0) :: (60, .iload 4) :: (62, .invokevirtual 197) :: (65, .ifCond .eq 74) :: (68, .iinc 1 2) :: (71, .goto 81) :: cd_X4_fillSeats_74
def cd_X4_fillSeats_28 : List (Nat × Instr) := (28, .aload 0) :: (29, .iload 4) :: (31, .invokevirtual 191) :: (34, .istore 5) :: (36, .iload 5) :: (38, .iconst (-1)) :: (39, .if_icmp .eq 59) :: (42, .aload 0) :: (43, .getfield 50) :: (46, .iload 4) :: (48, .iload 5) :: (50, .invokevirtual 194) :: (53, .iinc 1 1) :: (56, .goto 81) :: cd_X4_fillSeats_59
def cd_X4_fillSeats_6 : List (Nat × Instr) := (6, .iload 3) :: (7, .ldc 187) :: (9, .if_icmp .ge 87) :: (12, .aload 0) :: (13, .iload 2) :: (14, .invokevirtual 188) :: (17, .istore 4) :: (19, .iload 4) :: (21, .iconst (-1)) :: (22, .if_icmp .ne 28) :: (25, .goto 87) :: cd_X4_fillSeats_28
def cd_X4_fillSeats_0 : List (Nat × Instr) := (0, .iconst 0) :: (1, .istore 1) :: (2, .iconst 0) :: (3, .istore 2) :: (4, .iconst 0) :: (5, .istore 3) :: cd_X4_fillSeats_6
def cd_X4_fillSeats : List (Nat × Instr) := cd_X4_fillSeats_0
set_option maxRecDepth 100000 in
theorem at_X4_fillSeats_87 : ev_at cd_X4_fillSeats 87 = cd_X4_fillSeats_87 := rfl
set_option maxRecDepth 100000 in
theorem at_X4_fillSeats_81 : ev_at cd_X4_fillSeats 81 = cd_X4_fillSeats_81 := rfl
set_option maxRecDepth 100000 in
theorem at_X4_fillSeats_74 : ev_at cd_X4_fillSeats 74 = cd_X4_fillSeats_74 := rfl
set_option maxRecDepth 100000 in
theorem at_X4_fillSeats_59 : ev_at cd_X4_fillSeats 59 = cd_X4_fillSeats_59 := rfl
set_option maxRecDepth 100000 in
theorem at_X4_fillSeats_28 : ev_at cd_X4_fillSeats 28 = cd_X4_fillSeats_28 := rfl
set_option maxRecDepth 100000 in
theorem at_X4_fillSeats_6 : ev_at cd_X4_fillSeats 6 = cd_X4_fillSeats_6 := rfl
set_option maxRecDepth 100000 in
theorem at_X4_fillSeats_0 : ev_at cd_X4_fillSeats 0 = cd_X4_fillSeats_0 := rfl
abbrev tb_X4_neediest : ev_Tb := (ev_lu fl_X4, ev_lu (ca_X4), ev_lu th_X4, ev_lu ko_X4, ev_lu kl_X4, 6, false)
def cd_X4_neediest_69 : List (Nat × Instr) := (69, .iload 2) :: (70, .ireturn) :: []
def cd_X4_neediest_63 : List (Nat × Instr) := (63, .iinc 4 1) :: (66, .goto 7) :: cd_X4_neediest_69
def cd_X4_neediest_30 : List (Nat × Instr) := (30, .istore 5) :: (32, .iload 5) :: (34, .ifCond .ne 63) :: (37, .aload 0) :: (38, .getfield 50) :: (41, .iload 4) :: (43, .invokevirtual 152) :: (46, .iload 3) :: (47, .if_icmp .ge 63) :: (50, .iload 4) :: (52, .istore 2) :: (53, .aload 0) :: (54, .getfield 50) :: (57, .iload 4) :: (59, .invokevirtual 152) :: (62, .istore 3) :: cd_X4_neediest_63
def cd_X4_neediest_29 : List (Nat × Instr) := (29, .iconst 0) :: cd_X4_neediest_30
def cd_X4_neediest_7 : List (Nat × Instr) := (7, .iload 4) :: (9, .aload 0) :: (10, .getfield 74) :: (13, .if_icmp .ge 69) :: (16, .iload 1) :: (17, .iload 4) :: (19, .iushr) :: (20, .iconst 1) :: (21, .iand) :: (22, .ifCond .eq 29) :: (25, .iconst 1) :: (26, .goto 30) :: cd_X4_neediest_29
def cd_X4_neediest_0 : List (Nat × Instr) := (0, .iconst (-1)) :: (1, .istore 2) :: (2, .iconst 3) :: (3, .istore 3) :: (4, .iconst 0) :: (5, .istore 4) :: cd_X4_neediest_7
def cd_X4_neediest : List (Nat × Instr) := cd_X4_neediest_0
set_option maxRecDepth 100000 in
theorem at_X4_neediest_69 : ev_at cd_X4_neediest 69 = cd_X4_neediest_69 := rfl
set_option maxRecDepth 100000 in
theorem at_X4_neediest_63 : ev_at cd_X4_neediest 63 = cd_X4_neediest_63 := rfl
set_option maxRecDepth 100000 in
theorem at_X4_neediest_30 : ev_at cd_X4_neediest 30 = cd_X4_neediest_30 := rfl
set_option maxRecDepth 100000 in
theorem at_X4_neediest_29 : ev_at cd_X4_neediest 29 = cd_X4_neediest_29 := rfl
set_option maxRecDepth 100000 in
theorem at_X4_neediest_7 : ev_at cd_X4_neediest 7 = cd_X4_neediest_7 := rfl
set_option maxRecDepth 100000 in
theorem at_X4_neediest_0 : ev_at cd_X4_neediest 0 = cd_X4_neediest_0 := rfl
abbrev tb_X4_makeMove : ev_Tb := (ev_lu fl_X4, ev_lu (ca_X4), ev_lu th_X4, ev_lu ko_X4, ev_lu kl_X4, 5, true)
def cd_X4_makeMove_148 : List (Nat × Instr) := (148, .iconst 0) :: (149, .ireturn) :: []
def cd_X4_makeMove_142 : List (Nat × Instr) := (142, .iinc 2 1) :: (145, .goto 2) :: cd_X4_makeMove_148
def cd_X4_makeMove_136 : List (Nat × Instr) := (136, .iinc 3 1) :: (139, .goto 26) :: cd_X4_makeMove_142
def cd_X4_makeMove_130 : List (Nat × Instr) := (130, .iinc 4 1) :: (133, .goto 64) :: cd_X4_makeMove_136
def cd_X4_makeMove_64 : List (Nat × Instr) := (64, .iload 4) :: (66, .aload 0) :: (67, .getfield 71) :: (70, .if_icmp .ge 136) :: (73, .iload 4) :: (75, .iload 2) :: (76, .if_icmp .eq 130) :: (79, .aload 0) :: (80, .iload 4) :: (82, .iload 3) :: (83, .iconst 1) :: (84, .invokevirtual 166) :: (87, .ifCond .ne 130) :: (90, .aload 0) :: (91, .getfield 50) :: (94, .iload 3) :: (95, .iload 2) :: (96, .invokevirtual 174) :: (99, .aload 0) :: (100, .getfield 50) :: (103, .iload 3) :: (104, .iload 4) :: (106, .invokevirtual 194) :: (109, .aload 0) :: (110, .getfield 50) :: (113, .iload 1) :: (114, .iload 2) :: (115, .invokevirtual 194) :: (118, .aload 0) :: (119, .dup) :: (120, .getfield 80) :: (123, .iconst 1) :: (124, .iadd) :: (125, .putfield 80) :: (128, .iconst 1) :: (129, .ireturn) :: cd_X4_makeMove_130
def cd_X4_makeMove_61 : List (Nat × Instr) := (61, .iconst 0) :: (62, .istore 4) :: cd_X4_makeMove_64
def cd_X4_makeMove_26 : List (Nat × Instr) := (26, .iload 3) :: (27, .aload 0) :: (28, .getfield 74) :: (31, .if_icmp .ge 142) :: (34, .aload 0) :: (35, .getfield 50) :: (38, .iload 3) :: (39, .iload 2) :: (40, .invokevirtual 148) :: (43, .ifCond .eq 136) :: (46, .aload 0) :: (47, .getfield 56) :: (50, .iload 2) :: (51, .iload 3) :: (52, .invokevirtual 200) :: (55, .ifCond .le 61) :: (58, .goto 136) :: cd_X4_makeMove_61
def cd_X4_makeMove_24 : List (Nat × Instr) := (24, .iconst 0) :: (25, .istore 3) :: cd_X4_makeMove_26
def cd_X4_makeMove_2 : List (Nat × Instr) := (2, .iload 2) :: (3, .aload 0) :: (4, .getfield 71) :: (7, .if_icmp .ge 148) :: (10, .aload 0) :: (11, .iload 2) :: (12, .iload 1) :: (13, .iconst 0) :: (14, .invokevirtual 166) :: (17, .iconst 5) :: (18, .if_icmp .eq 24) :: (21, .goto 142) :: cd_X4_makeMove_24
def cd_X4_makeMove_0 : List (Nat × Instr) := (0, .iconst 0) :: (1, .istore 2) :: cd_X4_makeMove_2
def cd_X4_makeMove : List (Nat × Instr) := cd_X4_makeMove_0
set_option maxRecDepth 100000 in
theorem at_X4_makeMove_148 : ev_at cd_X4_makeMove 148 = cd_X4_makeMove_148 := rfl
set_option maxRecDepth 100000 in
theorem at_X4_makeMove_142 : ev_at cd_X4_makeMove 142 = cd_X4_makeMove_142 := rfl
set_option maxRecDepth 100000 in
theorem at_X4_makeMove_136 : ev_at cd_X4_makeMove 136 = cd_X4_makeMove_136 := rfl
set_option maxRecDepth 100000 in
theorem at_X4_makeMove_130 : ev_at cd_X4_makeMove 130 = cd_X4_makeMove_130 := rfl
set_option maxRecDepth 100000 in
theorem at_X4_makeMove_64 : ev_at cd_X4_makeMove 64 = cd_X4_makeMove_64 := rfl
set_option maxRecDepth 100000 in
theorem at_X4_makeMove_61 : ev_at cd_X4_makeMove 61 = cd_X4_makeMove_61 := rfl
set_option maxRecDepth 100000 in
theorem at_X4_makeMove_26 : ev_at cd_X4_makeMove 26 = cd_X4_makeMove_26 := rfl
set_option maxRecDepth 100000 in
theorem at_X4_makeMove_24 : ev_at cd_X4_makeMove 24 = cd_X4_makeMove_24 := rfl
set_option maxRecDepth 100000 in
theorem at_X4_makeMove_2 : ev_at cd_X4_makeMove 2 = cd_X4_makeMove_2 := rfl
set_option maxRecDepth 100000 in
theorem at_X4_makeMove_0 : ev_at cd_X4_makeMove 0 = cd_X4_makeMove_0 := rfl
abbrev tb_X4_isDisputed : ev_Tb := (ev_lu fl_X4, ev_lu (ca_X4), ev_lu th_X4, ev_lu ko_X4, ev_lu kl_X4, 2, true)
def cd_X4_isDisputed_20 : List (Nat × Instr) := (20, .ireturn) :: []
def cd_X4_isDisputed_19 : List (Nat × Instr) := (19, .iconst 0) :: cd_X4_isDisputed_20
def cd_X4_isDisputed_0 : List (Nat × Instr) := (0, .aload 0) :: (1, .getfield 56) :: (4, .iload 1) :: (5, .invokevirtual 203) :: (8, .aload 0) :: (9, .getfield 64) :: (12, .if_icmp .le 19) :: (15, .iconst 1) :: (16, .goto 20) :: cd_X4_isDisputed_19
def cd_X4_isDisputed : List (Nat × Instr) := cd_X4_isDisputed_0
set_option maxRecDepth 100000 in
theorem at_X4_isDisputed_20 : ev_at cd_X4_isDisputed 20 = cd_X4_isDisputed_20 := rfl
set_option maxRecDepth 100000 in
theorem at_X4_isDisputed_19 : ev_at cd_X4_isDisputed 19 = cd_X4_isDisputed_19 := rfl
set_option maxRecDepth 100000 in
theorem at_X4_isDisputed_0 : ev_at cd_X4_isDisputed 0 = cd_X4_isDisputed_0 := rfl
abbrev tb_X4_loadSum : ev_Tb := (ev_lu fl_X4, ev_lu (ca_X4), ev_lu th_X4, ev_lu ko_X4, ev_lu kl_X4, 3, false)
def cd_X4_loadSum_26 : List (Nat × Instr) := (26, .iload 1) :: (27, .ireturn) :: []
def cd_X4_loadSum_4 : List (Nat × Instr) := (4, .iload 2) :: (5, .aload 0) :: (6, .getfield 71) :: (9, .if_icmp .ge 26) :: (12, .iload 1) :: (13, .aload 0) :: (14, .iload 2) :: (15, .invokevirtual 163) :: (18, .iadd) :: (19, .istore 1) :: (20, .iinc 2 1) :: (23, .goto 4) :: cd_X4_loadSum_26
def cd_X4_loadSum_0 : List (Nat × Instr) := (0, .iconst 0) :: (1, .istore 1) :: (2, .iconst 0) :: (3, .istore 2) :: cd_X4_loadSum_4
def cd_X4_loadSum : List (Nat × Instr) := cd_X4_loadSum_0
set_option maxRecDepth 100000 in
theorem at_X4_loadSum_26 : ev_at cd_X4_loadSum 26 = cd_X4_loadSum_26 := rfl
set_option maxRecDepth 100000 in
theorem at_X4_loadSum_4 : ev_at cd_X4_loadSum 4 = cd_X4_loadSum_4 := rfl
set_option maxRecDepth 100000 in
theorem at_X4_loadSum_0 : ev_at cd_X4_loadSum 0 = cd_X4_loadSum_0 := rfl
abbrev tb_X4_seatsInConflict : ev_Tb := (ev_lu fl_X4, ev_lu (ca_X4), ev_lu th_X4, ev_lu ko_X4, ev_lu kl_X4, 4, false)
def cd_X4_seatsInConflict_58 : List (Nat × Instr) := (58, .iload 1) :: (59, .ireturn) :: []
def cd_X4_seatsInConflict_52 : List (Nat × Instr) := (52, .iinc 2 1) :: (55, .goto 4) :: cd_X4_seatsInConflict_58
def cd_X4_seatsInConflict_46 : List (Nat × Instr) := (46, .iinc 3 1) :: (49, .goto 14) :: cd_X4_seatsInConflict_52
def cd_X4_seatsInConflict_14 : List (Nat × Instr) := (14, .iload 3) :: (15, .aload 0) :: (16, .getfield 50) :: (19, .iload 2) :: (20, .invokevirtual 152) :: (23, .if_icmp .ge 52) :: (26, .aload 0) :: (27, .aload 0) :: (28, .getfield 50) :: (31, .iload 2) :: (32, .iload 3) :: (33, .invokevirtual 156) :: (36, .iload 2) :: (37, .invokevirtual 145) :: (40, .ifCond .eq 46) :: (43, .iinc 1 1) :: cd_X4_seatsInConflict_46
def cd_X4_seatsInConflict_4 : List (Nat × Instr) := (4, .iload 2) :: (5, .aload 0) :: (6, .getfield 74) :: (9, .if_icmp .ge 58) :: (12, .iconst 0) :: (13, .istore 3) :: cd_X4_seatsInConflict_14
def cd_X4_seatsInConflict_0 : List (Nat × Instr) := (0, .iconst 0) :: (1, .istore 1) :: (2, .iconst 0) :: (3, .istore 2) :: cd_X4_seatsInConflict_4
def cd_X4_seatsInConflict : List (Nat × Instr) := cd_X4_seatsInConflict_0
set_option maxRecDepth 100000 in
theorem at_X4_seatsInConflict_58 : ev_at cd_X4_seatsInConflict 58 = cd_X4_seatsInConflict_58 := rfl
set_option maxRecDepth 100000 in
theorem at_X4_seatsInConflict_52 : ev_at cd_X4_seatsInConflict 52 = cd_X4_seatsInConflict_52 := rfl
set_option maxRecDepth 100000 in
theorem at_X4_seatsInConflict_46 : ev_at cd_X4_seatsInConflict 46 = cd_X4_seatsInConflict_46 := rfl
set_option maxRecDepth 100000 in
theorem at_X4_seatsInConflict_14 : ev_at cd_X4_seatsInConflict 14 = cd_X4_seatsInConflict_14 := rfl
set_option maxRecDepth 100000 in
theorem at_X4_seatsInConflict_4 : ev_at cd_X4_seatsInConflict 4 = cd_X4_seatsInConflict_4 := rfl
set_option maxRecDepth 100000 in
theorem at_X4_seatsInConflict_0 : ev_at cd_X4_seatsInConflict 0 = cd_X4_seatsInConflict_0 := rfl
abbrev tb_X4_overloadedTasters : ev_Tb := (ev_lu fl_X4, ev_lu (ca_X4), ev_lu th_X4, ev_lu ko_X4, ev_lu kl_X4, 3, false)
def cd_X4_overloadedTasters_37 : List (Nat × Instr) := (37, .iload 1) :: (38, .ireturn) :: []
def cd_X4_overloadedTasters_31 : List (Nat × Instr) := (31, .iinc 2 1) :: (34, .goto 4) :: cd_X4_overloadedTasters_37
def cd_X4_overloadedTasters_4 : List (Nat × Instr) := (4, .iload 2) :: (5, .aload 0) :: (6, .getfield 71) :: (9, .if_icmp .ge 37) :: (12, .aload 0) :: (13, .iload 2) :: (14, .invokevirtual 163) :: (17, .aload 0) :: (18, .getfield 19) :: (21, .iload 2) :: (22, .invokestatic 131) :: (25, .if_icmp .le 31) :: (28, .iinc 1 1) :: cd_X4_overloadedTasters_31
def cd_X4_overloadedTasters_0 : List (Nat × Instr) := (0, .iconst 0) :: (1, .istore 1) :: (2, .iconst 0) :: (3, .istore 2) :: cd_X4_overloadedTasters_4
def cd_X4_overloadedTasters : List (Nat × Instr) := cd_X4_overloadedTasters_0
set_option maxRecDepth 100000 in
theorem at_X4_overloadedTasters_37 : ev_at cd_X4_overloadedTasters 37 = cd_X4_overloadedTasters_37 := rfl
set_option maxRecDepth 100000 in
theorem at_X4_overloadedTasters_31 : ev_at cd_X4_overloadedTasters 31 = cd_X4_overloadedTasters_31 := rfl
set_option maxRecDepth 100000 in
theorem at_X4_overloadedTasters_4 : ev_at cd_X4_overloadedTasters 4 = cd_X4_overloadedTasters_4 := rfl
set_option maxRecDepth 100000 in
theorem at_X4_overloadedTasters_0 : ev_at cd_X4_overloadedTasters 0 = cd_X4_overloadedTasters_0 := rfl
abbrev tb_X4_scoresWithoutSeat : ev_Tb := (ev_lu fl_X4, ev_lu (ca_X4), ev_lu th_X4, ev_lu ko_X4, ev_lu kl_X4, 4, false)
def cd_X4_scoresWithoutSeat_61 : List (Nat × Instr) := (61, .iload 1) :: (62, .ireturn) :: []
def cd_X4_scoresWithoutSeat_55 : List (Nat × Instr) := (55, .iinc 2 1) :: (58, .goto 4) :: cd_X4_scoresWithoutSeat_61
def cd_X4_scoresWithoutSeat_49 : List (Nat × Instr) := (49, .iinc 3 1) :: (52, .goto 14) :: cd_X4_scoresWithoutSeat_55
def cd_X4_scoresWithoutSeat_14 : List (Nat × Instr) := (14, .iload 3) :: (15, .aload 0) :: (16, .getfield 71) :: (19, .if_icmp .ge 55) :: (22, .aload 0) :: (23, .getfield 56) :: (26, .iload 3) :: (27, .iload 2) :: (28, .invokevirtual 200) :: (31, .ifCond .le 49) :: (34, .aload 0) :: (35, .getfield 50) :: (38, .iload 2) :: (39, .iload 3) :: (40, .invokevirtual 148) :: (43, .ifCond .ne 49) :: (46, .iinc 1 1) :: cd_X4_scoresWithoutSeat_49
def cd_X4_scoresWithoutSeat_4 : List (Nat × Instr) := (4, .iload 2) :: (5, .aload 0) :: (6, .getfield 74) :: (9, .if_icmp .ge 61) :: (12, .iconst 0) :: (13, .istore 3) :: cd_X4_scoresWithoutSeat_14
def cd_X4_scoresWithoutSeat_0 : List (Nat × Instr) := (0, .iconst 0) :: (1, .istore 1) :: (2, .iconst 0) :: (3, .istore 2) :: cd_X4_scoresWithoutSeat_4
def cd_X4_scoresWithoutSeat : List (Nat × Instr) := cd_X4_scoresWithoutSeat_0
set_option maxRecDepth 100000 in
theorem at_X4_scoresWithoutSeat_61 : ev_at cd_X4_scoresWithoutSeat 61 = cd_X4_scoresWithoutSeat_61 := rfl
set_option maxRecDepth 100000 in
theorem at_X4_scoresWithoutSeat_55 : ev_at cd_X4_scoresWithoutSeat 55 = cd_X4_scoresWithoutSeat_55 := rfl
set_option maxRecDepth 100000 in
theorem at_X4_scoresWithoutSeat_49 : ev_at cd_X4_scoresWithoutSeat 49 = cd_X4_scoresWithoutSeat_49 := rfl
set_option maxRecDepth 100000 in
theorem at_X4_scoresWithoutSeat_14 : ev_at cd_X4_scoresWithoutSeat 14 = cd_X4_scoresWithoutSeat_14 := rfl
set_option maxRecDepth 100000 in
theorem at_X4_scoresWithoutSeat_4 : ev_at cd_X4_scoresWithoutSeat 4 = cd_X4_scoresWithoutSeat_4 := rfl
set_option maxRecDepth 100000 in
theorem at_X4_scoresWithoutSeat_0 : ev_at cd_X4_scoresWithoutSeat 0 = cd_X4_scoresWithoutSeat_0 := rfl
abbrev tb_X5_init : ev_Tb := (ev_lu fl_X5, ev_lu (ca_X5), ev_lu th_X5, ev_lu ko_X5, ev_lu kl_X5, 1, false)
def cd_X5_init_0 : List (Nat × Instr) := (0, .aload 0) :: (1, .invokespecial 3) :: (4, .aload 0) :: (5, .bipush 10) :: (7, .newarray .int) :: (9, .putfield 9) :: (12, .aload 0) :: (13, .bipush 30) :: (15, .newarray .int) :: (17, .putfield 15) :: (20, .return_) :: []
def cd_X5_init : List (Nat × Instr) := cd_X5_init_0
set_option maxRecDepth 100000 in
theorem at_X5_init_0 : ev_at cd_X5_init 0 = cd_X5_init_0 := rfl
abbrev tb_X5_size : ev_Tb := (ev_lu fl_X5, ev_lu (ca_X5), ev_lu th_X5, ev_lu ko_X5, ev_lu kl_X5, 2, false)
def cd_X5_size_23 : List (Nat × Instr) := (23, .ireturn) :: []
def cd_X5_size_22 : List (Nat × Instr) := (22, .iconst 0) :: cd_X5_size_23
def cd_X5_size_0 : List (Nat × Instr) := (0, .iload 1) :: (1, .ifCond .lt 22) :: (4, .iload 1) :: (5, .aload 0) :: (6, .getfield 9) :: (9, .arraylength) :: (10, .if_icmp .ge 22) :: (13, .aload 0) :: (14, .getfield 9) :: (17, .iload 1) :: (18, .iaload) :: (19, .goto 23) :: cd_X5_size_22
def cd_X5_size : List (Nat × Instr) := cd_X5_size_0
set_option maxRecDepth 100000 in
theorem at_X5_size_23 : ev_at cd_X5_size 23 = cd_X5_size_23 := rfl
set_option maxRecDepth 100000 in
theorem at_X5_size_22 : ev_at cd_X5_size 22 = cd_X5_size_22 := rfl
set_option maxRecDepth 100000 in
theorem at_X5_size_0 : ev_at cd_X5_size 0 = cd_X5_size_0 := rfl
abbrev tb_X5_member : ev_Tb := (ev_lu fl_X5, ev_lu (ca_X5), ev_lu th_X5, ev_lu ko_X5, ev_lu kl_X5, 4, false)
def cd_X5_member_29 : List (Nat × Instr) := (29, .ireturn) :: []
def cd_X5_member_28 : List (Nat × Instr) := (28, .iconst (-1)) :: cd_X5_member_29
def cd_X5_member_0 : List (Nat × Instr) := (0, .iload 1) :: (1, .iconst 3) :: (2, .imul) :: (3, .iload 2) :: (4, .iadd) :: (5, .istore 3) :: (6, .iload 3) :: (7, .ifCond .lt 28) :: (10, .iload 3) :: (11, .aload 0) :: (12, .getfield 15) :: (15, .arraylength) :: (16, .if_icmp .ge 28) :: (19, .aload 0) :: (20, .getfield 15) :: (23, .iload 3) :: (24, .iaload) :: (25, .goto 29) :: cd_X5_member_28
def cd_X5_member : List (Nat × Instr) := cd_X5_member_0
set_option maxRecDepth 100000 in
theorem at_X5_member_29 : ev_at cd_X5_member 29 = cd_X5_member_29 := rfl
set_option maxRecDepth 100000 in
theorem at_X5_member_28 : ev_at cd_X5_member 28 = cd_X5_member_28 := rfl
set_option maxRecDepth 100000 in
theorem at_X5_member_0 : ev_at cd_X5_member 0 = cd_X5_member_0 := rfl
abbrev tb_X5_contains : ev_Tb := (ev_lu fl_X5, ev_lu (ca_X5), ev_lu th_X5, ev_lu ko_X5, ev_lu kl_X5, 6, true)
def cd_X5_contains_68 : List (Nat × Instr) := (68, .iconst 0) :: (69, .ireturn) :: []
def cd_X5_contains_62 : List (Nat × Instr) := (62, .iinc 5 1) :: (65, .goto 32) :: cd_X5_contains_68
def cd_X5_contains_32 : List (Nat × Instr) := (32, .iload 5) :: (34, .iload 4) :: (36, .if_icmp .ge 68) :: (39, .iload 5) :: (41, .aload 0) :: (42, .getfield 15) :: (45, .arraylength) :: (46, .if_icmp .ge 68) :: (49, .aload 0) :: (50, .getfield 15) :: (53, .iload 5) :: (55, .iaload) :: (56, .iload 2) :: (57, .if_icmp .ne 62) :: (60, .iconst 1) :: (61, .ireturn) :: cd_X5_contains_62
def cd_X5_contains_15 : List (Nat × Instr) := (15, .iload 1) :: (16, .iconst 3) :: (17, .imul) :: (18, .istore 3) :: (19, .iload 3) :: (20, .aload 0) :: (21, .getfield 9) :: (24, .iload 1) :: (25, .iaload) :: (26, .iadd) :: (27, .istore 4) :: (29, .iload 3) :: (30, .istore 5) :: cd_X5_contains_32
def cd_X5_contains_13 : List (Nat × Instr) := (13, .iconst 0) :: (14, .ireturn) :: cd_X5_contains_15
def cd_X5_contains_0 : List (Nat × Instr) := (0, .iload 1) :: (1, .ifCond .lt 13) :: (4, .iload 1) :: (5, .aload 0) :: (6, .getfield 9) :: (9, .arraylength) :: (10, .if_icmp .lt 15) :: cd_X5_contains_13
def cd_X5_contains : List (Nat × Instr) := cd_X5_contains_0
set_option maxRecDepth 100000 in
theorem at_X5_contains_68 : ev_at cd_X5_contains 68 = cd_X5_contains_68 := rfl
set_option maxRecDepth 100000 in
theorem at_X5_contains_62 : ev_at cd_X5_contains 62 = cd_X5_contains_62 := rfl
set_option maxRecDepth 100000 in
theorem at_X5_contains_32 : ev_at cd_X5_contains 32 = cd_X5_contains_32 := rfl
set_option maxRecDepth 100000 in
theorem at_X5_contains_15 : ev_at cd_X5_contains 15 = cd_X5_contains_15 := rfl
set_option maxRecDepth 100000 in
theorem at_X5_contains_13 : ev_at cd_X5_contains 13 = cd_X5_contains_13 := rfl
set_option maxRecDepth 100000 in
theorem at_X5_contains_0 : ev_at cd_X5_contains 0 = cd_X5_contains_0 := rfl
abbrev tb_X5_add : ev_Tb := (ev_lu fl_X5, ev_lu (ca_X5), ev_lu th_X5, ev_lu ko_X5, ev_lu kl_X5, 4, false)
def cd_X5_add_38 : List (Nat × Instr) := (38, .return_) :: []
def cd_X5_add_0 : List (Nat × Instr) := (0, .aload 0) :: (1, .getfield 9) :: (4, .iload 1) :: (5, .invokestatic 18) :: (8, .istore 3) :: (9, .iload 3) :: (10, .iconst 3) :: (11, .if_icmp .ge 38) :: (14, .aload 0) :: (15, .getfield 15) :: (18, .iload 1) :: (19, .iconst 3) :: (20, .imul) :: (21, .iload 3) :: (22, .iadd) :: (23, .iload 2) :: (24, .invokestatic 22) :: (27, .aload 0) :: (28, .getfield 9) :: (31, .iload 1) :: (32, .iload 3) :: (33, .iconst 1) :: (34, .iadd) :: (35, .invokestatic 22) :: cd_X5_add_38
def cd_X5_add : List (Nat × Instr) := cd_X5_add_0
set_option maxRecDepth 100000 in
theorem at_X5_add_38 : ev_at cd_X5_add 38 = cd_X5_add_38 := rfl
set_option maxRecDepth 100000 in
theorem at_X5_add_0 : ev_at cd_X5_add 0 = cd_X5_add_0 := rfl
abbrev tb_X5_remove : ev_Tb := (ev_lu fl_X5, ev_lu (ca_X5), ev_lu th_X5, ev_lu ko_X5, ev_lu kl_X5, 7, false)
def cd_X5_remove_60 : List (Nat × Instr) := (60, .aload 0) :: (61, .getfield 9) :: (64, .iload 1) :: (65, .iload 4) :: (67, .invokestatic 22) :: (70, .return_) :: []
def cd_X5_remove_54 : List (Nat × Instr) := (54, .iinc 5 1) :: (57, .goto 15) :: cd_X5_remove_60
def cd_X5_remove_15 : List (Nat × Instr) := (15, .iload 5) :: (17, .iload 3) :: (18, .if_icmp .ge 60) :: (21, .aload 0) :: (22, .iload 1) :: (23, .iload 5) :: (25, .invokevirtual 26) :: (28, .istore 6) :: (30, .iload 6) :: (32, .iload 2) :: (33, .if_icmp .eq 54) :: (36, .aload 0) :: (37, .getfield 15) :: (40, .iload 1) :: (41, .iconst 3) :: (42, .imul) :: (43, .iload 4) :: (45, .iadd) :: (46, .iload 6) :: (48, .invokestatic 22) :: (51, .iinc 4 1) :: cd_X5_remove_54
def cd_X5_remove_0 : List (Nat × Instr) := (0, .aload 0) :: (1, .getfield 9) :: (4, .iload 1) :: (5, .invokestatic 18) :: (8, .istore 3) :: (9, .iconst 0) :: (10, .istore 4) :: (12, .iconst 0) :: (13, .istore 5) :: cd_X5_remove_15
def cd_X5_remove : List (Nat × Instr) := cd_X5_remove_0
set_option maxRecDepth 100000 in
theorem at_X5_remove_60 : ev_at cd_X5_remove 60 = cd_X5_remove_60 := rfl
set_option maxRecDepth 100000 in
theorem at_X5_remove_54 : ev_at cd_X5_remove 54 = cd_X5_remove_54 := rfl
set_option maxRecDepth 100000 in
theorem at_X5_remove_15 : ev_at cd_X5_remove 15 = cd_X5_remove_15 := rfl
set_option maxRecDepth 100000 in
theorem at_X5_remove_0 : ev_at cd_X5_remove 0 = cd_X5_remove_0 := rfl
abbrev tb_X5_clear : ev_Tb := (ev_lu fl_X5, ev_lu (ca_X5), ev_lu th_X5, ev_lu ko_X5, ev_lu kl_X5, 1, false)
def cd_X5_clear_0 : List (Nat × Instr) := (0, .aload 0) :: (1, .getfield 9) :: (4, .iconst 0) :: (5, .invokestatic 30) :: (8, .return_) :: []
def cd_X5_clear : List (Nat × Instr) := cd_X5_clear_0
set_option maxRecDepth 100000 in
theorem at_X5_clear_0 : ev_at cd_X5_clear 0 = cd_X5_clear_0 := rfl
abbrev tb_X5_copyFrom : ev_Tb := (ev_lu fl_X5, ev_lu (ca_X5), ev_lu th_X5, ev_lu ko_X5, ev_lu kl_X5, 2, false)
def cd_X5_copyFrom_0 : List (Nat × Instr) := (0, .aload 1) :: (1, .getfield 9) :: (4, .aload 0) :: (5, .getfield 9) :: (8, .invokestatic 36) :: (11, .aload 1) :: (12, .getfield 15) :: (15, .aload 0) :: (16, .getfield 15) :: (19, .invokestatic 36) :: (22, .return_) :: []
def cd_X5_copyFrom : List (Nat × Instr) := cd_X5_copyFrom_0
set_option maxRecDepth 100000 in
theorem at_X5_copyFrom_0 : ev_at cd_X5_copyFrom 0 = cd_X5_copyFrom_0 := rfl
abbrev tb_X6_init : ev_Tb := (ev_lu fl_X6, ev_lu (ca_X6), ev_lu th_X6, ev_lu ko_X6, ev_lu kl_X6, 1, false)
def cd_X6_init_0 : List (Nat × Instr) := (0, .aload 0) :: (1, .invokespecial 3) :: (4, .aload 0) :: (5, .new 9) :: (8, .dup) :: (9, .bipush 16) :: (11, .bipush 10) :: (13, .invokespecial 11) :: (16, .putfield 14) :: (19, .return_) :: []
def cd_X6_init : List (Nat × Instr) := cd_X6_init_0
set_option maxRecDepth 100000 in
theorem at_X6_init_0 : ev_at cd_X6_init 0 = cd_X6_init_0 := rfl
abbrev tb_X6_clear : ev_Tb := (ev_lu fl_X6, ev_lu (ca_X6), ev_lu th_X6, ev_lu ko_X6, ev_lu kl_X6, 1, false)
def cd_X6_clear_0 : List (Nat × Instr) := (0, .aload 0) :: (1, .getfield 14) :: (4, .invokevirtual 20) :: (7, .aload 0) :: (8, .iconst 0) :: (9, .putfield 23) :: (12, .aload 0) :: (13, .iconst 0) :: (14, .putfield 27) :: (17, .aload 0) :: (18, .iconst 0) :: (19, .putfield 30) :: (22, .aload 0) :: (23, .iconst 0) :: (24, .putfield 33) :: (27, .return_) :: []
def cd_X6_clear : List (Nat × Instr) := cd_X6_clear_0
set_option maxRecDepth 100000 in
theorem at_X6_clear_0 : ev_at cd_X6_clear 0 = cd_X6_clear_0 := rfl
abbrev tb_X6_copyFrom : ev_Tb := (ev_lu fl_X6, ev_lu (ca_X6), ev_lu th_X6, ev_lu ko_X6, ev_lu kl_X6, 2, false)
def cd_X6_copyFrom_0 : List (Nat × Instr) := (0, .aload 0) :: (1, .getfield 14) :: (4, .aload 1) :: (5, .getfield 14) :: (8, .invokevirtual 36) :: (11, .aload 0) :: (12, .aload 1) :: (13, .getfield 23) :: (16, .putfield 23) :: (19, .aload 0) :: (20, .aload 1) :: (21, .getfield 27) :: (24, .putfield 27) :: (27, .aload 0) :: (28, .aload 1) :: (29, .getfield 30) :: (32, .putfield 30) :: (35, .aload 0) :: (36, .aload 1) :: (37, .getfield 33) :: (40, .putfield 33) :: (43, .return_) :: []
def cd_X6_copyFrom : List (Nat × Instr) := cd_X6_copyFrom_0
set_option maxRecDepth 100000 in
theorem at_X6_copyFrom_0 : ev_at cd_X6_copyFrom 0 = cd_X6_copyFrom_0 := rfl
abbrev tb_X6_given : ev_Tb := (ev_lu fl_X6, ev_lu (ca_X6), ev_lu th_X6, ev_lu ko_X6, ev_lu kl_X6, 3, false)
def cd_X6_given_0 : List (Nat × Instr) := (0, .aload 0) :: (1, .getfield 14) :: (4, .iload 1) :: (5, .iload 2) :: (6, .invokevirtual 40) :: (9, .ireturn) :: []
def cd_X6_given : List (Nat × Instr) := cd_X6_given_0
set_option maxRecDepth 100000 in
theorem at_X6_given_0 : ev_at cd_X6_given 0 = cd_X6_given_0 := rfl
abbrev tb_X6_put : ev_Tb := (ev_lu fl_X6, ev_lu (ca_X6), ev_lu th_X6, ev_lu ko_X6, ev_lu kl_X6, 6, false)
def cd_X6_put_76 : List (Nat × Instr) := (76, .return_) :: []
def cd_X6_put_61 : List (Nat × Instr) := (61, .iload 5) :: (63, .ifCond .le 76) :: (66, .aload 0) :: (67, .dup) :: (68, .getfield 23) :: (71, .iconst 1) :: (72, .iadd) :: (73, .putfield 23) :: cd_X6_put_76
def cd_X6_put_0 : List (Nat × Instr) := (0, .aload 0) :: (1, .getfield 14) :: (4, .iload 1) :: (5, .iload 2) :: (6, .invokevirtual 40) :: (9, .istore 4) :: (11, .aload 0) :: (12, .getfield 14) :: (15, .iload 1) :: (16, .iload 2) :: (17, .iload 3) :: (18, .invokevirtual 44) :: (21, .aload 0) :: (22, .getfield 14) :: (25, .iload 1) :: (26, .iload 2) :: (27, .invokevirtual 40) :: (30, .istore 5) :: (32, .aload 0) :: (33, .dup) :: (34, .getfield 27) :: (37, .iload 5) :: (39, .iload 4) :: (41, .isub) :: (42, .iadd) :: (43, .putfield 27) :: (46, .iload 4) :: (48, .ifCond .le 61) :: (51, .aload 0) :: (52, .dup) :: (53, .getfield 23) :: (56, .iconst 1) :: (57, .isub) :: (58, .putfield 23) :: cd_X6_put_61
def cd_X6_put : List (Nat × Instr) := cd_X6_put_0
set_option maxRecDepth 100000 in
theorem at_X6_put_76 : ev_at cd_X6_put 76 = cd_X6_put_76 := rfl
set_option maxRecDepth 100000 in
theorem at_X6_put_61 : ev_at cd_X6_put 61 = cd_X6_put_61 := rfl
set_option maxRecDepth 100000 in
theorem at_X6_put_0 : ev_at cd_X6_put 0 = cd_X6_put_0 := rfl
abbrev tb_X6_countFor : ev_Tb := (ev_lu fl_X6, ev_lu (ca_X6), ev_lu th_X6, ev_lu ko_X6, ev_lu kl_X6, 4, false)
def cd_X6_countFor_31 : List (Nat × Instr) := (31, .iload 2) :: (32, .ireturn) :: []
def cd_X6_countFor_25 : List (Nat × Instr) := (25, .iinc 3 1) :: (28, .goto 4) :: cd_X6_countFor_31
def cd_X6_countFor_4 : List (Nat × Instr) := (4, .iload 3) :: (5, .bipush 16) :: (7, .if_icmp .ge 31) :: (10, .aload 0) :: (11, .getfield 14) :: (14, .iload 3) :: (15, .iload 1) :: (16, .invokevirtual 40) :: (19, .ifCond .le 25) :: (22, .iinc 2 1) :: cd_X6_countFor_25
def cd_X6_countFor_0 : List (Nat × Instr) := (0, .iconst 0) :: (1, .istore 2) :: (2, .iconst 0) :: (3, .istore 3) :: cd_X6_countFor_4
def cd_X6_countFor : List (Nat × Instr) := cd_X6_countFor_0
set_option maxRecDepth 100000 in
theorem at_X6_countFor_31 : ev_at cd_X6_countFor 31 = cd_X6_countFor_31 := rfl
set_option maxRecDepth 100000 in
theorem at_X6_countFor_25 : ev_at cd_X6_countFor 25 = cd_X6_countFor_25 := rfl
set_option maxRecDepth 100000 in
theorem at_X6_countFor_4 : ev_at cd_X6_countFor 4 = cd_X6_countFor_4 := rfl
set_option maxRecDepth 100000 in
theorem at_X6_countFor_0 : ev_at cd_X6_countFor 0 = cd_X6_countFor_0 := rfl
abbrev tb_X6_mean : ev_Tb := (ev_lu fl_X6, ev_lu (ca_X6), ev_lu th_X6, ev_lu ko_X6, ev_lu kl_X6, 6, false)
def cd_X6_mean_59 : List (Nat × Instr) := (59, .ireturn) :: []
def cd_X6_mean_53 : List (Nat × Instr) := (53, .bipush 100) :: (55, .iload 2) :: (56, .imul) :: (57, .iload 3) :: (58, .idiv) :: cd_X6_mean_59
def cd_X6_mean_45 : List (Nat × Instr) := (45, .iload 3) :: (46, .ifCond .ne 53) :: (49, .iconst (-1)) :: (50, .goto 59) :: cd_X6_mean_53
def cd_X6_mean_39 : List (Nat × Instr) := (39, .iinc 4 1) :: (42, .goto 7) :: cd_X6_mean_45
def cd_X6_mean_7 : List (Nat × Instr) := (7, .iload 4) :: (9, .bipush 10) :: (11, .if_icmp .ge 45) :: (14, .aload 0) :: (15, .getfield 14) :: (18, .iload 1) :: (19, .iload 4) :: (21, .invokevirtual 40) :: (24, .istore 5) :: (26, .iload 5) :: (28, .ifCond .le 39) :: (31, .iload 2) :: (32, .iload 5) :: (34, .iadd) :: (35, .istore 2) :: (36, .iinc 3 1) :: cd_X6_mean_39
def cd_X6_mean_0 : List (Nat × Instr) := (0, .iconst 0) :: (1, .istore 2) :: (2, .iconst 0) :: (3, .istore 3) :: (4, .iconst 0) :: (5, .istore 4) :: cd_X6_mean_7
def cd_X6_mean : List (Nat × Instr) := cd_X6_mean_0
set_option maxRecDepth 100000 in
theorem at_X6_mean_59 : ev_at cd_X6_mean 59 = cd_X6_mean_59 := rfl
set_option maxRecDepth 100000 in
theorem at_X6_mean_53 : ev_at cd_X6_mean 53 = cd_X6_mean_53 := rfl
set_option maxRecDepth 100000 in
theorem at_X6_mean_45 : ev_at cd_X6_mean 45 = cd_X6_mean_45 := rfl
set_option maxRecDepth 100000 in
theorem at_X6_mean_39 : ev_at cd_X6_mean 39 = cd_X6_mean_39 := rfl
set_option maxRecDepth 100000 in
theorem at_X6_mean_7 : ev_at cd_X6_mean 7 = cd_X6_mean_7 := rfl
set_option maxRecDepth 100000 in
theorem at_X6_mean_0 : ev_at cd_X6_mean 0 = cd_X6_mean_0 := rfl
abbrev tb_X6_meanOfAll : ev_Tb := (ev_lu fl_X6, ev_lu (ca_X6), ev_lu th_X6, ev_lu ko_X6, ev_lu kl_X6, 1, false)
def cd_X6_meanOfAll_23 : List (Nat × Instr) := (23, .ireturn) :: []
def cd_X6_meanOfAll_11 : List (Nat × Instr) := (11, .bipush 100) :: (13, .aload 0) :: (14, .getfield 27) :: (17, .imul) :: (18, .aload 0) :: (19, .getfield 23) :: (22, .idiv) :: cd_X6_meanOfAll_23
def cd_X6_meanOfAll_0 : List (Nat × Instr) := (0, .aload 0) :: (1, .getfield 23) :: (4, .ifCond .ne 11) :: (7, .iconst 0) :: (8, .goto 23) :: cd_X6_meanOfAll_11
def cd_X6_meanOfAll : List (Nat × Instr) := cd_X6_meanOfAll_0
set_option maxRecDepth 100000 in
theorem at_X6_meanOfAll_23 : ev_at cd_X6_meanOfAll 23 = cd_X6_meanOfAll_23 := rfl
set_option maxRecDepth 100000 in
theorem at_X6_meanOfAll_11 : ev_at cd_X6_meanOfAll 11 = cd_X6_meanOfAll_11 := rfl
set_option maxRecDepth 100000 in
theorem at_X6_meanOfAll_0 : ev_at cd_X6_meanOfAll 0 = cd_X6_meanOfAll_0 := rfl
abbrev tb_X6_personWithLeastMean : ev_Tb := (ev_lu fl_X6, ev_lu (ca_X6), ev_lu th_X6, ev_lu ko_X6, ev_lu kl_X6, 5, false)
def cd_X6_personWithLeastMean_47 : List (Nat × Instr) := (47, .iload 1) :: (48, .ireturn) :: []
def cd_X6_personWithLeastMean_41 : List (Nat × Instr) := (41, .iinc 3 1) :: (44, .goto 6) :: cd_X6_personWithLeastMean_47
def cd_X6_personWithLeastMean_36 : List (Nat × Instr) := (36, .iload 3) :: (37, .istore 1) :: (38, .iload 4) :: (40, .istore 2) :: cd_X6_personWithLeastMean_41
def cd_X6_personWithLeastMean_6 : List (Nat × Instr) := (6, .iload 3) :: (7, .bipush 16) :: (9, .if_icmp .ge 47) :: (12, .aload 0) :: (13, .iload 3) :: (14, .invokevirtual 48) :: (17, .istore 4) :: (19, .iload 4) :: (21, .iconst (-1)) :: (22, .if_icmp .eq 41) :: (25, .iload 1) :: (26, .iconst (-1)) :: (27, .if_icmp .eq 36) :: (30, .iload 4) :: (32, .iload 2) :: (33, .if_icmp .ge 41) :: cd_X6_personWithLeastMean_36
def cd_X6_personWithLeastMean_0 : List (Nat × Instr) := (0, .iconst (-1)) :: (1, .istore 1) :: (2, .iconst 0) :: (3, .istore 2) :: (4, .iconst 0) :: (5, .istore 3) :: cd_X6_personWithLeastMean_6
def cd_X6_personWithLeastMean : List (Nat × Instr) := cd_X6_personWithLeastMean_0
set_option maxRecDepth 100000 in
theorem at_X6_personWithLeastMean_47 : ev_at cd_X6_personWithLeastMean 47 = cd_X6_personWithLeastMean_47 := rfl
set_option maxRecDepth 100000 in
theorem at_X6_personWithLeastMean_41 : ev_at cd_X6_personWithLeastMean 41 = cd_X6_personWithLeastMean_41 := rfl
set_option maxRecDepth 100000 in
theorem at_X6_personWithLeastMean_36 : ev_at cd_X6_personWithLeastMean 36 = cd_X6_personWithLeastMean_36 := rfl
set_option maxRecDepth 100000 in
theorem at_X6_personWithLeastMean_6 : ev_at cd_X6_personWithLeastMean 6 = cd_X6_personWithLeastMean_6 := rfl
set_option maxRecDepth 100000 in
theorem at_X6_personWithLeastMean_0 : ev_at cd_X6_personWithLeastMean 0 = cd_X6_personWithLeastMean_0 := rfl
abbrev tb_X6_adjusted : ev_Tb := (ev_lu fl_X6, ev_lu (ca_X6), ev_lu th_X6, ev_lu ko_X6, ev_lu kl_X6, 3, false)
def cd_X6_adjusted_0 : List (Nat × Instr) := (0, .bipush 100) :: (2, .aload 0) :: (3, .getfield 14) :: (6, .iload 1) :: (7, .iload 2) :: (8, .invokevirtual 40) :: (11, .imul) :: (12, .aload 0) :: (13, .iload 1) :: (14, .invokevirtual 48) :: (17, .isub) :: (18, .aload 0) :: (19, .invokevirtual 52) :: (22, .iadd) :: (23, .ireturn) :: []
def cd_X6_adjusted : List (Nat × Instr) := cd_X6_adjusted_0
set_option maxRecDepth 100000 in
theorem at_X6_adjusted_0 : ev_at cd_X6_adjusted 0 = cd_X6_adjusted_0 := rfl
abbrev tb_X6_total : ev_Tb := (ev_lu fl_X6, ev_lu (ca_X6), ev_lu th_X6, ev_lu ko_X6, ev_lu kl_X6, 5, false)
def cd_X6_total_57 : List (Nat × Instr) := (57, .ireturn) :: []
def cd_X6_total_54 : List (Nat × Instr) := (54, .iload 2) :: (55, .iload 3) :: (56, .idiv) :: cd_X6_total_57
def cd_X6_total_46 : List (Nat × Instr) := (46, .iload 3) :: (47, .ifCond .ne 54) :: (50, .iconst 0) :: (51, .goto 57) :: cd_X6_total_54
def cd_X6_total_40 : List (Nat × Instr) := (40, .iinc 4 1) :: (43, .goto 7) :: cd_X6_total_46
def cd_X6_total_7 : List (Nat × Instr) := (7, .iload 4) :: (9, .bipush 16) :: (11, .if_icmp .ge 46) :: (14, .aload 0) :: (15, .getfield 14) :: (18, .iload 4) :: (20, .iload 1) :: (21, .invokevirtual 40) :: (24, .ifCond .le 40) :: (27, .iload 2) :: (28, .aload 0) :: (29, .iload 4) :: (31, .iload 1) :: (32, .invokevirtual 56) :: (35, .iadd) :: (36, .istore 2) :: (37, .iinc 3 1) :: cd_X6_total_40
def cd_X6_total_0 : List (Nat × Instr) := (0, .iconst 0) :: (1, .istore 2) :: (2, .iconst 0) :: (3, .istore 3) :: (4, .iconst 0) :: (5, .istore 4) :: cd_X6_total_7
def cd_X6_total : List (Nat × Instr) := cd_X6_total_0
set_option maxRecDepth 100000 in
theorem at_X6_total_57 : ev_at cd_X6_total 57 = cd_X6_total_57 := rfl
set_option maxRecDepth 100000 in
theorem at_X6_total_54 : ev_at cd_X6_total 54 = cd_X6_total_54 := rfl
set_option maxRecDepth 100000 in
theorem at_X6_total_46 : ev_at cd_X6_total 46 = cd_X6_total_46 := rfl
set_option maxRecDepth 100000 in
theorem at_X6_total_40 : ev_at cd_X6_total 40 = cd_X6_total_40 := rfl
set_option maxRecDepth 100000 in
theorem at_X6_total_7 : ev_at cd_X6_total 7 = cd_X6_total_7 := rfl
set_option maxRecDepth 100000 in
theorem at_X6_total_0 : ev_at cd_X6_total 0 = cd_X6_total_0 := rfl
abbrev tb_X6_spread : ev_Tb := (ev_lu fl_X6, ev_lu (ca_X6), ev_lu th_X6, ev_lu ko_X6, ev_lu kl_X6, 7, false)
def cd_X6_spread_82 : List (Nat × Instr) := (82, .iload 4) :: (84, .iload 3) :: (85, .isub) :: (86, .ireturn) :: []
def cd_X6_spread_76 : List (Nat × Instr) := (76, .iinc 5 1) :: (79, .goto 10) :: cd_X6_spread_82
def cd_X6_spread_71 : List (Nat × Instr) := (71, .istore 4) :: (73, .iinc 2 1) :: cd_X6_spread_76
def cd_X6_spread_64 : List (Nat × Instr) := (64, .iload 4) :: (66, .iload 6) :: (68, .invokestatic 64) :: cd_X6_spread_71
def cd_X6_spread_54 : List (Nat × Instr) := (54, .istore 3) :: (55, .iload 2) :: (56, .ifCond .ne 64) :: (59, .iload 6) :: (61, .goto 71) :: cd_X6_spread_64
def cd_X6_spread_48 : List (Nat × Instr) := (48, .iload 3) :: (49, .iload 6) :: (51, .invokestatic 59) :: cd_X6_spread_54
def cd_X6_spread_10 : List (Nat × Instr) := (10, .iload 5) :: (12, .bipush 16) :: (14, .if_icmp .ge 82) :: (17, .aload 0) :: (18, .getfield 14) :: (21, .iload 5) :: (23, .iload 1) :: (24, .invokevirtual 40) :: (27, .ifCond .le 76) :: (30, .aload 0) :: (31, .iload 5) :: (33, .iload 1) :: (34, .invokevirtual 56) :: (37, .istore 6) :: (39, .iload 2) :: (40, .ifCond .ne 48) :: (43, .iload 6) :: (45, .goto 54) :: cd_X6_spread_48
def cd_X6_spread_0 : List (Nat × Instr) := (0, .iconst 0) :: (1, .istore 2) :: (2, .iconst 0) :: (3, .istore 3) :: (4, .iconst 0) :: (5, .istore 4) :: (7, .iconst 0) :: (8, .istore 5) :: cd_X6_spread_10
def cd_X6_spread : List (Nat × Instr) := cd_X6_spread_0
set_option maxRecDepth 100000 in
theorem at_X6_spread_82 : ev_at cd_X6_spread 82 = cd_X6_spread_82 := rfl
set_option maxRecDepth 100000 in
theorem at_X6_spread_76 : ev_at cd_X6_spread 76 = cd_X6_spread_76 := rfl
set_option maxRecDepth 100000 in
theorem at_X6_spread_71 : ev_at cd_X6_spread 71 = cd_X6_spread_71 := rfl
set_option maxRecDepth 100000 in
theorem at_X6_spread_64 : ev_at cd_X6_spread 64 = cd_X6_spread_64 := rfl
set_option maxRecDepth 100000 in
theorem at_X6_spread_54 : ev_at cd_X6_spread 54 = cd_X6_spread_54 := rfl
set_option maxRecDepth 100000 in
theorem at_X6_spread_48 : ev_at cd_X6_spread 48 = cd_X6_spread_48 := rfl
set_option maxRecDepth 100000 in
theorem at_X6_spread_10 : ev_at cd_X6_spread 10 = cd_X6_spread_10 := rfl
set_option maxRecDepth 100000 in
theorem at_X6_spread_0 : ev_at cd_X6_spread 0 = cd_X6_spread_0 := rfl
abbrev tb_X6_distanceFromTotals : ev_Tb := (ev_lu fl_X6, ev_lu (ca_X6), ev_lu th_X6, ev_lu ko_X6, ev_lu kl_X6, 4, false)
def cd_X6_distanceFromTotals_46 : List (Nat × Instr) := (46, .iload 2) :: (47, .ireturn) :: []
def cd_X6_distanceFromTotals_40 : List (Nat × Instr) := (40, .iinc 3 1) :: (43, .goto 4) :: cd_X6_distanceFromTotals_46
def cd_X6_distanceFromTotals_4 : List (Nat × Instr) := (4, .iload 3) :: (5, .bipush 10) :: (7, .if_icmp .ge 46) :: (10, .aload 0) :: (11, .getfield 14) :: (14, .iload 1) :: (15, .iload 3) :: (16, .invokevirtual 40) :: (19, .ifCond .le 40) :: (22, .iload 2) :: (23, .aload 0) :: (24, .iload 1) :: (25, .iload 3) :: (26, .invokevirtual 56) :: (29, .aload 0) :: (30, .iload 3) :: (31, .invokevirtual 67) :: (34, .isub) :: (35, .invokestatic 70) :: (38, .iadd) :: (39, .istore 2) :: cd_X6_distanceFromTotals_40
def cd_X6_distanceFromTotals_0 : List (Nat × Instr) := (0, .iconst 0) :: (1, .istore 2) :: (2, .iconst 0) :: (3, .istore 3) :: cd_X6_distanceFromTotals_4
def cd_X6_distanceFromTotals : List (Nat × Instr) := cd_X6_distanceFromTotals_0
set_option maxRecDepth 100000 in
theorem at_X6_distanceFromTotals_46 : ev_at cd_X6_distanceFromTotals 46 = cd_X6_distanceFromTotals_46 := rfl
set_option maxRecDepth 100000 in
theorem at_X6_distanceFromTotals_40 : ev_at cd_X6_distanceFromTotals 40 = cd_X6_distanceFromTotals_40 := rfl
set_option maxRecDepth 100000 in
theorem at_X6_distanceFromTotals_4 : ev_at cd_X6_distanceFromTotals 4 = cd_X6_distanceFromTotals_4 := rfl
set_option maxRecDepth 100000 in
theorem at_X6_distanceFromTotals_0 : ev_at cd_X6_distanceFromTotals 0 = cd_X6_distanceFromTotals_0 := rfl
abbrev tb_X6_rank : ev_Tb := (ev_lu fl_X6, ev_lu (ca_X6), ev_lu th_X6, ev_lu ko_X6, ev_lu kl_X6, 4, false)
def cd_X6_rank_33 : List (Nat × Instr) := (33, .iload 2) :: (34, .ireturn) :: []
def cd_X6_rank_27 : List (Nat × Instr) := (27, .iinc 3 1) :: (30, .goto 4) :: cd_X6_rank_33
def cd_X6_rank_4 : List (Nat × Instr) := (4, .iload 3) :: (5, .bipush 10) :: (7, .if_icmp .ge 33) :: (10, .iload 3) :: (11, .iload 1) :: (12, .if_icmp .eq 27) :: (15, .aload 0) :: (16, .iload 3) :: (17, .iload 1) :: (18, .invokevirtual 73) :: (21, .ifCond .eq 27) :: (24, .iinc 2 1) :: cd_X6_rank_27
def cd_X6_rank_0 : List (Nat × Instr) := (0, .iconst 0) :: (1, .istore 2) :: (2, .iconst 0) :: (3, .istore 3) :: cd_X6_rank_4
def cd_X6_rank : List (Nat × Instr) := cd_X6_rank_0
set_option maxRecDepth 100000 in
theorem at_X6_rank_33 : ev_at cd_X6_rank 33 = cd_X6_rank_33 := rfl
set_option maxRecDepth 100000 in
theorem at_X6_rank_27 : ev_at cd_X6_rank 27 = cd_X6_rank_27 := rfl
set_option maxRecDepth 100000 in
theorem at_X6_rank_4 : ev_at cd_X6_rank 4 = cd_X6_rank_4 := rfl
set_option maxRecDepth 100000 in
theorem at_X6_rank_0 : ev_at cd_X6_rank 0 = cd_X6_rank_0 := rfl
abbrev tb_X6_pancakeWithRank : ev_Tb := (ev_lu fl_X6, ev_lu (ca_X6), ev_lu th_X6, ev_lu ko_X6, ev_lu kl_X6, 3, false)
def cd_X6_pancakeWithRank_25 : List (Nat × Instr) := (25, .iconst (-1)) :: (26, .ireturn) :: []
def cd_X6_pancakeWithRank_19 : List (Nat × Instr) := (19, .iinc 2 1) :: (22, .goto 2) :: cd_X6_pancakeWithRank_25
def cd_X6_pancakeWithRank_2 : List (Nat × Instr) := (2, .iload 2) :: (3, .bipush 10) :: (5, .if_icmp .ge 25) :: (8, .aload 0) :: (9, .iload 2) :: (10, .invokevirtual 77) :: (13, .iload 1) :: (14, .if_icmp .ne 19) :: (17, .iload 2) :: (18, .ireturn) :: cd_X6_pancakeWithRank_19
def cd_X6_pancakeWithRank_0 : List (Nat × Instr) := (0, .iconst 0) :: (1, .istore 2) :: cd_X6_pancakeWithRank_2
def cd_X6_pancakeWithRank : List (Nat × Instr) := cd_X6_pancakeWithRank_0
set_option maxRecDepth 100000 in
theorem at_X6_pancakeWithRank_25 : ev_at cd_X6_pancakeWithRank 25 = cd_X6_pancakeWithRank_25 := rfl
set_option maxRecDepth 100000 in
theorem at_X6_pancakeWithRank_19 : ev_at cd_X6_pancakeWithRank 19 = cd_X6_pancakeWithRank_19 := rfl
set_option maxRecDepth 100000 in
theorem at_X6_pancakeWithRank_2 : ev_at cd_X6_pancakeWithRank 2 = cd_X6_pancakeWithRank_2 := rfl
set_option maxRecDepth 100000 in
theorem at_X6_pancakeWithRank_0 : ev_at cd_X6_pancakeWithRank 0 = cd_X6_pancakeWithRank_0 := rfl
abbrev tb_X6_comesBefore : ev_Tb := (ev_lu fl_X6, ev_lu (ca_X6), ev_lu th_X6, ev_lu ko_X6, ev_lu kl_X6, 6, true)
def cd_X6_comesBefore_70 : List (Nat × Instr) := (70, .ireturn) :: []
def cd_X6_comesBefore_69 : List (Nat × Instr) := (69, .iconst 0) :: cd_X6_comesBefore_70
def cd_X6_comesBefore_65 : List (Nat × Instr) := (65, .iconst 1) :: (66, .goto 70) :: cd_X6_comesBefore_69
def cd_X6_comesBefore_37 : List (Nat × Instr) := (37, .aload 0) :: (38, .iload 1) :: (39, .invokevirtual 67) :: (42, .aload 0) :: (43, .iload 2) :: (44, .invokevirtual 67) :: (47, .isub) :: (48, .istore 5) :: (50, .iload 5) :: (52, .ifCond .gt 65) :: (55, .iload 5) :: (57, .ifCond .ne 69) :: (60, .iload 1) :: (61, .iload 2) :: (62, .if_icmp .ge 69) :: cd_X6_comesBefore_65
def cd_X6_comesBefore_27 : List (Nat × Instr) := (27, .istore 4) :: (29, .iload 3) :: (30, .iload 4) :: (32, .if_icmp .eq 37) :: (35, .iload 3) :: (36, .ireturn) :: cd_X6_comesBefore_37
def cd_X6_comesBefore_26 : List (Nat × Instr) := (26, .iconst 0) :: cd_X6_comesBefore_27
def cd_X6_comesBefore_13 : List (Nat × Instr) := (13, .istore 3) :: (14, .aload 0) :: (15, .iload 2) :: (16, .invokevirtual 80) :: (19, .ifCond .le 26) :: (22, .iconst 1) :: (23, .goto 27) :: cd_X6_comesBefore_26
def cd_X6_comesBefore_12 : List (Nat × Instr) := (12, .iconst 0) :: cd_X6_comesBefore_13
def cd_X6_comesBefore_0 : List (Nat × Instr) := (0, .aload 0) :: (1, .iload 1) :: (2, .invokevirtual 80) :: (5, .ifCond .le 12) :: (8, .iconst 1) :: (9, .goto 13) :: cd_X6_comesBefore_12
def cd_X6_comesBefore : List (Nat × Instr) := cd_X6_comesBefore_0
set_option maxRecDepth 100000 in
theorem at_X6_comesBefore_70 : ev_at cd_X6_comesBefore 70 = cd_X6_comesBefore_70 := rfl
set_option maxRecDepth 100000 in
theorem at_X6_comesBefore_69 : ev_at cd_X6_comesBefore 69 = cd_X6_comesBefore_69 := rfl
set_option maxRecDepth 100000 in
theorem at_X6_comesBefore_65 : ev_at cd_X6_comesBefore 65 = cd_X6_comesBefore_65 := rfl
set_option maxRecDepth 100000 in
theorem at_X6_comesBefore_37 : ev_at cd_X6_comesBefore 37 = cd_X6_comesBefore_37 := rfl
set_option maxRecDepth 100000 in
theorem at_X6_comesBefore_27 : ev_at cd_X6_comesBefore 27 = cd_X6_comesBefore_27 := rfl
set_option maxRecDepth 100000 in
theorem at_X6_comesBefore_26 : ev_at cd_X6_comesBefore 26 = cd_X6_comesBefore_26 := rfl
set_option maxRecDepth 100000 in
theorem at_X6_comesBefore_13 : ev_at cd_X6_comesBefore 13 = cd_X6_comesBefore_13 := rfl
set_option maxRecDepth 100000 in
theorem at_X6_comesBefore_12 : ev_at cd_X6_comesBefore 12 = cd_X6_comesBefore_12 := rfl
set_option maxRecDepth 100000 in
theorem at_X6_comesBefore_0 : ev_at cd_X6_comesBefore 0 = cd_X6_comesBefore_0 := rfl
abbrev tb_X6_canBeTalkedOver : ev_Tb := (ev_lu fl_X6, ev_lu (ca_X6), ev_lu th_X6, ev_lu ko_X6, ev_lu kl_X6, 2, true)
def cd_X6_canBeTalkedOver_14 : List (Nat × Instr) := (14, .ireturn) :: []
def cd_X6_canBeTalkedOver_13 : List (Nat × Instr) := (13, .iconst 0) :: cd_X6_canBeTalkedOver_14
def cd_X6_canBeTalkedOver_0 : List (Nat × Instr) := (0, .aload 0) :: (1, .iload 1) :: (2, .invokevirtual 80) :: (5, .iconst 2) :: (6, .if_icmp .lt 13) :: (9, .iconst 1) :: (10, .goto 14) :: cd_X6_canBeTalkedOver_13
def cd_X6_canBeTalkedOver : List (Nat × Instr) := cd_X6_canBeTalkedOver_0
set_option maxRecDepth 100000 in
theorem at_X6_canBeTalkedOver_14 : ev_at cd_X6_canBeTalkedOver 14 = cd_X6_canBeTalkedOver_14 := rfl
set_option maxRecDepth 100000 in
theorem at_X6_canBeTalkedOver_13 : ev_at cd_X6_canBeTalkedOver 13 = cd_X6_canBeTalkedOver_13 := rfl
set_option maxRecDepth 100000 in
theorem at_X6_canBeTalkedOver_0 : ev_at cd_X6_canBeTalkedOver 0 = cd_X6_canBeTalkedOver_0 := rfl
abbrev tb_X6_middle : ev_Tb := (ev_lu fl_X6, ev_lu (ca_X6), ev_lu th_X6, ev_lu ko_X6, ev_lu kl_X6, 8, false)
def cd_X6_middle_87 : List (Nat × Instr) := (87, .ireturn) :: []
def cd_X6_middle_80 : List (Nat × Instr) := (80, .iload 3) :: (81, .iload 4) :: (83, .isub) :: (84, .iload 5) :: (86, .isub) :: cd_X6_middle_87
def cd_X6_middle_70 : List (Nat × Instr) := (70, .iload 2) :: (71, .iconst 3) :: (72, .if_icmp .ge 80) :: (75, .iload 4) :: (77, .goto 87) :: cd_X6_middle_80
def cd_X6_middle_64 : List (Nat × Instr) := (64, .iinc 6 1) :: (67, .goto 14) :: cd_X6_middle_70
def cd_X6_middle_14 : List (Nat × Instr) := (14, .iload 6) :: (16, .bipush 16) :: (18, .if_icmp .ge 70) :: (21, .aload 0) :: (22, .getfield 14) :: (25, .iload 6) :: (27, .iload 1) :: (28, .invokevirtual 40) :: (31, .istore 7) :: (33, .iload 7) :: (35, .ifCond .le 64) :: (38, .iinc 2 1) :: (41, .iload 3) :: (42, .iload 7) :: (44, .iadd) :: (45, .istore 3) :: (46, .iload 4) :: (48, .iload 7) :: (50, .invokestatic 59) :: (53, .istore 4) :: (55, .iload 5) :: (57, .iload 7) :: (59, .invokestatic 64) :: (62, .istore 5) :: cd_X6_middle_64
def cd_X6_middle_0 : List (Nat × Instr) := (0, .iconst 0) :: (1, .istore 2) :: (2, .iconst 0) :: (3, .istore 3) :: (4, .bipush 9) :: (6, .istore 4) :: (8, .iconst 0) :: (9, .istore 5) :: (11, .iconst 0) :: (12, .istore 6) :: cd_X6_middle_14
def cd_X6_middle : List (Nat × Instr) := cd_X6_middle_0
set_option maxRecDepth 100000 in
theorem at_X6_middle_87 : ev_at cd_X6_middle 87 = cd_X6_middle_87 := rfl
set_option maxRecDepth 100000 in
theorem at_X6_middle_80 : ev_at cd_X6_middle 80 = cd_X6_middle_80 := rfl
set_option maxRecDepth 100000 in
theorem at_X6_middle_70 : ev_at cd_X6_middle 70 = cd_X6_middle_70 := rfl
set_option maxRecDepth 100000 in
theorem at_X6_middle_64 : ev_at cd_X6_middle 64 = cd_X6_middle_64 := rfl
set_option maxRecDepth 100000 in
theorem at_X6_middle_14 : ev_at cd_X6_middle 14 = cd_X6_middle_14 := rfl
set_option maxRecDepth 100000 in
theorem at_X6_middle_0 : ev_at cd_X6_middle 0 = cd_X6_middle_0 := rfl
abbrev tb_X6_holdTalk : ev_Tb := (ev_lu fl_X6, ev_lu (ca_X6), ev_lu th_X6, ev_lu ko_X6, ev_lu kl_X6, 6, false)
def cd_X6_holdTalk_79 : List (Nat × Instr) := (79, .aload 0) :: (80, .dup) :: (81, .getfield 30) :: (84, .iconst 1) :: (85, .iadd) :: (86, .putfield 30) :: (89, .aload 0) :: (90, .dup) :: (91, .getfield 33) :: (94, .iload 3) :: (95, .iadd) :: (96, .putfield 33) :: (99, .iload 3) :: (100, .ireturn) :: []
def cd_X6_holdTalk_73 : List (Nat × Instr) := (73, .iinc 4 1) :: (76, .goto 11) :: cd_X6_holdTalk_79
def cd_X6_holdTalk_67 : List (Nat × Instr) := (67, .invokevirtual 86) :: (70, .iinc 3 1) :: cd_X6_holdTalk_73
def cd_X6_holdTalk_63 : List (Nat × Instr) := (63, .iload 5) :: (65, .iconst 1) :: (66, .iadd) :: cd_X6_holdTalk_67
def cd_X6_holdTalk_11 : List (Nat × Instr) := (11, .iload 4) :: (13, .bipush 16) :: (15, .if_icmp .ge 79) :: (18, .aload 0) :: (19, .getfield 14) :: (22, .iload 4) :: (24, .iload 1) :: (25, .invokevirtual 40) :: (28, .istore 5) :: (30, .iload 5) :: (32, .ifCond .le 73) :: (35, .iload 5) :: (37, .iload 2) :: (38, .isub) :: (39, .invokestatic 70) :: (42, .iconst 1) :: (43, .if_icmp .le 73) :: (46, .aload 0) :: (47, .iload 4) :: (49, .iload 1) :: (50, .iload 5) :: (52, .iload 2) :: (53, .if_icmp .le 63) :: (56, .iload 5) :: (58, .iconst 1) :: (59, .isub) :: (60, .goto 67) :: cd_X6_holdTalk_63
def cd_X6_holdTalk_0 : List (Nat × Instr) := (0, .aload 0) :: (1, .iload 1) :: (2, .invokevirtual 83) :: (5, .istore 2) :: (6, .iconst 0) :: (7, .istore 3) :: (8, .iconst 0) :: (9, .istore 4) :: cd_X6_holdTalk_11
def cd_X6_holdTalk : List (Nat × Instr) := cd_X6_holdTalk_0
set_option maxRecDepth 100000 in
theorem at_X6_holdTalk_79 : ev_at cd_X6_holdTalk 79 = cd_X6_holdTalk_79 := rfl
set_option maxRecDepth 100000 in
theorem at_X6_holdTalk_73 : ev_at cd_X6_holdTalk 73 = cd_X6_holdTalk_73 := rfl
set_option maxRecDepth 100000 in
theorem at_X6_holdTalk_67 : ev_at cd_X6_holdTalk 67 = cd_X6_holdTalk_67 := rfl
set_option maxRecDepth 100000 in
theorem at_X6_holdTalk_63 : ev_at cd_X6_holdTalk 63 = cd_X6_holdTalk_63 := rfl
set_option maxRecDepth 100000 in
theorem at_X6_holdTalk_11 : ev_at cd_X6_holdTalk 11 = cd_X6_holdTalk_11 := rfl
set_option maxRecDepth 100000 in
theorem at_X6_holdTalk_0 : ev_at cd_X6_holdTalk 0 = cd_X6_holdTalk_0 := rfl
abbrev tb_X6_makeEven : ev_Tb := (ev_lu fl_X6, ev_lu (ca_X6), ev_lu th_X6, ev_lu ko_X6, ev_lu kl_X6, 4, false)
def cd_X6_makeEven_39 : List (Nat × Instr) := (39, .return_) :: []
def cd_X6_makeEven_33 : List (Nat × Instr) := (33, .iinc 3 1) :: (36, .goto 8) :: cd_X6_makeEven_39
def cd_X6_makeEven_8 : List (Nat × Instr) := (8, .iload 3) :: (9, .bipush 16) :: (11, .if_icmp .ge 39) :: (14, .aload 0) :: (15, .getfield 14) :: (18, .iload 3) :: (19, .iload 1) :: (20, .invokevirtual 40) :: (23, .ifCond .le 33) :: (26, .aload 0) :: (27, .iload 3) :: (28, .iload 1) :: (29, .iload 2) :: (30, .invokevirtual 86) :: cd_X6_makeEven_33
def cd_X6_makeEven_0 : List (Nat × Instr) := (0, .aload 0) :: (1, .iload 1) :: (2, .invokevirtual 83) :: (5, .istore 2) :: (6, .iconst 0) :: (7, .istore 3) :: cd_X6_makeEven_8
def cd_X6_makeEven : List (Nat × Instr) := cd_X6_makeEven_0
set_option maxRecDepth 100000 in
theorem at_X6_makeEven_39 : ev_at cd_X6_makeEven 39 = cd_X6_makeEven_39 := rfl
set_option maxRecDepth 100000 in
theorem at_X6_makeEven_33 : ev_at cd_X6_makeEven 33 = cd_X6_makeEven_33 := rfl
set_option maxRecDepth 100000 in
theorem at_X6_makeEven_8 : ev_at cd_X6_makeEven 8 = cd_X6_makeEven_8 := rfl
set_option maxRecDepth 100000 in
theorem at_X6_makeEven_0 : ev_at cd_X6_makeEven 0 = cd_X6_makeEven_0 := rfl
abbrev tb_X7_init : ev_Tb := (ev_lu fl_X7, ev_lu (ca_X7), ev_lu th_X7, ev_lu ko_X7, ev_lu kl_X7, 1, false)
def cd_X7_init_0 : List (Nat × Instr) := (0, .aload 0) :: (1, .invokespecial 3) :: (4, .aload 0) :: (5, .new 9) :: (8, .dup) :: (9, .invokespecial 11) :: (12, .putfield 12) :: (15, .aload 0) :: (16, .iconst (-1)) :: (17, .putfield 18) :: (20, .aload 0) :: (21, .new 22) :: (24, .dup) :: (25, .invokespecial 24) :: (28, .putfield 25) :: (31, .aload 0) :: (32, .iconst 2) :: (33, .newarray .int) :: (35, .putfield 29) :: (38, .aload 0) :: (39, .iconst 2) :: (40, .newarray .int) :: (42, .putfield 33) :: (45, .return_) :: []
def cd_X7_init : List (Nat × Instr) := cd_X7_init_0
set_option maxRecDepth 100000 in
theorem at_X7_init_0 : ev_at cd_X7_init 0 = cd_X7_init_0 := rfl
abbrev tb_X7_parse : ev_Tb := (ev_lu fl_X7, ev_lu (ca_X7), ev_lu th_X7, ev_lu ko_X7, ev_lu kl_X7, 6, true)
def cd_X7_parse_155 : List (Nat × Instr) := (155, .iconst 0) :: (156, .ireturn) :: []
def cd_X7_parse_149 : List (Nat × Instr) := (149, .iinc 4 1) :: (152, .goto 45) :: cd_X7_parse_155
def cd_X7_parse_140 : List (Nat × Instr) := (140, .aload 0) :: (141, .iconst 1) :: (142, .aload 0) :: (143, .getfield 49) :: (146, .invokevirtual 67) :: cd_X7_parse_149
def cd_X7_parse_126 : List (Nat × Instr) := (126, .iload 5) :: (128, .ifCond .ne 140) :: (131, .aload 0) :: (132, .getfield 46) :: (135, .ifCond .ne 140) :: (138, .iconst 1) :: (139, .ireturn) :: cd_X7_parse_140
def cd_X7_parse_105 : List (Nat × Instr) := (105, .iload 5) :: (107, .iconst 5) :: (108, .if_icmp .ne 126) :: (111, .aload 0) :: (112, .getfield 46) :: (115, .ifCond .le 126) :: (118, .aload 0) :: (119, .invokevirtual 64) :: (122, .istore 3) :: (123, .goto 149) :: cd_X7_parse_126
def cd_X7_parse_84 : List (Nat × Instr) := (84, .iload 5) :: (86, .iconst 3) :: (87, .if_icmp .ne 105) :: (90, .aload 0) :: (91, .dup) :: (92, .getfield 49) :: (95, .iconst 1) :: (96, .iadd) :: (97, .putfield 49) :: (100, .iconst 1) :: (101, .istore 3) :: (102, .goto 149) :: cd_X7_parse_105
def cd_X7_parse_45 : List (Nat × Instr) := (45, .iload 4) :: (47, .ldc 55) :: (49, .if_icmp .ge 155) :: (52, .aload 0) :: (53, .getfield 43) :: (56, .ifCond .ne 155) :: (59, .aload 0) :: (60, .getfield 25) :: (63, .aload 0) :: (64, .getfield 49) :: (67, .invokevirtual 56) :: (70, .istore 5) :: (72, .iload 3) :: (73, .ifCond .eq 84) :: (76, .aload 0) :: (77, .invokevirtual 60) :: (80, .istore 3) :: (81, .goto 149) :: cd_X7_parse_84
def cd_X7_parse_0 : List (Nat × Instr) := (0, .aload 0) :: (1, .getfield 12) :: (4, .invokevirtual 36) :: (7, .aload 0) :: (8, .getfield 25) :: (11, .aload 1) :: (12, .iload 2) :: (13, .invokevirtual 39) :: (16, .aload 0) :: (17, .iconst 0) :: (18, .putfield 43) :: (21, .aload 0) :: (22, .iconst (-1)) :: (23, .putfield 18) :: (26, .aload 0) :: (27, .iconst 0) :: (28, .putfield 46) :: (31, .aload 0) :: (32, .iconst 0) :: (33, .putfield 49) :: (36, .aload 0) :: (37, .invokevirtual 52) :: (40, .iconst 0) :: (41, .istore 3) :: (42, .iconst 0) :: (43, .istore 4) :: cd_X7_parse_45
def cd_X7_parse : List (Nat × Instr) := cd_X7_parse_0
set_option maxRecDepth 100000 in
theorem at_X7_parse_155 : ev_at cd_X7_parse 155 = cd_X7_parse_155 := rfl
set_option maxRecDepth 100000 in
theorem at_X7_parse_149 : ev_at cd_X7_parse 149 = cd_X7_parse_149 := rfl
set_option maxRecDepth 100000 in
theorem at_X7_parse_140 : ev_at cd_X7_parse 140 = cd_X7_parse_140 := rfl
set_option maxRecDepth 100000 in
theorem at_X7_parse_126 : ev_at cd_X7_parse 126 = cd_X7_parse_126 := rfl
set_option maxRecDepth 100000 in
theorem at_X7_parse_105 : ev_at cd_X7_parse 105 = cd_X7_parse_105 := rfl
set_option maxRecDepth 100000 in
theorem at_X7_parse_84 : ev_at cd_X7_parse 84 = cd_X7_parse_84 := rfl
set_option maxRecDepth 100000 in
theorem at_X7_parse_45 : ev_at cd_X7_parse 45 = cd_X7_parse_45 := rfl
set_option maxRecDepth 100000 in
theorem at_X7_parse_0 : ev_at cd_X7_parse 0 = cd_X7_parse_0 := rfl
abbrev tb_X7_readHead : ev_Tb := (ev_lu fl_X7, ev_lu (ca_X7), ev_lu th_X7, ev_lu ko_X7, ev_lu kl_X7, 1, false)
def cd_X7_readHead_19 : List (Nat × Instr) := (19, .aload 0) :: (20, .dup) :: (21, .getfield 49) :: (24, .iconst 1) :: (25, .iadd) :: (26, .putfield 49) :: (29, .aload 0) :: (30, .getfield 12) :: (33, .aload 0) :: (34, .iconst 0) :: (35, .sipush 900) :: (38, .invokevirtual 81) :: (41, .putfield 85) :: (44, .aload 0) :: (45, .getfield 12) :: (48, .aload 0) :: (49, .iconst 0) :: (50, .bipush 10) :: (52, .invokevirtual 81) :: (55, .putfield 88) :: (58, .return_) :: []
def cd_X7_readHead_0 : List (Nat × Instr) := (0, .aload 0) :: (1, .invokevirtual 71) :: (4, .getstatic 75) :: (7, .if_acmp .eq 19) :: (10, .aload 0) :: (11, .iconst 1) :: (12, .aload 0) :: (13, .getfield 49) :: (16, .invokevirtual 67) :: cd_X7_readHead_19
def cd_X7_readHead : List (Nat × Instr) := cd_X7_readHead_0
set_option maxRecDepth 100000 in
theorem at_X7_readHead_19 : ev_at cd_X7_readHead 19 = cd_X7_readHead_19 := rfl
set_option maxRecDepth 100000 in
theorem at_X7_readHead_0 : ev_at cd_X7_readHead 0 = cd_X7_readHead_0 := rfl
abbrev tb_X7_readItem : ev_Tb := (ev_lu fl_X7, ev_lu (ca_X7), ev_lu th_X7, ev_lu ko_X7, ev_lu kl_X7, 2, true)
def cd_X7_readItem_267 : List (Nat × Instr) := (267, .iconst 0) :: (268, .ireturn) :: []
def cd_X7_readItem_24 : List (Nat × Instr) := (24, .aload 0) :: (25, .dup) :: (26, .getfield 49) :: (29, .iconst 1) :: (30, .iadd) :: (31, .putfield 49) :: (34, .getstatic 95) :: (37, .aload 1) :: (38, .invokevirtual 100) :: (41, .iaload) :: (42, .tableswitch 214 1 18 #[86, 93, 100, 107, 114, 121, 128, 135, 146, 153, 160, 167, 174, 181, 188, 195, 202, 209]) :: (128, .aload 0) :: (129, .invokevirtual 104) :: (132, .goto 267) :: (135, .aload 0) :: (136, .invokevirtual 107) :: (139, .goto 267) :: (142, .aload 0) :: (143, .invokevirtual 110) :: (146, .goto 267) :: (149, .aload 0) :: (150, .invokevirtual 113) :: (153, .goto 267) :: (156, .aload 0) :: (157, .invokevirtual 116) :: (160, .goto 267) :: (163, .aload 0) :: (164, .invokevirtual 119) :: (167, .goto 267) :: (170, .aload 0) :: (171, .invokevirtual 122) :: (174, .goto 267) :: (177, .aload 0) :: (178, .getfield 12) :: (181, .invokevirtual 125) :: (184, .pop) :: (185, .goto 267) :: (188, .aload 0) :: (189, .invokevirtual 128) :: (192, .goto 267) :: (195, .aload 0) :: (196, .invokevirtual 131) :: (199, .goto 267) :: (202, .aload 0) :: (203, .invokevirtual 134) :: (206, .goto 267) :: (209, .aload 0) :: (210, .invokevirtual 137) :: (213, .goto 267) :: (216, .aload 0) :: (217, .invokevirtual 140) :: (220, .goto 267) :: (223, .aload 0) :: (224, .invokevirtual 143) :: (227, .goto 267) :: (230, .aload 0) :: (231, .invokevirtual 146) :: (234, .goto 267) :: (237, .aload 0) :: (238, .invokevirtual 149) :: (241, .goto 267) :: (244, .aload 0) :: (245, .invokevirtual 152) :: (248, .goto 267) :: (251, .aload 0) :: (252, .invokevirtual 155) :: (255, .ireturn) :: (256, .aload 0) :: (257, .iconst 1) :: (258, .aload 0) :: (259, .getfield 49) :: (262, .iconst 1) :: (263, .isub) :: (264, .invokevirtual 67) :: cd_X7_readItem_267
def cd_X7_readItem_0 : List (Nat × Instr) := (0, .aload 0) :: (1, .invokevirtual 71) :: (4, .astore 1) :: (5, .aload 0) :: (6, .aload 1) :: (7, .invokevirtual 91) :: (10, .ifCond .eq 24) :: (13, .aload 0) :: (14, .iconst 4) :: (15, .aload 0) :: (16, .getfield 49) :: (19, .invokevirtual 67) :: (22, .iconst 0) :: (23, .ireturn) :: cd_X7_readItem_24
def cd_X7_readItem : List (Nat × Instr) := cd_X7_readItem_0
set_option maxRecDepth 100000 in
theorem at_X7_readItem_267 : ev_at cd_X7_readItem 267 = cd_X7_readItem_267 := rfl
set_option maxRecDepth 100000 in
theorem at_X7_readItem_24 : ev_at cd_X7_readItem 24 = cd_X7_readItem_24 := rfl
set_option maxRecDepth 100000 in
theorem at_X7_readItem_0 : ev_at cd_X7_readItem 0 = cd_X7_readItem_0 := rfl
abbrev tb_X7_keyword : ev_Tb := (ev_lu fl_X7, ev_lu (ca_X7), ev_lu th_X7, ev_lu ko_X7, ev_lu kl_X7, 2, false)
def cd_X7_keyword_60 : List (Nat × Instr) := (60, .getstatic 170) :: (63, .areturn) :: []
def cd_X7_keyword_54 : List (Nat × Instr) := (54, .iinc 1 1) :: (57, .goto 17) :: cd_X7_keyword_60
def cd_X7_keyword_17 : List (Nat × Instr) := (17, .iload 1) :: (18, .getstatic 158) :: (21, .arraylength) :: (22, .if_icmp .ge 60) :: (25, .getstatic 158) :: (28, .iload 1) :: (29, .aaload) :: (30, .getfield 162) :: (33, .aload 0) :: (34, .getfield 25) :: (37, .aload 0) :: (38, .getfield 49) :: (41, .invokevirtual 166) :: (44, .lcmp) :: (45, .ifCond .ne 54) :: (48, .getstatic 158) :: (51, .iload 1) :: (52, .aaload) :: (53, .areturn) :: cd_X7_keyword_54
def cd_X7_keyword_0 : List (Nat × Instr) := (0, .aload 0) :: (1, .getfield 25) :: (4, .aload 0) :: (5, .getfield 49) :: (8, .invokevirtual 56) :: (11, .iconst 1) :: (12, .if_icmp .ne 60) :: (15, .iconst 0) :: (16, .istore 1) :: cd_X7_keyword_17
def cd_X7_keyword : List (Nat × Instr) := cd_X7_keyword_0
set_option maxRecDepth 100000 in
theorem at_X7_keyword_60 : ev_at cd_X7_keyword 60 = cd_X7_keyword_60 := rfl
set_option maxRecDepth 100000 in
theorem at_X7_keyword_54 : ev_at cd_X7_keyword 54 = cd_X7_keyword_54 := rfl
set_option maxRecDepth 100000 in
theorem at_X7_keyword_17 : ev_at cd_X7_keyword 17 = cd_X7_keyword_17 := rfl
set_option maxRecDepth 100000 in
theorem at_X7_keyword_0 : ev_at cd_X7_keyword 0 = cd_X7_keyword_0 := rfl
abbrev tb_X7_isOneTooMany : ev_Tb := (ev_lu fl_X7, ev_lu (ca_X7), ev_lu th_X7, ev_lu ko_X7, ev_lu kl_X7, 2, true)
def cd_X7_isOneTooMany_58 : List (Nat × Instr) := (58, .ireturn) :: []
def cd_X7_isOneTooMany_57 : List (Nat × Instr) := (57, .iconst 0) :: cd_X7_isOneTooMany_58
def cd_X7_isOneTooMany_53 : List (Nat × Instr) := (53, .iconst 1) :: (54, .goto 58) :: cd_X7_isOneTooMany_57
def cd_X7_isOneTooMany_38 : List (Nat × Instr) := (38, .aload 1) :: (39, .getstatic 185) :: (42, .if_acmp .ne 57) :: (45, .aload 0) :: (46, .getfield 46) :: (49, .iconst 2) :: (50, .if_icmp .lt 57) :: cd_X7_isOneTooMany_53
def cd_X7_isOneTooMany_19 : List (Nat × Instr) := (19, .aload 1) :: (20, .getstatic 179) :: (23, .if_acmp .ne 38) :: (26, .aload 0) :: (27, .getfield 12) :: (30, .getfield 182) :: (33, .bipush 10) :: (35, .if_icmp .ge 53) :: cd_X7_isOneTooMany_38
def cd_X7_isOneTooMany_0 : List (Nat × Instr) := (0, .aload 1) :: (1, .getstatic 173) :: (4, .if_acmp .ne 19) :: (7, .aload 0) :: (8, .getfield 12) :: (11, .getfield 176) :: (14, .bipush 16) :: (16, .if_icmp .ge 53) :: cd_X7_isOneTooMany_19
def cd_X7_isOneTooMany : List (Nat × Instr) := cd_X7_isOneTooMany_0
set_option maxRecDepth 100000 in
theorem at_X7_isOneTooMany_58 : ev_at cd_X7_isOneTooMany 58 = cd_X7_isOneTooMany_58 := rfl
set_option maxRecDepth 100000 in
theorem at_X7_isOneTooMany_57 : ev_at cd_X7_isOneTooMany 57 = cd_X7_isOneTooMany_57 := rfl
set_option maxRecDepth 100000 in
theorem at_X7_isOneTooMany_53 : ev_at cd_X7_isOneTooMany 53 = cd_X7_isOneTooMany_53 := rfl
set_option maxRecDepth 100000 in
theorem at_X7_isOneTooMany_38 : ev_at cd_X7_isOneTooMany 38 = cd_X7_isOneTooMany_38 := rfl
set_option maxRecDepth 100000 in
theorem at_X7_isOneTooMany_19 : ev_at cd_X7_isOneTooMany 19 = cd_X7_isOneTooMany_19 := rfl
set_option maxRecDepth 100000 in
theorem at_X7_isOneTooMany_0 : ev_at cd_X7_isOneTooMany 0 = cd_X7_isOneTooMany_0 := rfl
abbrev tb_X7_readPerson : ev_Tb := (ev_lu fl_X7, ev_lu (ca_X7), ev_lu th_X7, ev_lu ko_X7, ev_lu kl_X7, 4, false)
def cd_X7_readPerson_71 : List (Nat × Instr) := (71, .return_) :: []
def cd_X7_readPerson_37 : List (Nat × Instr) := (37, .aload 0) :: (38, .dup) :: (39, .getfield 49) :: (42, .iconst 1) :: (43, .iadd) :: (44, .putfield 49) :: (47, .aload 0) :: (48, .iconst 0) :: (49, .bipush 9) :: (51, .invokevirtual 81) :: (54, .istore 3) :: (55, .aload 0) :: (56, .getfield 43) :: (59, .ifCond .ne 71) :: (62, .aload 0) :: (63, .getfield 12) :: (66, .lload 1) :: (67, .iload 3) :: (68, .invokevirtual 195) :: cd_X7_readPerson_71
def cd_X7_readPerson_0 : List (Nat × Instr) := (0, .aload 0) :: (1, .getfield 25) :: (4, .aload 0) :: (5, .getfield 49) :: (8, .invokevirtual 166) :: (11, .lstore 1) :: (12, .aload 0) :: (13, .invokevirtual 188) :: (16, .aload 0) :: (17, .getfield 12) :: (20, .lload 1) :: (21, .invokevirtual 191) :: (24, .iconst (-1)) :: (25, .if_icmp .eq 37) :: (28, .aload 0) :: (29, .iconst 3) :: (30, .aload 0) :: (31, .getfield 49) :: (34, .invokevirtual 67) :: cd_X7_readPerson_37
def cd_X7_readPerson : List (Nat × Instr) := cd_X7_readPerson_0
set_option maxRecDepth 100000 in
theorem at_X7_readPerson_71 : ev_at cd_X7_readPerson 71 = cd_X7_readPerson_71 := rfl
set_option maxRecDepth 100000 in
theorem at_X7_readPerson_37 : ev_at cd_X7_readPerson 37 = cd_X7_readPerson_37 := rfl
set_option maxRecDepth 100000 in
theorem at_X7_readPerson_0 : ev_at cd_X7_readPerson 0 = cd_X7_readPerson_0 := rfl
abbrev tb_X7_readTaster : ev_Tb := (ev_lu fl_X7, ev_lu (ca_X7), ev_lu th_X7, ev_lu ko_X7, ev_lu kl_X7, 4, false)
def cd_X7_readTaster_86 : List (Nat × Instr) := (86, .return_) :: []
def cd_X7_readTaster_67 : List (Nat × Instr) := (67, .aload 0) :: (68, .getfield 43) :: (71, .ifCond .ne 86) :: (74, .aload 0) :: (75, .getfield 12) :: (78, .getfield 216) :: (81, .iload 1) :: (82, .iload 2) :: (83, .invokestatic 219) :: cd_X7_readTaster_86
def cd_X7_readTaster_37 : List (Nat × Instr) := (37, .iload 3) :: (38, .iconst 4) :: (39, .if_icmp .ge 67) :: (42, .aload 0) :: (43, .getfield 12) :: (46, .getfield 206) :: (49, .iload 1) :: (50, .iload 3) :: (51, .aload 0) :: (52, .iconst 0) :: (53, .bipush 9) :: (55, .invokevirtual 81) :: (58, .invokevirtual 210) :: (61, .iinc 3 1) :: (64, .goto 37) :: cd_X7_readTaster_67
def cd_X7_readTaster_27 : List (Nat × Instr) := (27, .aload 0) :: (28, .iconst 1) :: (29, .bipush 6) :: (31, .invokevirtual 81) :: (34, .istore 2) :: (35, .iconst 0) :: (36, .istore 3) :: cd_X7_readTaster_37
def cd_X7_readTaster_0 : List (Nat × Instr) := (0, .aload 0) :: (1, .invokevirtual 199) :: (4, .istore 1) :: (5, .aload 0) :: (6, .getfield 12) :: (9, .iload 1) :: (10, .invokevirtual 202) :: (13, .ifCond .eq 27) :: (16, .aload 0) :: (17, .iconst 3) :: (18, .aload 0) :: (19, .getfield 49) :: (22, .iconst 1) :: (23, .isub) :: (24, .invokevirtual 67) :: cd_X7_readTaster_27
def cd_X7_readTaster : List (Nat × Instr) := cd_X7_readTaster_0
set_option maxRecDepth 100000 in
theorem at_X7_readTaster_86 : ev_at cd_X7_readTaster 86 = cd_X7_readTaster_86 := rfl
set_option maxRecDepth 100000 in
theorem at_X7_readTaster_67 : ev_at cd_X7_readTaster 67 = cd_X7_readTaster_67 := rfl
set_option maxRecDepth 100000 in
theorem at_X7_readTaster_37 : ev_at cd_X7_readTaster 37 = cd_X7_readTaster_37 := rfl
set_option maxRecDepth 100000 in
theorem at_X7_readTaster_27 : ev_at cd_X7_readTaster 27 = cd_X7_readTaster_27 := rfl
set_option maxRecDepth 100000 in
theorem at_X7_readTaster_0 : ev_at cd_X7_readTaster 0 = cd_X7_readTaster_0 := rfl
abbrev tb_X7_readPancake : ev_Tb := (ev_lu fl_X7, ev_lu (ca_X7), ev_lu th_X7, ev_lu ko_X7, ev_lu kl_X7, 4, false)
def cd_X7_readPancake_122 : List (Nat × Instr) := (122, .return_) :: []
def cd_X7_readPancake_116 : List (Nat × Instr) := (116, .iinc 2 1) :: (119, .goto 23) :: cd_X7_readPancake_122
def cd_X7_readPancake_97 : List (Nat × Instr) := (97, .aload 0) :: (98, .getfield 43) :: (101, .ifCond .ne 116) :: (104, .aload 0) :: (105, .getfield 12) :: (108, .getfield 227) :: (111, .iload 1) :: (112, .iload 3) :: (113, .invokevirtual 237) :: cd_X7_readPancake_116
def cd_X7_readPancake_81 : List (Nat × Instr) := (81, .iload 2) :: (82, .iconst 3) :: (83, .if_icmp .ne 97) :: (86, .aload 0) :: (87, .iconst 4) :: (88, .aload 0) :: (89, .getfield 49) :: (92, .iconst 1) :: (93, .isub) :: (94, .invokevirtual 67) :: cd_X7_readPancake_97
def cd_X7_readPancake_47 : List (Nat × Instr) := (47, .aload 0) :: (48, .invokevirtual 199) :: (51, .istore 3) :: (52, .aload 0) :: (53, .getfield 12) :: (56, .getfield 227) :: (59, .iload 1) :: (60, .iload 3) :: (61, .invokevirtual 231) :: (64, .ifCond .eq 81) :: (67, .aload 0) :: (68, .iconst 3) :: (69, .aload 0) :: (70, .getfield 49) :: (73, .iconst 1) :: (74, .isub) :: (75, .invokevirtual 67) :: (78, .goto 97) :: cd_X7_readPancake_81
def cd_X7_readPancake_23 : List (Nat × Instr) := (23, .iload 2) :: (24, .ifCond .eq 47) :: (27, .iload 2) :: (28, .iconst 3) :: (29, .if_icmp .gt 122) :: (32, .aload 0) :: (33, .getfield 25) :: (36, .aload 0) :: (37, .getfield 49) :: (40, .invokevirtual 56) :: (43, .iconst 1) :: (44, .if_icmp .ne 122) :: cd_X7_readPancake_47
def cd_X7_readPancake_0 : List (Nat × Instr) := (0, .aload 0) :: (1, .getfield 12) :: (4, .getfield 182) :: (7, .istore 1) :: (8, .aload 0) :: (9, .getfield 12) :: (12, .aload 0) :: (13, .iconst 0) :: (14, .iconst 3) :: (15, .invokevirtual 81) :: (18, .invokevirtual 223) :: (21, .iconst 0) :: (22, .istore 2) :: cd_X7_readPancake_23
def cd_X7_readPancake : List (Nat × Instr) := cd_X7_readPancake_0
set_option maxRecDepth 100000 in
theorem at_X7_readPancake_122 : ev_at cd_X7_readPancake 122 = cd_X7_readPancake_122 := rfl
set_option maxRecDepth 100000 in
theorem at_X7_readPancake_116 : ev_at cd_X7_readPancake 116 = cd_X7_readPancake_116 := rfl
set_option maxRecDepth 100000 in
theorem at_X7_readPancake_97 : ev_at cd_X7_readPancake 97 = cd_X7_readPancake_97 := rfl
set_option maxRecDepth 100000 in
theorem at_X7_readPancake_81 : ev_at cd_X7_readPancake 81 = cd_X7_readPancake_81 := rfl
set_option maxRecDepth 100000 in
theorem at_X7_readPancake_47 : ev_at cd_X7_readPancake 47 = cd_X7_readPancake_47 := rfl
set_option maxRecDepth 100000 in
theorem at_X7_readPancake_23 : ev_at cd_X7_readPancake 23 = cd_X7_readPancake_23 := rfl
set_option maxRecDepth 100000 in
theorem at_X7_readPancake_0 : ev_at cd_X7_readPancake 0 = cd_X7_readPancake_0 := rfl
abbrev tb_X7_readBid : ev_Tb := (ev_lu fl_X7, ev_lu (ca_X7), ev_lu th_X7, ev_lu ko_X7, ev_lu kl_X7, 4, false)
def cd_X7_readBid_42 : List (Nat × Instr) := (42, .return_) :: []
def cd_X7_readBid_0 : List (Nat × Instr) := (0, .aload 0) :: (1, .invokevirtual 199) :: (4, .istore 1) :: (5, .aload 0) :: (6, .iload 1) :: (7, .invokevirtual 240) :: (10, .aload 0) :: (11, .invokevirtual 243) :: (14, .istore 2) :: (15, .aload 0) :: (16, .iconst 0) :: (17, .iconst 3) :: (18, .invokevirtual 81) :: (21, .istore 3) :: (22, .aload 0) :: (23, .getfield 43) :: (26, .ifCond .ne 42) :: (29, .aload 0) :: (30, .getfield 12) :: (33, .getfield 246) :: (36, .iload 1) :: (37, .iload 2) :: (38, .iload 3) :: (39, .invokevirtual 210) :: cd_X7_readBid_42
def cd_X7_readBid : List (Nat × Instr) := cd_X7_readBid_0
set_option maxRecDepth 100000 in
theorem at_X7_readBid_42 : ev_at cd_X7_readBid 42 = cd_X7_readBid_42 := rfl
set_option maxRecDepth 100000 in
theorem at_X7_readBid_0 : ev_at cd_X7_readBid 0 = cd_X7_readBid_0 := rfl
abbrev tb_X7_readTogether : ev_Tb := (ev_lu fl_X7, ev_lu (ca_X7), ev_lu th_X7, ev_lu ko_X7, ev_lu kl_X7, 3, false)
def cd_X7_readTogether_57 : List (Nat × Instr) := (57, .return_) :: []
def cd_X7_readTogether_41 : List (Nat × Instr) := (41, .aload 0) :: (42, .getfield 43) :: (45, .ifCond .ne 57) :: (48, .aload 0) :: (49, .getfield 12) :: (52, .iload 1) :: (53, .iload 2) :: (54, .invokevirtual 255) :: cd_X7_readTogether_57
def cd_X7_readTogether_30 : List (Nat × Instr) := (30, .aload 0) :: (31, .iconst 3) :: (32, .aload 0) :: (33, .getfield 49) :: (36, .iconst 1) :: (37, .isub) :: (38, .invokevirtual 67) :: cd_X7_readTogether_41
def cd_X7_readTogether_0 : List (Nat × Instr) := (0, .aload 0) :: (1, .invokevirtual 199) :: (4, .istore 1) :: (5, .aload 0) :: (6, .invokevirtual 199) :: (9, .istore 2) :: (10, .iload 1) :: (11, .iload 2) :: (12, .if_icmp .eq 30) :: (15, .aload 0) :: (16, .getfield 12) :: (19, .getfield 249) :: (22, .iload 1) :: (23, .iload 2) :: (24, .invokevirtual 252) :: (27, .ifCond .eq 41) :: cd_X7_readTogether_30
def cd_X7_readTogether : List (Nat × Instr) := cd_X7_readTogether_0
set_option maxRecDepth 100000 in
theorem at_X7_readTogether_57 : ev_at cd_X7_readTogether 57 = cd_X7_readTogether_57 := rfl
set_option maxRecDepth 100000 in
theorem at_X7_readTogether_41 : ev_at cd_X7_readTogether 41 = cd_X7_readTogether_41 := rfl
set_option maxRecDepth 100000 in
theorem at_X7_readTogether_30 : ev_at cd_X7_readTogether 30 = cd_X7_readTogether_30 := rfl
set_option maxRecDepth 100000 in
theorem at_X7_readTogether_0 : ev_at cd_X7_readTogether 0 = cd_X7_readTogether_0 := rfl
abbrev tb_X7_readConflict : ev_Tb := (ev_lu fl_X7, ev_lu (ca_X7), ev_lu th_X7, ev_lu ko_X7, ev_lu kl_X7, 3, false)
def cd_X7_readConflict_56 : List (Nat × Instr) := (56, .return_) :: []
def cd_X7_readConflict_36 : List (Nat × Instr) := (36, .aload 0) :: (37, .getfield 43) :: (40, .ifCond .ne 56) :: (43, .aload 0) :: (44, .getfield 12) :: (47, .getfield 258) :: (50, .iload 1) :: (51, .iload 2) :: (52, .iconst 1) :: (53, .invokevirtual 210) :: cd_X7_readConflict_56
def cd_X7_readConflict_0 : List (Nat × Instr) := (0, .aload 0) :: (1, .invokevirtual 199) :: (4, .istore 1) :: (5, .aload 0) :: (6, .invokevirtual 243) :: (9, .istore 2) :: (10, .aload 0) :: (11, .getfield 12) :: (14, .getfield 258) :: (17, .iload 1) :: (18, .iload 2) :: (19, .invokevirtual 252) :: (22, .ifCond .eq 36) :: (25, .aload 0) :: (26, .iconst 4) :: (27, .aload 0) :: (28, .getfield 49) :: (31, .iconst 1) :: (32, .isub) :: (33, .invokevirtual 67) :: cd_X7_readConflict_36
def cd_X7_readConflict : List (Nat × Instr) := cd_X7_readConflict_0
set_option maxRecDepth 100000 in
theorem at_X7_readConflict_56 : ev_at cd_X7_readConflict 56 = cd_X7_readConflict_56 := rfl
set_option maxRecDepth 100000 in
theorem at_X7_readConflict_36 : ev_at cd_X7_readConflict 36 = cd_X7_readConflict_36 := rfl
set_option maxRecDepth 100000 in
theorem at_X7_readConflict_0 : ev_at cd_X7_readConflict 0 = cd_X7_readConflict_0 := rfl
abbrev tb_X7_readSeat : ev_Tb := (ev_lu fl_X7, ev_lu (ca_X7), ev_lu th_X7, ev_lu ko_X7, ev_lu kl_X7, 3, false)
def cd_X7_readSeat_53 : List (Nat × Instr) := (53, .return_) :: []
def cd_X7_readSeat_34 : List (Nat × Instr) := (34, .aload 0) :: (35, .getfield 43) :: (38, .ifCond .ne 53) :: (41, .aload 0) :: (42, .getfield 12) :: (45, .getfield 265) :: (48, .iload 2) :: (49, .iload 1) :: (50, .invokevirtual 237) :: cd_X7_readSeat_53
def cd_X7_readSeat_0 : List (Nat × Instr) := (0, .aload 0) :: (1, .invokevirtual 199) :: (4, .istore 1) :: (5, .aload 0) :: (6, .invokevirtual 243) :: (9, .istore 2) :: (10, .aload 0) :: (11, .getfield 12) :: (14, .iload 1) :: (15, .iload 2) :: (16, .iconst 0) :: (17, .invokevirtual 261) :: (20, .ifCond .eq 34) :: (23, .aload 0) :: (24, .iconst 4) :: (25, .aload 0) :: (26, .getfield 49) :: (29, .iconst 1) :: (30, .isub) :: (31, .invokevirtual 67) :: cd_X7_readSeat_34
def cd_X7_readSeat : List (Nat × Instr) := cd_X7_readSeat_0
set_option maxRecDepth 100000 in
theorem at_X7_readSeat_53 : ev_at cd_X7_readSeat 53 = cd_X7_readSeat_53 := rfl
set_option maxRecDepth 100000 in
theorem at_X7_readSeat_34 : ev_at cd_X7_readSeat 34 = cd_X7_readSeat_34 := rfl
set_option maxRecDepth 100000 in
theorem at_X7_readSeat_0 : ev_at cd_X7_readSeat 0 = cd_X7_readSeat_0 := rfl
abbrev tb_X7_readLeave : ev_Tb := (ev_lu fl_X7, ev_lu (ca_X7), ev_lu th_X7, ev_lu ko_X7, ev_lu kl_X7, 3, false)
def cd_X7_readLeave_32 : List (Nat × Instr) := (32, .return_) :: []
def cd_X7_readLeave_0 : List (Nat × Instr) := (0, .aload 0) :: (1, .invokevirtual 199) :: (4, .istore 1) :: (5, .aload 0) :: (6, .invokevirtual 243) :: (9, .istore 2) :: (10, .aload 0) :: (11, .iload 1) :: (12, .iload 2) :: (13, .invokevirtual 268) :: (16, .aload 0) :: (17, .getfield 43) :: (20, .ifCond .ne 32) :: (23, .aload 0) :: (24, .getfield 12) :: (27, .iload 1) :: (28, .iload 2) :: (29, .invokevirtual 271) :: cd_X7_readLeave_32
def cd_X7_readLeave : List (Nat × Instr) := cd_X7_readLeave_0
set_option maxRecDepth 100000 in
theorem at_X7_readLeave_32 : ev_at cd_X7_readLeave 32 = cd_X7_readLeave_32 := rfl
set_option maxRecDepth 100000 in
theorem at_X7_readLeave_0 : ev_at cd_X7_readLeave 0 = cd_X7_readLeave_0 := rfl
abbrev tb_X7_readScore : ev_Tb := (ev_lu fl_X7, ev_lu (ca_X7), ev_lu th_X7, ev_lu ko_X7, ev_lu kl_X7, 4, false)
def cd_X7_readScore_44 : List (Nat × Instr) := (44, .return_) :: []
def cd_X7_readScore_0 : List (Nat × Instr) := (0, .aload 0) :: (1, .invokevirtual 199) :: (4, .istore 1) :: (5, .aload 0) :: (6, .invokevirtual 243) :: (9, .istore 2) :: (10, .aload 0) :: (11, .iload 1) :: (12, .iload 2) :: (13, .invokevirtual 268) :: (16, .aload 0) :: (17, .iconst 1) :: (18, .bipush 9) :: (20, .invokevirtual 81) :: (23, .istore 3) :: (24, .aload 0) :: (25, .getfield 43) :: (28, .ifCond .ne 44) :: (31, .aload 0) :: (32, .getfield 12) :: (35, .getfield 274) :: (38, .iload 1) :: (39, .iload 2) :: (40, .iload 3) :: (41, .invokevirtual 278) :: cd_X7_readScore_44
def cd_X7_readScore : List (Nat × Instr) := cd_X7_readScore_0
set_option maxRecDepth 100000 in
theorem at_X7_readScore_44 : ev_at cd_X7_readScore 44 = cd_X7_readScore_44 := rfl
set_option maxRecDepth 100000 in
theorem at_X7_readScore_0 : ev_at cd_X7_readScore 0 = cd_X7_readScore_0 := rfl
abbrev tb_X7_readTalk : ev_Tb := (ev_lu fl_X7, ev_lu (ca_X7), ev_lu th_X7, ev_lu ko_X7, ev_lu kl_X7, 2, false)
def cd_X7_readTalk_29 : List (Nat × Instr) := (29, .return_) :: []
def cd_X7_readTalk_0 : List (Nat × Instr) := (0, .aload 0) :: (1, .invokevirtual 243) :: (4, .istore 1) :: (5, .aload 0) :: (6, .iload 1) :: (7, .invokevirtual 283) :: (10, .aload 0) :: (11, .getfield 43) :: (14, .ifCond .ne 29) :: (17, .aload 0) :: (18, .getfield 12) :: (21, .getfield 274) :: (24, .iload 1) :: (25, .invokevirtual 286) :: (28, .pop) :: cd_X7_readTalk_29
def cd_X7_readTalk : List (Nat × Instr) := cd_X7_readTalk_0
set_option maxRecDepth 100000 in
theorem at_X7_readTalk_29 : ev_at cd_X7_readTalk 29 = cd_X7_readTalk_29 := rfl
set_option maxRecDepth 100000 in
theorem at_X7_readTalk_0 : ev_at cd_X7_readTalk 0 = cd_X7_readTalk_0 := rfl
abbrev tb_X7_readLimit : ev_Tb := (ev_lu fl_X7, ev_lu (ca_X7), ev_lu th_X7, ev_lu ko_X7, ev_lu kl_X7, 3, false)
def cd_X7_readLimit_37 : List (Nat × Instr) := (37, .return_) :: []
def cd_X7_readLimit_0 : List (Nat × Instr) := (0, .aload 0) :: (1, .invokevirtual 199) :: (4, .istore 1) :: (5, .aload 0) :: (6, .iload 1) :: (7, .invokevirtual 240) :: (10, .aload 0) :: (11, .iconst 1) :: (12, .bipush 6) :: (14, .invokevirtual 81) :: (17, .istore 2) :: (18, .aload 0) :: (19, .getfield 43) :: (22, .ifCond .ne 37) :: (25, .aload 0) :: (26, .getfield 12) :: (29, .getfield 216) :: (32, .iload 1) :: (33, .iload 2) :: (34, .invokestatic 219) :: cd_X7_readLimit_37
def cd_X7_readLimit : List (Nat × Instr) := cd_X7_readLimit_0
set_option maxRecDepth 100000 in
theorem at_X7_readLimit_37 : ev_at cd_X7_readLimit 37 = cd_X7_readLimit_37 := rfl
set_option maxRecDepth 100000 in
theorem at_X7_readLimit_0 : ev_at cd_X7_readLimit 0 = cd_X7_readLimit_0 := rfl
abbrev tb_X7_readKitchen : ev_Tb := (ev_lu fl_X7, ev_lu (ca_X7), ev_lu th_X7, ev_lu ko_X7, ev_lu kl_X7, 3, false)
def cd_X7_readKitchen_32 : List (Nat × Instr) := (32, .return_) :: []
def cd_X7_readKitchen_0 : List (Nat × Instr) := (0, .aload 0) :: (1, .invokevirtual 199) :: (4, .istore 1) :: (5, .aload 0) :: (6, .iconst 0) :: (7, .bipush 9) :: (9, .invokevirtual 81) :: (12, .istore 2) :: (13, .aload 0) :: (14, .getfield 43) :: (17, .ifCond .ne 32) :: (20, .aload 0) :: (21, .getfield 12) :: (24, .getfield 289) :: (27, .iload 1) :: (28, .iload 2) :: (29, .invokestatic 219) :: cd_X7_readKitchen_32
def cd_X7_readKitchen : List (Nat × Instr) := cd_X7_readKitchen_0
set_option maxRecDepth 100000 in
theorem at_X7_readKitchen_32 : ev_at cd_X7_readKitchen 32 = cd_X7_readKitchen_32 := rfl
set_option maxRecDepth 100000 in
theorem at_X7_readKitchen_0 : ev_at cd_X7_readKitchen 0 = cd_X7_readKitchen_0 := rfl
abbrev tb_X7_readSwap : ev_Tb := (ev_lu fl_X7, ev_lu (ca_X7), ev_lu th_X7, ev_lu ko_X7, ev_lu kl_X7, 3, false)
def cd_X7_readSwap_42 : List (Nat × Instr) := (42, .return_) :: []
def cd_X7_readSwap_26 : List (Nat × Instr) := (26, .aload 0) :: (27, .getfield 43) :: (30, .ifCond .ne 42) :: (33, .aload 0) :: (34, .getfield 12) :: (37, .iload 1) :: (38, .iload 2) :: (39, .invokevirtual 292) :: cd_X7_readSwap_42
def cd_X7_readSwap_0 : List (Nat × Instr) := (0, .aload 0) :: (1, .invokevirtual 243) :: (4, .istore 1) :: (5, .aload 0) :: (6, .invokevirtual 243) :: (9, .istore 2) :: (10, .iload 1) :: (11, .iload 2) :: (12, .if_icmp .ne 26) :: (15, .aload 0) :: (16, .iconst 3) :: (17, .aload 0) :: (18, .getfield 49) :: (21, .iconst 1) :: (22, .isub) :: (23, .invokevirtual 67) :: cd_X7_readSwap_26
def cd_X7_readSwap : List (Nat × Instr) := cd_X7_readSwap_0
set_option maxRecDepth 100000 in
theorem at_X7_readSwap_42 : ev_at cd_X7_readSwap 42 = cd_X7_readSwap_42 := rfl
set_option maxRecDepth 100000 in
theorem at_X7_readSwap_26 : ev_at cd_X7_readSwap 26 = cd_X7_readSwap_26 := rfl
set_option maxRecDepth 100000 in
theorem at_X7_readSwap_0 : ev_at cd_X7_readSwap 0 = cd_X7_readSwap_0 := rfl
abbrev tb_X7_readClear : ev_Tb := (ev_lu fl_X7, ev_lu (ca_X7), ev_lu th_X7, ev_lu ko_X7, ev_lu kl_X7, 2, false)
def cd_X7_readClear_20 : List (Nat × Instr) := (20, .return_) :: []
def cd_X7_readClear_0 : List (Nat × Instr) := (0, .aload 0) :: (1, .invokevirtual 243) :: (4, .istore 1) :: (5, .aload 0) :: (6, .getfield 43) :: (9, .ifCond .ne 20) :: (12, .aload 0) :: (13, .getfield 12) :: (16, .iload 1) :: (17, .invokevirtual 295) :: cd_X7_readClear_20
def cd_X7_readClear : List (Nat × Instr) := cd_X7_readClear_0
set_option maxRecDepth 100000 in
theorem at_X7_readClear_20 : ev_at cd_X7_readClear 20 = cd_X7_readClear_20 := rfl
set_option maxRecDepth 100000 in
theorem at_X7_readClear_0 : ev_at cd_X7_readClear 0 = cd_X7_readClear_0 := rfl
abbrev tb_X7_readEven : ev_Tb := (ev_lu fl_X7, ev_lu (ca_X7), ev_lu th_X7, ev_lu ko_X7, ev_lu kl_X7, 2, false)
def cd_X7_readEven_28 : List (Nat × Instr) := (28, .return_) :: []
def cd_X7_readEven_0 : List (Nat × Instr) := (0, .aload 0) :: (1, .invokevirtual 243) :: (4, .istore 1) :: (5, .aload 0) :: (6, .iload 1) :: (7, .invokevirtual 283) :: (10, .aload 0) :: (11, .getfield 43) :: (14, .ifCond .ne 28) :: (17, .aload 0) :: (18, .getfield 12) :: (21, .getfield 274) :: (24, .iload 1) :: (25, .invokevirtual 298) :: cd_X7_readEven_28
def cd_X7_readEven : List (Nat × Instr) := cd_X7_readEven_0
set_option maxRecDepth 100000 in
theorem at_X7_readEven_28 : ev_at cd_X7_readEven 28 = cd_X7_readEven_28 := rfl
set_option maxRecDepth 100000 in
theorem at_X7_readEven_0 : ev_at cd_X7_readEven 0 = cd_X7_readEven_0 := rfl
abbrev tb_X7_readCopy : ev_Tb := (ev_lu fl_X7, ev_lu (ca_X7), ev_lu th_X7, ev_lu ko_X7, ev_lu kl_X7, 3, false)
def cd_X7_readCopy_52 : List (Nat × Instr) := (52, .return_) :: []
def cd_X7_readCopy_36 : List (Nat × Instr) := (36, .aload 0) :: (37, .getfield 43) :: (40, .ifCond .ne 52) :: (43, .aload 0) :: (44, .getfield 12) :: (47, .iload 1) :: (48, .iload 2) :: (49, .invokevirtual 301) :: cd_X7_readCopy_52
def cd_X7_readCopy_0 : List (Nat × Instr) := (0, .aload 0) :: (1, .invokevirtual 199) :: (4, .istore 1) :: (5, .aload 0) :: (6, .iload 1) :: (7, .invokevirtual 240) :: (10, .aload 0) :: (11, .invokevirtual 199) :: (14, .istore 2) :: (15, .aload 0) :: (16, .iload 2) :: (17, .invokevirtual 240) :: (20, .iload 1) :: (21, .iload 2) :: (22, .if_icmp .ne 36) :: (25, .aload 0) :: (26, .iconst 3) :: (27, .aload 0) :: (28, .getfield 49) :: (31, .iconst 1) :: (32, .isub) :: (33, .invokevirtual 67) :: cd_X7_readCopy_36
def cd_X7_readCopy : List (Nat × Instr) := cd_X7_readCopy_0
set_option maxRecDepth 100000 in
theorem at_X7_readCopy_52 : ev_at cd_X7_readCopy 52 = cd_X7_readCopy_52 := rfl
set_option maxRecDepth 100000 in
theorem at_X7_readCopy_36 : ev_at cd_X7_readCopy 36 = cd_X7_readCopy_36 := rfl
set_option maxRecDepth 100000 in
theorem at_X7_readCopy_0 : ev_at cd_X7_readCopy 0 = cd_X7_readCopy_0 := rfl
abbrev tb_X7_beginRepeat : ev_Tb := (ev_lu fl_X7, ev_lu (ca_X7), ev_lu th_X7, ev_lu ko_X7, ev_lu kl_X7, 2, true)
def cd_X7_beginRepeat_32 : List (Nat × Instr) := (32, .aload 0) :: (33, .dup) :: (34, .getfield 49) :: (37, .iconst 1) :: (38, .iadd) :: (39, .putfield 49) :: (42, .aload 0) :: (43, .getfield 29) :: (46, .aload 0) :: (47, .getfield 46) :: (50, .aload 0) :: (51, .getfield 49) :: (54, .invokestatic 219) :: (57, .aload 0) :: (58, .getfield 33) :: (61, .aload 0) :: (62, .getfield 46) :: (65, .iload 1) :: (66, .invokestatic 219) :: (69, .aload 0) :: (70, .dup) :: (71, .getfield 46) :: (74, .iconst 1) :: (75, .iadd) :: (76, .putfield 46) :: (79, .iconst 1) :: (80, .ireturn) :: []
def cd_X7_beginRepeat_0 : List (Nat × Instr) := (0, .aload 0) :: (1, .iconst 1) :: (2, .bipush 9) :: (4, .invokevirtual 81) :: (7, .istore 1) :: (8, .aload 0) :: (9, .getfield 25) :: (12, .aload 0) :: (13, .getfield 49) :: (16, .invokevirtual 56) :: (19, .iconst 4) :: (20, .if_icmp .eq 32) :: (23, .aload 0) :: (24, .iconst 1) :: (25, .aload 0) :: (26, .getfield 49) :: (29, .invokevirtual 67) :: cd_X7_beginRepeat_32
def cd_X7_beginRepeat : List (Nat × Instr) := cd_X7_beginRepeat_0
set_option maxRecDepth 100000 in
theorem at_X7_beginRepeat_32 : ev_at cd_X7_beginRepeat 32 = cd_X7_beginRepeat_32 := rfl
set_option maxRecDepth 100000 in
theorem at_X7_beginRepeat_0 : ev_at cd_X7_beginRepeat 0 = cd_X7_beginRepeat_0 := rfl
abbrev tb_X7_endPass : ev_Tb := (ev_lu fl_X7, ev_lu (ca_X7), ev_lu th_X7, ev_lu ko_X7, ev_lu kl_X7, 3, true)
def cd_X7_endPass_45 : List (Nat × Instr) := (45, .aload 0) :: (46, .dup) :: (47, .getfield 49) :: (50, .iconst 1) :: (51, .iadd) :: (52, .putfield 49) :: (55, .aload 0) :: (56, .iload 1) :: (57, .putfield 46) :: (60, .iconst 0) :: (61, .ireturn) :: []
def cd_X7_endPass_0 : List (Nat × Instr) := (0, .aload 0) :: (1, .getfield 46) :: (4, .iconst 1) :: (5, .isub) :: (6, .istore 1) :: (7, .aload 0) :: (8, .getfield 33) :: (11, .iload 1) :: (12, .invokestatic 304) :: (15, .iconst 1) :: (16, .isub) :: (17, .istore 2) :: (18, .aload 0) :: (19, .getfield 33) :: (22, .iload 1) :: (23, .iload 2) :: (24, .invokestatic 219) :: (27, .iload 2) :: (28, .ifCond .le 45) :: (31, .aload 0) :: (32, .aload 0) :: (33, .getfield 29) :: (36, .iload 1) :: (37, .invokestatic 304) :: (40, .putfield 49) :: (43, .iconst 1) :: (44, .ireturn) :: cd_X7_endPass_45
def cd_X7_endPass : List (Nat × Instr) := cd_X7_endPass_0
set_option maxRecDepth 100000 in
theorem at_X7_endPass_45 : ev_at cd_X7_endPass 45 = cd_X7_endPass_45 := rfl
set_option maxRecDepth 100000 in
theorem at_X7_endPass_0 : ev_at cd_X7_endPass 0 = cd_X7_endPass_0 := rfl
abbrev tb_X7_number : ev_Tb := (ev_lu fl_X7, ev_lu (ca_X7), ev_lu th_X7, ev_lu ko_X7, ev_lu kl_X7, 5, false)
def cd_X7_number_85 : List (Nat × Instr) := (85, .ireturn) :: []
def cd_X7_number_84 : List (Nat × Instr) := (84, .iconst (-1)) :: cd_X7_number_85
def cd_X7_number_62 : List (Nat × Instr) := (62, .aload 0) :: (63, .dup) :: (64, .getfield 49) :: (67, .iconst 1) :: (68, .iadd) :: (69, .putfield 49) :: (72, .aload 0) :: (73, .getfield 43) :: (76, .ifCond .ne 84) :: (79, .lload 3) :: (80, .l2i) :: (81, .goto 85) :: cd_X7_number_84
def cd_X7_number_53 : List (Nat × Instr) := (53, .aload 0) :: (54, .iconst 2) :: (55, .aload 0) :: (56, .getfield 49) :: (59, .invokevirtual 67) :: cd_X7_number_62
def cd_X7_number_39 : List (Nat × Instr) := (39, .lload 3) :: (40, .iload 1) :: (41, .i2l) :: (42, .lcmp) :: (43, .ifCond .lt 53) :: (46, .lload 3) :: (47, .iload 2) :: (48, .i2l) :: (49, .lcmp) :: (50, .ifCond .le 62) :: cd_X7_number_53
def cd_X7_number_0 : List (Nat × Instr) := (0, .aload 0) :: (1, .getfield 25) :: (4, .aload 0) :: (5, .getfield 49) :: (8, .invokevirtual 166) :: (11, .lstore 3) :: (12, .aload 0) :: (13, .getfield 25) :: (16, .aload 0) :: (17, .getfield 49) :: (20, .invokevirtual 56) :: (23, .iconst 2) :: (24, .if_icmp .eq 39) :: (27, .aload 0) :: (28, .iconst 1) :: (29, .aload 0) :: (30, .getfield 49) :: (33, .invokevirtual 67) :: (36, .goto 62) :: cd_X7_number_39
def cd_X7_number : List (Nat × Instr) := cd_X7_number_0
set_option maxRecDepth 100000 in
theorem at_X7_number_85 : ev_at cd_X7_number 85 = cd_X7_number_85 := rfl
set_option maxRecDepth 100000 in
theorem at_X7_number_84 : ev_at cd_X7_number 84 = cd_X7_number_84 := rfl
set_option maxRecDepth 100000 in
theorem at_X7_number_62 : ev_at cd_X7_number 62 = cd_X7_number_62 := rfl
set_option maxRecDepth 100000 in
theorem at_X7_number_53 : ev_at cd_X7_number 53 = cd_X7_number_53 := rfl
set_option maxRecDepth 100000 in
theorem at_X7_number_39 : ev_at cd_X7_number 39 = cd_X7_number_39 := rfl
set_option maxRecDepth 100000 in
theorem at_X7_number_0 : ev_at cd_X7_number 0 = cd_X7_number_0 := rfl
abbrev tb_X7_pancake : ev_Tb := (ev_lu fl_X7, ev_lu (ca_X7), ev_lu th_X7, ev_lu ko_X7, ev_lu kl_X7, 1, false)
def cd_X7_pancake_0 : List (Nat × Instr) := (0, .aload 0) :: (1, .iconst 0) :: (2, .aload 0) :: (3, .getfield 12) :: (6, .getfield 182) :: (9, .iconst 1) :: (10, .isub) :: (11, .invokevirtual 81) :: (14, .ireturn) :: []
def cd_X7_pancake : List (Nat × Instr) := cd_X7_pancake_0
set_option maxRecDepth 100000 in
theorem at_X7_pancake_0 : ev_at cd_X7_pancake 0 = cd_X7_pancake_0 := rfl
abbrev tb_X7_person : ev_Tb := (ev_lu fl_X7, ev_lu (ca_X7), ev_lu th_X7, ev_lu ko_X7, ev_lu kl_X7, 2, false)
def cd_X7_person_59 : List (Nat × Instr) := (59, .ireturn) :: []
def cd_X7_person_58 : List (Nat × Instr) := (58, .iconst (-1)) :: cd_X7_person_59
def cd_X7_person_37 : List (Nat × Instr) := (37, .aload 0) :: (38, .dup) :: (39, .getfield 49) :: (42, .iconst 1) :: (43, .iadd) :: (44, .putfield 49) :: (47, .aload 0) :: (48, .getfield 43) :: (51, .ifCond .ne 58) :: (54, .iload 1) :: (55, .goto 59) :: cd_X7_person_58
def cd_X7_person_0 : List (Nat × Instr) := (0, .aload 0) :: (1, .invokevirtual 188) :: (4, .aload 0) :: (5, .getfield 12) :: (8, .aload 0) :: (9, .getfield 25) :: (12, .aload 0) :: (13, .getfield 49) :: (16, .invokevirtual 166) :: (19, .invokevirtual 191) :: (22, .istore 1) :: (23, .iload 1) :: (24, .iconst (-1)) :: (25, .if_icmp .ne 37) :: (28, .aload 0) :: (29, .iconst 3) :: (30, .aload 0) :: (31, .getfield 49) :: (34, .invokevirtual 67) :: cd_X7_person_37
def cd_X7_person : List (Nat × Instr) := cd_X7_person_0
set_option maxRecDepth 100000 in
theorem at_X7_person_59 : ev_at cd_X7_person 59 = cd_X7_person_59 := rfl
set_option maxRecDepth 100000 in
theorem at_X7_person_58 : ev_at cd_X7_person 58 = cd_X7_person_58 := rfl
set_option maxRecDepth 100000 in
theorem at_X7_person_37 : ev_at cd_X7_person 37 = cd_X7_person_37 := rfl
set_option maxRecDepth 100000 in
theorem at_X7_person_0 : ev_at cd_X7_person 0 = cd_X7_person_0 := rfl
abbrev tb_X7_checkName : ev_Tb := (ev_lu fl_X7, ev_lu (ca_X7), ev_lu th_X7, ev_lu ko_X7, ev_lu kl_X7, 1, false)
def cd_X7_checkName_55 : List (Nat × Instr) := (55, .return_) :: []
def cd_X7_checkName_27 : List (Nat × Instr) := (27, .aload 0) :: (28, .getfield 25) :: (31, .aload 0) :: (32, .getfield 49) :: (35, .invokevirtual 166) :: (38, .invokestatic 308) :: (41, .bipush 6) :: (43, .if_icmp .le 55) :: (46, .aload 0) :: (47, .iconst 2) :: (48, .aload 0) :: (49, .getfield 49) :: (52, .invokevirtual 67) :: cd_X7_checkName_55
def cd_X7_checkName_0 : List (Nat × Instr) := (0, .aload 0) :: (1, .getfield 25) :: (4, .aload 0) :: (5, .getfield 49) :: (8, .invokevirtual 56) :: (11, .iconst 1) :: (12, .if_icmp .eq 27) :: (15, .aload 0) :: (16, .iconst 1) :: (17, .aload 0) :: (18, .getfield 49) :: (21, .invokevirtual 67) :: (24, .goto 55) :: cd_X7_checkName_27
def cd_X7_checkName : List (Nat × Instr) := cd_X7_checkName_0
set_option maxRecDepth 100000 in
theorem at_X7_checkName_55 : ev_at cd_X7_checkName 55 = cd_X7_checkName_55 := rfl
set_option maxRecDepth 100000 in
theorem at_X7_checkName_27 : ev_at cd_X7_checkName 27 = cd_X7_checkName_27 := rfl
set_option maxRecDepth 100000 in
theorem at_X7_checkName_0 : ev_at cd_X7_checkName 0 = cd_X7_checkName_0 := rfl
abbrev tb_X7_checkTaster : ev_Tb := (ev_lu fl_X7, ev_lu (ca_X7), ev_lu th_X7, ev_lu ko_X7, ev_lu kl_X7, 2, false)
def cd_X7_checkTaster_22 : List (Nat × Instr) := (22, .return_) :: []
def cd_X7_checkTaster_0 : List (Nat × Instr) := (0, .aload 0) :: (1, .getfield 12) :: (4, .iload 1) :: (5, .invokevirtual 202) :: (8, .ifCond .ne 22) :: (11, .aload 0) :: (12, .iconst 3) :: (13, .aload 0) :: (14, .getfield 49) :: (17, .iconst 1) :: (18, .isub) :: (19, .invokevirtual 67) :: cd_X7_checkTaster_22
def cd_X7_checkTaster : List (Nat × Instr) := cd_X7_checkTaster_0
set_option maxRecDepth 100000 in
theorem at_X7_checkTaster_22 : ev_at cd_X7_checkTaster 22 = cd_X7_checkTaster_22 := rfl
set_option maxRecDepth 100000 in
theorem at_X7_checkTaster_0 : ev_at cd_X7_checkTaster 0 = cd_X7_checkTaster_0 := rfl
abbrev tb_X7_checkSeat : ev_Tb := (ev_lu fl_X7, ev_lu (ca_X7), ev_lu th_X7, ev_lu ko_X7, ev_lu kl_X7, 3, false)
def cd_X7_checkSeat_26 : List (Nat × Instr) := (26, .return_) :: []
def cd_X7_checkSeat_0 : List (Nat × Instr) := (0, .aload 0) :: (1, .getfield 12) :: (4, .getfield 265) :: (7, .iload 2) :: (8, .iload 1) :: (9, .invokevirtual 231) :: (12, .ifCond .ne 26) :: (15, .aload 0) :: (16, .iconst 4) :: (17, .aload 0) :: (18, .getfield 49) :: (21, .iconst 1) :: (22, .isub) :: (23, .invokevirtual 67) :: cd_X7_checkSeat_26
def cd_X7_checkSeat : List (Nat × Instr) := cd_X7_checkSeat_0
set_option maxRecDepth 100000 in
theorem at_X7_checkSeat_26 : ev_at cd_X7_checkSeat 26 = cd_X7_checkSeat_26 := rfl
set_option maxRecDepth 100000 in
theorem at_X7_checkSeat_0 : ev_at cd_X7_checkSeat 0 = cd_X7_checkSeat_0 := rfl
abbrev tb_X7_checkScores : ev_Tb := (ev_lu fl_X7, ev_lu (ca_X7), ev_lu th_X7, ev_lu ko_X7, ev_lu kl_X7, 2, false)
def cd_X7_checkScores_25 : List (Nat × Instr) := (25, .return_) :: []
def cd_X7_checkScores_0 : List (Nat × Instr) := (0, .aload 0) :: (1, .getfield 12) :: (4, .getfield 274) :: (7, .iload 1) :: (8, .invokevirtual 311) :: (11, .ifCond .ne 25) :: (14, .aload 0) :: (15, .iconst 4) :: (16, .aload 0) :: (17, .getfield 49) :: (20, .iconst 1) :: (21, .isub) :: (22, .invokevirtual 67) :: cd_X7_checkScores_25
def cd_X7_checkScores : List (Nat × Instr) := cd_X7_checkScores_0
set_option maxRecDepth 100000 in
theorem at_X7_checkScores_25 : ev_at cd_X7_checkScores 25 = cd_X7_checkScores_25 := rfl
set_option maxRecDepth 100000 in
theorem at_X7_checkScores_0 : ev_at cd_X7_checkScores 0 = cd_X7_checkScores_0 := rfl
abbrev tb_X7_fail : ev_Tb := (ev_lu fl_X7, ev_lu (ca_X7), ev_lu th_X7, ev_lu ko_X7, ev_lu kl_X7, 3, false)
def cd_X7_fail_24 : List (Nat × Instr) := (24, .return_) :: []
def cd_X7_fail_0 : List (Nat × Instr) := (0, .aload 0) :: (1, .getfield 43) :: (4, .ifCond .ne 24) :: (7, .aload 0) :: (8, .iload 1) :: (9, .putfield 43) :: (12, .aload 0) :: (13, .aload 0) :: (14, .getfield 25) :: (17, .iload 2) :: (18, .invokevirtual 314) :: (21, .putfield 18) :: cd_X7_fail_24
def cd_X7_fail : List (Nat × Instr) := cd_X7_fail_0
set_option maxRecDepth 100000 in
theorem at_X7_fail_24 : ev_at cd_X7_fail 24 = cd_X7_fail_24 := rfl
set_option maxRecDepth 100000 in
theorem at_X7_fail_0 : ev_at cd_X7_fail 0 = cd_X7_fail_0 := rfl
abbrev tb_X8_init : ev_Tb := (ev_lu fl_X8, ev_lu (ca_X8), ev_lu th_X8, ev_lu ko_X8, ev_lu kl_X8, 3, false)
def cd_X8_init_0 : List (Nat × Instr) := (0, .aload 0) :: (1, .invokespecial 1) :: (4, .aload 0) :: (5, .iconst 0) :: (6, .iload 1) :: (7, .invokestatic 7) :: (10, .putfield 13) :: (13, .aload 0) :: (14, .iconst 0) :: (15, .iload 2) :: (16, .invokestatic 7) :: (19, .putfield 19) :: (22, .aload 0) :: (23, .aload 0) :: (24, .getfield 13) :: (27, .aload 0) :: (28, .getfield 19) :: (31, .imul) :: (32, .newarray .int) :: (34, .putfield 22) :: (37, .return_) :: []
def cd_X8_init : List (Nat × Instr) := cd_X8_init_0
set_option maxRecDepth 100000 in
theorem at_X8_init_0 : ev_at cd_X8_init 0 = cd_X8_init_0 := rfl
abbrev tb_X8_get : ev_Tb := (ev_lu fl_X8, ev_lu (ca_X8), ev_lu th_X8, ev_lu ko_X8, ev_lu kl_X8, 3, false)
def cd_X8_get_41 : List (Nat × Instr) := (41, .ireturn) :: []
def cd_X8_get_40 : List (Nat × Instr) := (40, .iconst 0) :: cd_X8_get_41
def cd_X8_get_0 : List (Nat × Instr) := (0, .iload 1) :: (1, .ifCond .lt 40) :: (4, .iload 1) :: (5, .aload 0) :: (6, .getfield 13) :: (9, .if_icmp .ge 40) :: (12, .iload 2) :: (13, .ifCond .lt 40) :: (16, .iload 2) :: (17, .aload 0) :: (18, .getfield 19) :: (21, .if_icmp .ge 40) :: (24, .aload 0) :: (25, .getfield 22) :: (28, .iload 1) :: (29, .aload 0) :: (30, .getfield 19) :: (33, .imul) :: (34, .iload 2) :: (35, .iadd) :: (36, .iaload) :: (37, .goto 41) :: cd_X8_get_40
def cd_X8_get : List (Nat × Instr) := cd_X8_get_0
set_option maxRecDepth 100000 in
theorem at_X8_get_41 : ev_at cd_X8_get 41 = cd_X8_get_41 := rfl
set_option maxRecDepth 100000 in
theorem at_X8_get_40 : ev_at cd_X8_get 40 = cd_X8_get_40 := rfl
set_option maxRecDepth 100000 in
theorem at_X8_get_0 : ev_at cd_X8_get 0 = cd_X8_get_0 := rfl
abbrev tb_X8_set : ev_Tb := (ev_lu fl_X8, ev_lu (ca_X8), ev_lu th_X8, ev_lu ko_X8, ev_lu kl_X8, 4, false)
def cd_X8_set_38 : List (Nat × Instr) := (38, .return_) :: []
def cd_X8_set_0 : List (Nat × Instr) := (0, .iload 1) :: (1, .ifCond .lt 38) :: (4, .iload 1) :: (5, .aload 0) :: (6, .getfield 13) :: (9, .if_icmp .ge 38) :: (12, .iload 2) :: (13, .ifCond .lt 38) :: (16, .iload 2) :: (17, .aload 0) :: (18, .getfield 19) :: (21, .if_icmp .ge 38) :: (24, .aload 0) :: (25, .getfield 22) :: (28, .iload 1) :: (29, .aload 0) :: (30, .getfield 19) :: (33, .imul) :: (34, .iload 2) :: (35, .iadd) :: (36, .iload 3) :: (37, .iastore) :: cd_X8_set_38
def cd_X8_set : List (Nat × Instr) := cd_X8_set_0
set_option maxRecDepth 100000 in
theorem at_X8_set_38 : ev_at cd_X8_set 38 = cd_X8_set_38 := rfl
set_option maxRecDepth 100000 in
theorem at_X8_set_0 : ev_at cd_X8_set 0 = cd_X8_set_0 := rfl
abbrev tb_X8_clear : ev_Tb := (ev_lu fl_X8, ev_lu (ca_X8), ev_lu th_X8, ev_lu ko_X8, ev_lu kl_X8, 1, false)
def cd_X8_clear_0 : List (Nat × Instr) := (0, .aload 0) :: (1, .getfield 22) :: (4, .iconst 0) :: (5, .invokestatic 26) :: (8, .return_) :: []
def cd_X8_clear : List (Nat × Instr) := cd_X8_clear_0
set_option maxRecDepth 100000 in
theorem at_X8_clear_0 : ev_at cd_X8_clear 0 = cd_X8_clear_0 := rfl
abbrev tb_X8_copyFrom : ev_Tb := (ev_lu fl_X8, ev_lu (ca_X8), ev_lu th_X8, ev_lu ko_X8, ev_lu kl_X8, 2, false)
def cd_X8_copyFrom_0 : List (Nat × Instr) := (0, .aload 1) :: (1, .getfield 22) :: (4, .aload 0) :: (5, .getfield 22) :: (8, .invokestatic 32) :: (11, .return_) :: []
def cd_X8_copyFrom : List (Nat × Instr) := cd_X8_copyFrom_0
set_option maxRecDepth 100000 in
theorem at_X8_copyFrom_0 : ev_at cd_X8_copyFrom 0 = cd_X8_copyFrom_0 := rfl
abbrev tb_X9_init : ev_Tb := (ev_lu fl_X9, ev_lu (ca_X9), ev_lu th_X9, ev_lu ko_X9, ev_lu kl_X9, 1, false)
def cd_X9_init_0 : List (Nat × Instr) := (0, .aload 0) :: (1, .invokespecial 3) :: (4, .aload 0) :: (5, .sipush 501) :: (8, .newarray .int) :: (10, .putfield 9) :: (13, .aload 0) :: (14, .sipush 501) :: (17, .newarray .int) :: (19, .putfield 15) :: (22, .aload 0) :: (23, .sipush 501) :: (26, .newarray .long) :: (28, .putfield 18) :: (31, .return_) :: []
def cd_X9_init : List (Nat × Instr) := cd_X9_init_0
set_option maxRecDepth 100000 in
theorem at_X9_init_0 : ev_at cd_X9_init 0 = cd_X9_init_0 := rfl
abbrev tb_X9_split : ev_Tb := (ev_lu fl_X9, ev_lu (ca_X9), ev_lu th_X9, ev_lu ko_X9, ev_lu kl_X9, 5, false)
def cd_X9_split_121 : List (Nat × Instr) := (121, .aload 0) :: (122, .iconst 0) :: (123, .iload 2) :: (124, .lconst 0) :: (125, .invokevirtual 52) :: (128, .return_) :: []
def cd_X9_split_115 : List (Nat × Instr) := (115, .iinc 3 1) :: (118, .goto 12) :: cd_X9_split_121
def cd_X9_split_91 : List (Nat × Instr) := (91, .aload 0) :: (92, .iload 4) :: (94, .invokestatic 49) :: (97, .aload 0) :: (98, .getfield 26) :: (101, .lconst 0) :: (102, .invokevirtual 52) :: (105, .aload 0) :: (106, .dup) :: (107, .getfield 26) :: (110, .iconst 1) :: (111, .iadd) :: (112, .putfield 26) :: cd_X9_split_115
def cd_X9_split_74 : List (Nat × Instr) := (74, .iload 4) :: (76, .invokestatic 43) :: (79, .ifCond .eq 91) :: (82, .aload 0) :: (83, .aload 1) :: (84, .iload 2) :: (85, .invokevirtual 46) :: (88, .goto 115) :: cd_X9_split_91
def cd_X9_split_57 : List (Nat × Instr) := (57, .iload 4) :: (59, .invokestatic 35) :: (62, .ifCond .eq 74) :: (65, .aload 0) :: (66, .aload 1) :: (67, .iload 2) :: (68, .invokevirtual 39) :: (71, .goto 115) :: cd_X9_split_74
def cd_X9_split_12 : List (Nat × Instr) := (12, .iload 3) :: (13, .sipush 500) :: (16, .if_icmp .ge 121) :: (19, .aload 0) :: (20, .getfield 26) :: (23, .iload 2) :: (24, .if_icmp .ge 121) :: (27, .aload 1) :: (28, .aload 0) :: (29, .getfield 26) :: (32, .invokevirtual 29) :: (35, .istore 4) :: (37, .iload 4) :: (39, .bipush 32) :: (41, .if_icmp .ne 57) :: (44, .aload 0) :: (45, .dup) :: (46, .getfield 26) :: (49, .iconst 1) :: (50, .iadd) :: (51, .putfield 26) :: (54, .goto 115) :: cd_X9_split_57
def cd_X9_split_0 : List (Nat × Instr) := (0, .aload 0) :: (1, .iconst 0) :: (2, .putfield 22) :: (5, .aload 0) :: (6, .iconst 0) :: (7, .putfield 26) :: (10, .iconst 0) :: (11, .istore 3) :: cd_X9_split_12
def cd_X9_split : List (Nat × Instr) := cd_X9_split_0
set_option maxRecDepth 100000 in
theorem at_X9_split_121 : ev_at cd_X9_split 121 = cd_X9_split_121 := rfl
set_option maxRecDepth 100000 in
theorem at_X9_split_115 : ev_at cd_X9_split 115 = cd_X9_split_115 := rfl
set_option maxRecDepth 100000 in
theorem at_X9_split_91 : ev_at cd_X9_split 91 = cd_X9_split_91 := rfl
set_option maxRecDepth 100000 in
theorem at_X9_split_74 : ev_at cd_X9_split 74 = cd_X9_split_74 := rfl
set_option maxRecDepth 100000 in
theorem at_X9_split_57 : ev_at cd_X9_split 57 = cd_X9_split_57 := rfl
set_option maxRecDepth 100000 in
theorem at_X9_split_12 : ev_at cd_X9_split 12 = cd_X9_split_12 := rfl
set_option maxRecDepth 100000 in
theorem at_X9_split_0 : ev_at cd_X9_split 0 = cd_X9_split_0 := rfl
abbrev tb_X9_kind : ev_Tb := (ev_lu fl_X9, ev_lu (ca_X9), ev_lu th_X9, ev_lu ko_X9, ev_lu kl_X9, 2, false)
def cd_X9_kind_23 : List (Nat × Instr) := (23, .ireturn) :: []
def cd_X9_kind_22 : List (Nat × Instr) := (22, .iconst 0) :: cd_X9_kind_23
def cd_X9_kind_0 : List (Nat × Instr) := (0, .iload 1) :: (1, .ifCond .lt 22) :: (4, .iload 1) :: (5, .aload 0) :: (6, .getfield 9) :: (9, .arraylength) :: (10, .if_icmp .ge 22) :: (13, .aload 0) :: (14, .getfield 9) :: (17, .iload 1) :: (18, .iaload) :: (19, .goto 23) :: cd_X9_kind_22
def cd_X9_kind : List (Nat × Instr) := cd_X9_kind_0
set_option maxRecDepth 100000 in
theorem at_X9_kind_23 : ev_at cd_X9_kind 23 = cd_X9_kind_23 := rfl
set_option maxRecDepth 100000 in
theorem at_X9_kind_22 : ev_at cd_X9_kind 22 = cd_X9_kind_22 := rfl
set_option maxRecDepth 100000 in
theorem at_X9_kind_0 : ev_at cd_X9_kind 0 = cd_X9_kind_0 := rfl
abbrev tb_X9_start : ev_Tb := (ev_lu fl_X9, ev_lu (ca_X9), ev_lu th_X9, ev_lu ko_X9, ev_lu kl_X9, 2, false)
def cd_X9_start_23 : List (Nat × Instr) := (23, .ireturn) :: []
def cd_X9_start_22 : List (Nat × Instr) := (22, .iconst 0) :: cd_X9_start_23
def cd_X9_start_0 : List (Nat × Instr) := (0, .iload 1) :: (1, .ifCond .lt 22) :: (4, .iload 1) :: (5, .aload 0) :: (6, .getfield 15) :: (9, .arraylength) :: (10, .if_icmp .ge 22) :: (13, .aload 0) :: (14, .getfield 15) :: (17, .iload 1) :: (18, .iaload) :: (19, .goto 23) :: cd_X9_start_22
def cd_X9_start : List (Nat × Instr) := cd_X9_start_0
set_option maxRecDepth 100000 in
theorem at_X9_start_23 : ev_at cd_X9_start 23 = cd_X9_start_23 := rfl
set_option maxRecDepth 100000 in
theorem at_X9_start_22 : ev_at cd_X9_start 22 = cd_X9_start_22 := rfl
set_option maxRecDepth 100000 in
theorem at_X9_start_0 : ev_at cd_X9_start 0 = cd_X9_start_0 := rfl
abbrev tb_X9_value : ev_Tb := (ev_lu fl_X9, ev_lu (ca_X9), ev_lu th_X9, ev_lu ko_X9, ev_lu kl_X9, 2, false)
def cd_X9_value_23 : List (Nat × Instr) := (23, .lreturn) :: []
def cd_X9_value_22 : List (Nat × Instr) := (22, .lconst 0) :: cd_X9_value_23
def cd_X9_value_0 : List (Nat × Instr) := (0, .iload 1) :: (1, .ifCond .lt 22) :: (4, .iload 1) :: (5, .aload 0) :: (6, .getfield 18) :: (9, .arraylength) :: (10, .if_icmp .ge 22) :: (13, .aload 0) :: (14, .getfield 18) :: (17, .iload 1) :: (18, .laload) :: (19, .goto 23) :: cd_X9_value_22
def cd_X9_value : List (Nat × Instr) := cd_X9_value_0
set_option maxRecDepth 100000 in
theorem at_X9_value_23 : ev_at cd_X9_value 23 = cd_X9_value_23 := rfl
set_option maxRecDepth 100000 in
theorem at_X9_value_22 : ev_at cd_X9_value 22 = cd_X9_value_22 := rfl
set_option maxRecDepth 100000 in
theorem at_X9_value_0 : ev_at cd_X9_value 0 = cd_X9_value_0 := rfl
abbrev tb_X9_add : ev_Tb := (ev_lu fl_X9, ev_lu (ca_X9), ev_lu th_X9, ev_lu ko_X9, ev_lu kl_X9, 5, false)
def cd_X9_add_63 : List (Nat × Instr) := (63, .return_) :: []
def cd_X9_add_0 : List (Nat × Instr) := (0, .aload 0) :: (1, .getfield 22) :: (4, .ifCond .lt 63) :: (7, .aload 0) :: (8, .getfield 22) :: (11, .aload 0) :: (12, .getfield 18) :: (15, .arraylength) :: (16, .if_icmp .ge 63) :: (19, .aload 0) :: (20, .getfield 9) :: (23, .aload 0) :: (24, .getfield 22) :: (27, .iload 1) :: (28, .invokestatic 56) :: (31, .aload 0) :: (32, .getfield 15) :: (35, .aload 0) :: (36, .getfield 22) :: (39, .iload 2) :: (40, .invokestatic 56) :: (43, .aload 0) :: (44, .getfield 18) :: (47, .aload 0) :: (48, .getfield 22) :: (51, .lload 3) :: (52, .lastore) :: (53, .aload 0) :: (54, .dup) :: (55, .getfield 22) :: (58, .iconst 1) :: (59, .iadd) :: (60, .putfield 22) :: cd_X9_add_63
def cd_X9_add : List (Nat × Instr) := cd_X9_add_0
set_option maxRecDepth 100000 in
theorem at_X9_add_63 : ev_at cd_X9_add 63 = cd_X9_add_63 := rfl
set_option maxRecDepth 100000 in
theorem at_X9_add_0 : ev_at cd_X9_add 0 = cd_X9_add_0 := rfl
abbrev tb_X9_addWordAt : ev_Tb := (ev_lu fl_X9, ev_lu (ca_X9), ev_lu th_X9, ev_lu ko_X9, ev_lu kl_X9, 6, false)
def cd_X9_addWordAt_78 : List (Nat × Instr) := (78, .iload 3) :: (79, .lload 4) :: (81, .invokevirtual 52) :: (84, .return_) :: []
def cd_X9_addWordAt_77 : List (Nat × Instr) := (77, .iconst 1) :: cd_X9_addWordAt_78
def cd_X9_addWordAt_60 : List (Nat × Instr) := (60, .aload 0) :: (61, .aload 0) :: (62, .getfield 26) :: (65, .iload 3) :: (66, .isub) :: (67, .bipush 8) :: (69, .if_icmp .le 77) :: (72, .bipush 6) :: (74, .goto 78) :: cd_X9_addWordAt_77
def cd_X9_addWordAt_8 : List (Nat × Instr) := (8, .aload 0) :: (9, .getfield 26) :: (12, .iload 2) :: (13, .if_icmp .ge 60) :: (16, .aload 1) :: (17, .aload 0) :: (18, .getfield 26) :: (21, .invokevirtual 29) :: (24, .invokestatic 35) :: (27, .ifCond .eq 60) :: (30, .lload 4) :: (32, .bipush 8) :: (34, .lshl) :: (35, .aload 1) :: (36, .aload 0) :: (37, .getfield 26) :: (40, .invokevirtual 29) :: (43, .i2l) :: (44, .lor) :: (45, .lstore 4) :: (47, .aload 0) :: (48, .dup) :: (49, .getfield 26) :: (52, .iconst 1) :: (53, .iadd) :: (54, .putfield 26) :: (57, .goto 8) :: cd_X9_addWordAt_60
def cd_X9_addWordAt_0 : List (Nat × Instr) := (0, .aload 0) :: (1, .getfield 26) :: (4, .istore 3) :: (5, .lconst 0) :: (6, .lstore 4) :: cd_X9_addWordAt_8
def cd_X9_addWordAt : List (Nat × Instr) := cd_X9_addWordAt_0
set_option maxRecDepth 100000 in
theorem at_X9_addWordAt_78 : ev_at cd_X9_addWordAt 78 = cd_X9_addWordAt_78 := rfl
set_option maxRecDepth 100000 in
theorem at_X9_addWordAt_77 : ev_at cd_X9_addWordAt 77 = cd_X9_addWordAt_77 := rfl
set_option maxRecDepth 100000 in
theorem at_X9_addWordAt_60 : ev_at cd_X9_addWordAt 60 = cd_X9_addWordAt_60 := rfl
set_option maxRecDepth 100000 in
theorem at_X9_addWordAt_8 : ev_at cd_X9_addWordAt 8 = cd_X9_addWordAt_8 := rfl
set_option maxRecDepth 100000 in
theorem at_X9_addWordAt_0 : ev_at cd_X9_addWordAt 0 = cd_X9_addWordAt_0 := rfl
abbrev tb_X9_addNumberAt : ev_Tb := (ev_lu fl_X9, ev_lu (ca_X9), ev_lu th_X9, ev_lu ko_X9, ev_lu kl_X9, 6, false)
def cd_X9_addNumberAt_82 : List (Nat × Instr) := (82, .iload 3) :: (83, .lload 4) :: (85, .invokevirtual 52) :: (88, .return_) :: []
def cd_X9_addNumberAt_81 : List (Nat × Instr) := (81, .iconst 2) :: cd_X9_addNumberAt_82
def cd_X9_addNumberAt_65 : List (Nat × Instr) := (65, .aload 0) :: (66, .aload 0) :: (67, .getfield 26) :: (70, .iload 3) :: (71, .isub) :: (72, .iconst 3) :: (73, .if_icmp .le 81) :: (76, .bipush 6) :: (78, .goto 82) :: cd_X9_addNumberAt_81
def cd_X9_addNumberAt_8 : List (Nat × Instr) := (8, .aload 0) :: (9, .getfield 26) :: (12, .iload 2) :: (13, .if_icmp .ge 65) :: (16, .aload 1) :: (17, .aload 0) :: (18, .getfield 26) :: (21, .invokevirtual 29) :: (24, .invokestatic 43) :: (27, .ifCond .eq 65) :: (30, .lload 4) :: (32, .ldc2_w 60) :: (35, .lmul) :: (36, .aload 1) :: (37, .aload 0) :: (38, .getfield 26) :: (41, .invokevirtual 29) :: (44, .i2l) :: (45, .ladd) :: (46, .ldc2_w 62) :: (49, .lsub) :: (50, .lstore 4) :: (52, .aload 0) :: (53, .dup) :: (54, .getfield 26) :: (57, .iconst 1) :: (58, .iadd) :: (59, .putfield 26) :: (62, .goto 8) :: cd_X9_addNumberAt_65
def cd_X9_addNumberAt_0 : List (Nat × Instr) := (0, .aload 0) :: (1, .getfield 26) :: (4, .istore 3) :: (5, .lconst 0) :: (6, .lstore 4) :: cd_X9_addNumberAt_8
def cd_X9_addNumberAt : List (Nat × Instr) := cd_X9_addNumberAt_0
set_option maxRecDepth 100000 in
theorem at_X9_addNumberAt_82 : ev_at cd_X9_addNumberAt 82 = cd_X9_addNumberAt_82 := rfl
set_option maxRecDepth 100000 in
theorem at_X9_addNumberAt_81 : ev_at cd_X9_addNumberAt 81 = cd_X9_addNumberAt_81 := rfl
set_option maxRecDepth 100000 in
theorem at_X9_addNumberAt_65 : ev_at cd_X9_addNumberAt 65 = cd_X9_addNumberAt_65 := rfl
set_option maxRecDepth 100000 in
theorem at_X9_addNumberAt_8 : ev_at cd_X9_addNumberAt 8 = cd_X9_addNumberAt_8 := rfl
set_option maxRecDepth 100000 in
theorem at_X9_addNumberAt_0 : ev_at cd_X9_addNumberAt 0 = cd_X9_addNumberAt_0 := rfl
abbrev tb_X9_isLetter : ev_Tb := (ev_lu fl_X9, ev_lu (ca_X9), ev_lu th_X9, ev_lu ko_X9, ev_lu kl_X9, 1, true)
def cd_X9_isLetter_17 : List (Nat × Instr) := (17, .ireturn) :: []
def cd_X9_isLetter_16 : List (Nat × Instr) := (16, .iconst 0) :: cd_X9_isLetter_17
def cd_X9_isLetter_0 : List (Nat × Instr) := (0, .iload 0) :: (1, .bipush 97) :: (3, .if_icmp .lt 16) :: (6, .iload 0) :: (7, .bipush 122) :: (9, .if_icmp .gt 16) :: (12, .iconst 1) :: (13, .goto 17) :: cd_X9_isLetter_16
def cd_X9_isLetter : List (Nat × Instr) := cd_X9_isLetter_0
set_option maxRecDepth 100000 in
theorem at_X9_isLetter_17 : ev_at cd_X9_isLetter 17 = cd_X9_isLetter_17 := rfl
set_option maxRecDepth 100000 in
theorem at_X9_isLetter_16 : ev_at cd_X9_isLetter 16 = cd_X9_isLetter_16 := rfl
set_option maxRecDepth 100000 in
theorem at_X9_isLetter_0 : ev_at cd_X9_isLetter 0 = cd_X9_isLetter_0 := rfl
abbrev tb_X9_isDigit : ev_Tb := (ev_lu fl_X9, ev_lu (ca_X9), ev_lu th_X9, ev_lu ko_X9, ev_lu kl_X9, 1, true)
def cd_X9_isDigit_17 : List (Nat × Instr) := (17, .ireturn) :: []
def cd_X9_isDigit_16 : List (Nat × Instr) := (16, .iconst 0) :: cd_X9_isDigit_17
def cd_X9_isDigit_0 : List (Nat × Instr) := (0, .iload 0) :: (1, .bipush 48) :: (3, .if_icmp .lt 16) :: (6, .iload 0) :: (7, .bipush 57) :: (9, .if_icmp .gt 16) :: (12, .iconst 1) :: (13, .goto 17) :: cd_X9_isDigit_16
def cd_X9_isDigit : List (Nat × Instr) := cd_X9_isDigit_0
set_option maxRecDepth 100000 in
theorem at_X9_isDigit_17 : ev_at cd_X9_isDigit 17 = cd_X9_isDigit_17 := rfl
set_option maxRecDepth 100000 in
theorem at_X9_isDigit_16 : ev_at cd_X9_isDigit 16 = cd_X9_isDigit_16 := rfl
set_option maxRecDepth 100000 in
theorem at_X9_isDigit_0 : ev_at cd_X9_isDigit 0 = cd_X9_isDigit_0 := rfl
abbrev tb_X9_kindOf : ev_Tb := (ev_lu fl_X9, ev_lu (ca_X9), ev_lu th_X9, ev_lu ko_X9, ev_lu kl_X9, 1, false)
def cd_X9_kindOf_0 : List (Nat × Instr) := (0, .iload 0) :: (1, .lookupswitch 41 #[(40, 37), (41, 39), (59, 35)]) :: (36, .iconst 3) :: (37, .ireturn) :: (38, .iconst 4) :: (39, .ireturn) :: (40, .iconst 5) :: (41, .ireturn) :: (42, .bipush 6) :: (44, .ireturn) :: []
def cd_X9_kindOf : List (Nat × Instr) := cd_X9_kindOf_0
set_option maxRecDepth 100000 in
theorem at_X9_kindOf_0 : ev_at cd_X9_kindOf 0 = cd_X9_kindOf_0 := rfl
abbrev tb_X10_init : ev_Tb := (ev_lu fl_X10, ev_lu (ca_X10), ev_lu th_X10, ev_lu ko_X10, ev_lu kl_X10, 2, false)
def cd_X10_init_113 : List (Nat × Instr) := (113, .return_) :: []
def cd_X10_init_85 : List (Nat × Instr) := (85, .iload 1) :: (86, .aload 0) :: (87, .getfield 45) :: (90, .arraylength) :: (91, .if_icmp .ge 113) :: (94, .aload 0) :: (95, .getfield 45) :: (98, .iload 1) :: (99, .new 28) :: (102, .dup) :: (103, .invokespecial 30) :: (106, .aastore) :: (107, .iinc 1 1) :: (110, .goto 85) :: cd_X10_init_113
def cd_X10_init_0 : List (Nat × Instr) := (0, .aload 0) :: (1, .invokespecial 1) :: (4, .aload 0) :: (5, .new 7) :: (8, .dup) :: (9, .sipush 500) :: (12, .invokespecial 11) :: (15, .putfield 14) :: (18, .aload 0) :: (19, .new 7) :: (22, .dup) :: (23, .bipush 64) :: (25, .invokespecial 11) :: (28, .putfield 18) :: (31, .aload 0) :: (32, .new 21) :: (35, .dup) :: (36, .invokespecial 23) :: (39, .putfield 24) :: (42, .aload 0) :: (43, .new 28) :: (46, .dup) :: (47, .invokespecial 30) :: (50, .putfield 31) :: (53, .aload 0) :: (54, .new 28) :: (57, .dup) :: (58, .invokespecial 30) :: (61, .putfield 35) :: (64, .aload 0) :: (65, .new 38) :: (68, .dup) :: (69, .invokespecial 40) :: (72, .putfield 41) :: (75, .aload 0) :: (76, .iconst 2) :: (77, .anewarray 28) :: (80, .putfield 45) :: (83, .iconst 0) :: (84, .istore 1) :: cd_X10_init_85
def cd_X10_init : List (Nat × Instr) := cd_X10_init_0
set_option maxRecDepth 100000 in
theorem at_X10_init_113 : ev_at cd_X10_init 113 = cd_X10_init_113 := rfl
set_option maxRecDepth 100000 in
theorem at_X10_init_85 : ev_at cd_X10_init 85 = cd_X10_init_85 := rfl
set_option maxRecDepth 100000 in
theorem at_X10_init_0 : ev_at cd_X10_init 0 = cd_X10_init_0 := rfl
abbrev tb_X10_append : ev_Tb := (ev_lu fl_X10, ev_lu (ca_X10), ev_lu th_X10, ev_lu ko_X10, ev_lu kl_X10, 6, false)
def cd_X10_append_18 : List (Nat × Instr) := (18, .aload 0) :: (19, .getfield 14) :: (22, .iload 1) :: (23, .invokevirtual 53) :: (26, .aload 0) :: (27, .getfield 14) :: (30, .iload 2) :: (31, .invokevirtual 53) :: (34, .aload 0) :: (35, .getfield 14) :: (38, .iload 3) :: (39, .invokevirtual 53) :: (42, .aload 0) :: (43, .getfield 14) :: (46, .iload 4) :: (48, .invokevirtual 53) :: (51, .aload 0) :: (52, .getfield 14) :: (55, .iload 5) :: (57, .invokevirtual 53) :: (60, .aload 0) :: (61, .getfield 14) :: (64, .getfield 49) :: (67, .ireturn) :: []
def cd_X10_append_0 : List (Nat × Instr) := (0, .aload 0) :: (1, .getfield 14) :: (4, .getfield 49) :: (7, .bipush 20) :: (9, .iadd) :: (10, .sipush 500) :: (13, .if_icmp .le 18) :: (16, .iconst (-1)) :: (17, .ireturn) :: cd_X10_append_18
def cd_X10_append : List (Nat × Instr) := cd_X10_append_0
set_option maxRecDepth 100000 in
theorem at_X10_append_18 : ev_at cd_X10_append 18 = cd_X10_append_18 := rfl
set_option maxRecDepth 100000 in
theorem at_X10_append_0 : ev_at cd_X10_append 0 = cd_X10_append_0 := rfl
abbrev tb_X10_parseSetup : ev_Tb := (ev_lu fl_X10, ev_lu (ca_X10), ev_lu th_X10, ev_lu ko_X10, ev_lu kl_X10, 4, false)
def cd_X10_parseSetup_115 : List (Nat × Instr) := (115, .aload 0) :: (116, .getfield 31) :: (119, .getfield 87) :: (122, .ireturn) :: []
def cd_X10_parseSetup_90 : List (Nat × Instr) := (90, .iload 3) :: (91, .aload 0) :: (92, .getfield 45) :: (95, .arraylength) :: (96, .if_icmp .ge 115) :: (99, .aload 0) :: (100, .getfield 45) :: (103, .iload 3) :: (104, .aaload) :: (105, .iconst 0) :: (106, .putfield 80) :: (109, .iinc 3 1) :: (112, .goto 90) :: cd_X10_parseSetup_115
def cd_X10_parseSetup_59 : List (Nat × Instr) := (59, .aload 0) :: (60, .getfield 31) :: (63, .aload 0) :: (64, .getfield 24) :: (67, .getfield 75) :: (70, .invokevirtual 76) :: (73, .aload 0) :: (74, .getfield 31) :: (77, .iconst 1) :: (78, .putfield 80) :: (81, .aload 0) :: (82, .getfield 41) :: (85, .invokevirtual 84) :: (88, .iconst 0) :: (89, .istore 3) :: cd_X10_parseSetup_90
def cd_X10_parseSetup_25 : List (Nat × Instr) := (25, .aload 0) :: (26, .getfield 24) :: (29, .aload 0) :: (30, .getfield 14) :: (33, .iload 1) :: (34, .invokevirtual 63) :: (37, .istore 2) :: (38, .aload 0) :: (39, .getfield 14) :: (42, .invokevirtual 67) :: (45, .iload 2) :: (46, .ifCond .ne 59) :: (49, .new 70) :: (52, .dup) :: (53, .ldc 72) :: (55, .invokespecial 74) :: (58, .athrow) :: cd_X10_parseSetup_59
def cd_X10_parseSetup_15 : List (Nat × Instr) := (15, .new 56) :: (18, .dup) :: (19, .ldc 58) :: (21, .invokespecial 60) :: (24, .athrow) :: cd_X10_parseSetup_25
def cd_X10_parseSetup_0 : List (Nat × Instr) := (0, .iload 1) :: (1, .ifCond .lt 15) :: (4, .iload 1) :: (5, .aload 0) :: (6, .getfield 14) :: (9, .getfield 49) :: (12, .if_icmp .le 25) :: cd_X10_parseSetup_15
def cd_X10_parseSetup : List (Nat × Instr) := cd_X10_parseSetup_0
set_option maxRecDepth 100000 in
theorem at_X10_parseSetup_115 : ev_at cd_X10_parseSetup 115 = cd_X10_parseSetup_115 := rfl
set_option maxRecDepth 100000 in
theorem at_X10_parseSetup_90 : ev_at cd_X10_parseSetup 90 = cd_X10_parseSetup_90 := rfl
set_option maxRecDepth 100000 in
theorem at_X10_parseSetup_59 : ev_at cd_X10_parseSetup 59 = cd_X10_parseSetup_59 := rfl
set_option maxRecDepth 100000 in
theorem at_X10_parseSetup_25 : ev_at cd_X10_parseSetup 25 = cd_X10_parseSetup_25 := rfl
set_option maxRecDepth 100000 in
theorem at_X10_parseSetup_15 : ev_at cd_X10_parseSetup 15 = cd_X10_parseSetup_15 := rfl
set_option maxRecDepth 100000 in
theorem at_X10_parseSetup_0 : ev_at cd_X10_parseSetup 0 = cd_X10_parseSetup_0 := rfl
abbrev tb_X10_parseErrorCode : ev_Tb := (ev_lu fl_X10, ev_lu (ca_X10), ev_lu th_X10, ev_lu ko_X10, ev_lu kl_X10, 1, false)
def cd_X10_parseErrorCode_0 : List (Nat × Instr) := (0, .aload 0) :: (1, .getfield 24) :: (4, .getfield 90) :: (7, .ireturn) :: []
def cd_X10_parseErrorCode : List (Nat × Instr) := cd_X10_parseErrorCode_0
set_option maxRecDepth 100000 in
theorem at_X10_parseErrorCode_0 : ev_at cd_X10_parseErrorCode 0 = cd_X10_parseErrorCode_0 := rfl
abbrev tb_X10_parseErrorPosition : ev_Tb := (ev_lu fl_X10, ev_lu (ca_X10), ev_lu th_X10, ev_lu ko_X10, ev_lu kl_X10, 1, false)
def cd_X10_parseErrorPosition_0 : List (Nat × Instr) := (0, .aload 0) :: (1, .getfield 24) :: (4, .getfield 93) :: (7, .ireturn) :: []
def cd_X10_parseErrorPosition : List (Nat × Instr) := cd_X10_parseErrorPosition_0
set_option maxRecDepth 100000 in
theorem at_X10_parseErrorPosition_0 : ev_at cd_X10_parseErrorPosition 0 = cd_X10_parseErrorPosition_0 := rfl
abbrev tb_X10_bufferLength : ev_Tb := (ev_lu fl_X10, ev_lu (ca_X10), ev_lu th_X10, ev_lu ko_X10, ev_lu kl_X10, 1, false)
def cd_X10_bufferLength_0 : List (Nat × Instr) := (0, .aload 0) :: (1, .getfield 14) :: (4, .getfield 49) :: (7, .ireturn) :: []
def cd_X10_bufferLength : List (Nat × Instr) := cd_X10_bufferLength_0
set_option maxRecDepth 100000 in
theorem at_X10_bufferLength_0 : ev_at cd_X10_bufferLength 0 = cd_X10_bufferLength_0 := rfl
abbrev tb_X10_pancakeCount : ev_Tb := (ev_lu fl_X10, ev_lu (ca_X10), ev_lu th_X10, ev_lu ko_X10, ev_lu kl_X10, 1, false)
def cd_X10_pancakeCount_0 : List (Nat × Instr) := (0, .aload 0) :: (1, .invokevirtual 96) :: (4, .aload 0) :: (5, .getfield 31) :: (8, .getfield 87) :: (11, .ireturn) :: []
def cd_X10_pancakeCount : List (Nat × Instr) := cd_X10_pancakeCount_0
set_option maxRecDepth 100000 in
theorem at_X10_pancakeCount_0 : ev_at cd_X10_pancakeCount 0 = cd_X10_pancakeCount_0 := rfl
abbrev tb_X10_topicOf : ev_Tb := (ev_lu fl_X10, ev_lu (ca_X10), ev_lu th_X10, ev_lu ko_X10, ev_lu kl_X10, 2, false)
def cd_X10_topicOf_0 : List (Nat × Instr) := (0, .aload 0) :: (1, .iload 1) :: (2, .invokevirtual 99) :: (5, .aload 0) :: (6, .getfield 31) :: (9, .getfield 102) :: (12, .iload 1) :: (13, .invokestatic 106) :: (16, .ireturn) :: []
def cd_X10_topicOf : List (Nat × Instr) := cd_X10_topicOf_0
set_option maxRecDepth 100000 in
theorem at_X10_topicOf_0 : ev_at cd_X10_topicOf 0 = cd_X10_topicOf_0 := rfl
abbrev tb_X10_cookCount : ev_Tb := (ev_lu fl_X10, ev_lu (ca_X10), ev_lu th_X10, ev_lu ko_X10, ev_lu kl_X10, 2, false)
def cd_X10_cookCount_0 : List (Nat × Instr) := (0, .aload 0) :: (1, .iload 1) :: (2, .invokevirtual 99) :: (5, .aload 0) :: (6, .getfield 31) :: (9, .getfield 110) :: (12, .iload 1) :: (13, .invokevirtual 114) :: (16, .ireturn) :: []
def cd_X10_cookCount : List (Nat × Instr) := cd_X10_cookCount_0
set_option maxRecDepth 100000 in
theorem at_X10_cookCount_0 : ev_at cd_X10_cookCount 0 = cd_X10_cookCount_0 := rfl
abbrev tb_X10_cookAt : ev_Tb := (ev_lu fl_X10, ev_lu (ca_X10), ev_lu th_X10, ev_lu ko_X10, ev_lu kl_X10, 3, false)
def cd_X10_cookAt_34 : List (Nat × Instr) := (34, .aload 0) :: (35, .getfield 31) :: (38, .getfield 110) :: (41, .iload 1) :: (42, .iload 2) :: (43, .invokevirtual 121) :: (46, .ireturn) :: []
def cd_X10_cookAt_24 : List (Nat × Instr) := (24, .new 56) :: (27, .dup) :: (28, .ldc 119) :: (30, .invokespecial 60) :: (33, .athrow) :: cd_X10_cookAt_34
def cd_X10_cookAt_0 : List (Nat × Instr) := (0, .aload 0) :: (1, .iload 1) :: (2, .invokevirtual 99) :: (5, .iload 2) :: (6, .ifCond .lt 24) :: (9, .iload 2) :: (10, .aload 0) :: (11, .getfield 31) :: (14, .getfield 110) :: (17, .iload 1) :: (18, .invokevirtual 114) :: (21, .if_icmp .lt 34) :: cd_X10_cookAt_24
def cd_X10_cookAt : List (Nat × Instr) := cd_X10_cookAt_0
set_option maxRecDepth 100000 in
theorem at_X10_cookAt_34 : ev_at cd_X10_cookAt 34 = cd_X10_cookAt_34 := rfl
set_option maxRecDepth 100000 in
theorem at_X10_cookAt_24 : ev_at cd_X10_cookAt 24 = cd_X10_cookAt_24 := rfl
set_option maxRecDepth 100000 in
theorem at_X10_cookAt_0 : ev_at cd_X10_cookAt 0 = cd_X10_cookAt_0 := rfl
abbrev tb_X10_personCount : ev_Tb := (ev_lu fl_X10, ev_lu (ca_X10), ev_lu th_X10, ev_lu ko_X10, ev_lu kl_X10, 1, false)
def cd_X10_personCount_0 : List (Nat × Instr) := (0, .aload 0) :: (1, .invokevirtual 96) :: (4, .aload 0) :: (5, .getfield 31) :: (8, .getfield 125) :: (11, .ireturn) :: []
def cd_X10_personCount : List (Nat × Instr) := cd_X10_personCount_0
set_option maxRecDepth 100000 in
theorem at_X10_personCount_0 : ev_at cd_X10_personCount 0 = cd_X10_personCount_0 := rfl
abbrev tb_X10_nameLetter : ev_Tb := (ev_lu fl_X10, ev_lu (ca_X10), ev_lu th_X10, ev_lu ko_X10, ev_lu kl_X10, 6, false)
def cd_X10_nameLetter_41 : List (Nat × Instr) := (41, .ireturn) :: []
def cd_X10_nameLetter_34 : List (Nat × Instr) := (34, .lload 3) :: (35, .iload 5) :: (37, .iload 2) :: (38, .invokestatic 139) :: cd_X10_nameLetter_41
def cd_X10_nameLetter_30 : List (Nat × Instr) := (30, .iconst (-1)) :: (31, .goto 41) :: cd_X10_nameLetter_34
def cd_X10_nameLetter_0 : List (Nat × Instr) := (0, .aload 0) :: (1, .iload 1) :: (2, .invokevirtual 128) :: (5, .aload 0) :: (6, .getfield 31) :: (9, .iload 1) :: (10, .invokevirtual 131) :: (13, .lstore 3) :: (14, .lload 3) :: (15, .invokestatic 135) :: (18, .istore 5) :: (20, .iload 2) :: (21, .ifCond .lt 30) :: (24, .iload 2) :: (25, .iload 5) :: (27, .if_icmp .lt 34) :: cd_X10_nameLetter_30
def cd_X10_nameLetter : List (Nat × Instr) := cd_X10_nameLetter_0
set_option maxRecDepth 100000 in
theorem at_X10_nameLetter_41 : ev_at cd_X10_nameLetter 41 = cd_X10_nameLetter_41 := rfl
set_option maxRecDepth 100000 in
theorem at_X10_nameLetter_34 : ev_at cd_X10_nameLetter 34 = cd_X10_nameLetter_34 := rfl
set_option maxRecDepth 100000 in
theorem at_X10_nameLetter_30 : ev_at cd_X10_nameLetter 30 = cd_X10_nameLetter_30 := rfl
set_option maxRecDepth 100000 in
theorem at_X10_nameLetter_0 : ev_at cd_X10_nameLetter 0 = cd_X10_nameLetter_0 := rfl
abbrev tb_X10_kitchenOf : ev_Tb := (ev_lu fl_X10, ev_lu (ca_X10), ev_lu th_X10, ev_lu ko_X10, ev_lu kl_X10, 2, false)
def cd_X10_kitchenOf_0 : List (Nat × Instr) := (0, .aload 0) :: (1, .iload 1) :: (2, .invokevirtual 128) :: (5, .aload 0) :: (6, .getfield 31) :: (9, .getfield 143) :: (12, .iload 1) :: (13, .invokestatic 106) :: (16, .ireturn) :: []
def cd_X10_kitchenOf : List (Nat × Instr) := cd_X10_kitchenOf_0
set_option maxRecDepth 100000 in
theorem at_X10_kitchenOf_0 : ev_at cd_X10_kitchenOf 0 = cd_X10_kitchenOf_0 := rfl
abbrev tb_X10_isTaster : ev_Tb := (ev_lu fl_X10, ev_lu (ca_X10), ev_lu th_X10, ev_lu ko_X10, ev_lu kl_X10, 2, true)
def cd_X10_isTaster_0 : List (Nat × Instr) := (0, .aload 0) :: (1, .iload 1) :: (2, .invokevirtual 128) :: (5, .aload 0) :: (6, .getfield 31) :: (9, .iload 1) :: (10, .invokevirtual 146) :: (13, .ireturn) :: []
def cd_X10_isTaster : List (Nat × Instr) := cd_X10_isTaster_0
set_option maxRecDepth 100000 in
theorem at_X10_isTaster_0 : ev_at cd_X10_isTaster 0 = cd_X10_isTaster_0 := rfl
abbrev tb_X10_limitOf : ev_Tb := (ev_lu fl_X10, ev_lu (ca_X10), ev_lu th_X10, ev_lu ko_X10, ev_lu kl_X10, 2, false)
def cd_X10_limitOf_0 : List (Nat × Instr) := (0, .aload 0) :: (1, .iload 1) :: (2, .invokevirtual 128) :: (5, .aload 0) :: (6, .getfield 31) :: (9, .getfield 150) :: (12, .iload 1) :: (13, .invokestatic 106) :: (16, .ireturn) :: []
def cd_X10_limitOf : List (Nat × Instr) := cd_X10_limitOf_0
set_option maxRecDepth 100000 in
theorem at_X10_limitOf_0 : ev_at cd_X10_limitOf 0 = cd_X10_limitOf_0 := rfl
abbrev tb_X10_tasteOf : ev_Tb := (ev_lu fl_X10, ev_lu (ca_X10), ev_lu th_X10, ev_lu ko_X10, ev_lu kl_X10, 3, false)
def cd_X10_tasteOf_24 : List (Nat × Instr) := (24, .aload 0) :: (25, .getfield 31) :: (28, .getfield 155) :: (31, .iload 1) :: (32, .iload 2) :: (33, .invokevirtual 159) :: (36, .ireturn) :: []
def cd_X10_tasteOf_14 : List (Nat × Instr) := (14, .new 56) :: (17, .dup) :: (18, .ldc 153) :: (20, .invokespecial 60) :: (23, .athrow) :: cd_X10_tasteOf_24
def cd_X10_tasteOf_0 : List (Nat × Instr) := (0, .aload 0) :: (1, .iload 1) :: (2, .invokevirtual 128) :: (5, .iload 2) :: (6, .ifCond .lt 14) :: (9, .iload 2) :: (10, .iconst 4) :: (11, .if_icmp .lt 24) :: cd_X10_tasteOf_14
def cd_X10_tasteOf : List (Nat × Instr) := cd_X10_tasteOf_0
set_option maxRecDepth 100000 in
theorem at_X10_tasteOf_24 : ev_at cd_X10_tasteOf 24 = cd_X10_tasteOf_24 := rfl
set_option maxRecDepth 100000 in
theorem at_X10_tasteOf_14 : ev_at cd_X10_tasteOf 14 = cd_X10_tasteOf_14 := rfl
set_option maxRecDepth 100000 in
theorem at_X10_tasteOf_0 : ev_at cd_X10_tasteOf 0 = cd_X10_tasteOf_0 := rfl
abbrev tb_X10_bidOf : ev_Tb := (ev_lu fl_X10, ev_lu (ca_X10), ev_lu th_X10, ev_lu ko_X10, ev_lu kl_X10, 3, false)
def cd_X10_bidOf_0 : List (Nat × Instr) := (0, .aload 0) :: (1, .iload 1) :: (2, .iload 2) :: (3, .invokevirtual 164) :: (6, .aload 0) :: (7, .getfield 31) :: (10, .getfield 168) :: (13, .iload 1) :: (14, .iload 2) :: (15, .invokevirtual 159) :: (18, .ireturn) :: []
def cd_X10_bidOf : List (Nat × Instr) := cd_X10_bidOf_0
set_option maxRecDepth 100000 in
theorem at_X10_bidOf_0 : ev_at cd_X10_bidOf 0 = cd_X10_bidOf_0 := rfl
abbrev tb_X10_preference : ev_Tb := (ev_lu fl_X10, ev_lu (ca_X10), ev_lu th_X10, ev_lu ko_X10, ev_lu kl_X10, 3, false)
def cd_X10_preference_0 : List (Nat × Instr) := (0, .aload 0) :: (1, .iload 1) :: (2, .iload 2) :: (3, .invokevirtual 164) :: (6, .aload 0) :: (7, .getfield 31) :: (10, .iload 1) :: (11, .iload 2) :: (12, .invokevirtual 171) :: (15, .ireturn) :: []
def cd_X10_preference : List (Nat × Instr) := cd_X10_preference_0
set_option maxRecDepth 100000 in
theorem at_X10_preference_0 : ev_at cd_X10_preference 0 = cd_X10_preference_0 := rfl
abbrev tb_X10_conflict : ev_Tb := (ev_lu fl_X10, ev_lu (ca_X10), ev_lu th_X10, ev_lu ko_X10, ev_lu kl_X10, 3, false)
def cd_X10_conflict_0 : List (Nat × Instr) := (0, .aload 0) :: (1, .iload 1) :: (2, .iload 2) :: (3, .invokevirtual 164) :: (6, .aload 0) :: (7, .getfield 31) :: (10, .iload 1) :: (11, .iload 2) :: (12, .invokevirtual 174) :: (15, .ireturn) :: []
def cd_X10_conflict : List (Nat × Instr) := cd_X10_conflict_0
set_option maxRecDepth 100000 in
theorem at_X10_conflict_0 : ev_at cd_X10_conflict 0 = cd_X10_conflict_0 := rfl
abbrev tb_X10_conflictCount : ev_Tb := (ev_lu fl_X10, ev_lu (ca_X10), ev_lu th_X10, ev_lu ko_X10, ev_lu kl_X10, 2, false)
def cd_X10_conflictCount_0 : List (Nat × Instr) := (0, .aload 0) :: (1, .iload 1) :: (2, .invokevirtual 99) :: (5, .aload 0) :: (6, .getfield 31) :: (9, .iload 1) :: (10, .invokevirtual 177) :: (13, .ireturn) :: []
def cd_X10_conflictCount : List (Nat × Instr) := cd_X10_conflictCount_0
set_option maxRecDepth 100000 in
theorem at_X10_conflictCount_0 : ev_at cd_X10_conflictCount 0 = cd_X10_conflictCount_0 := rfl
abbrev tb_X10_favoriteOf : ev_Tb := (ev_lu fl_X10, ev_lu (ca_X10), ev_lu th_X10, ev_lu ko_X10, ev_lu kl_X10, 2, false)
def cd_X10_favoriteOf_0 : List (Nat × Instr) := (0, .aload 0) :: (1, .iload 1) :: (2, .invokevirtual 128) :: (5, .aload 0) :: (6, .getfield 31) :: (9, .iload 1) :: (10, .invokevirtual 180) :: (13, .ireturn) :: []
def cd_X10_favoriteOf : List (Nat × Instr) := cd_X10_favoriteOf_0
set_option maxRecDepth 100000 in
theorem at_X10_favoriteOf_0 : ev_at cd_X10_favoriteOf 0 = cd_X10_favoriteOf_0 := rfl
abbrev tb_X10_seatCount : ev_Tb := (ev_lu fl_X10, ev_lu (ca_X10), ev_lu th_X10, ev_lu ko_X10, ev_lu kl_X10, 2, false)
def cd_X10_seatCount_0 : List (Nat × Instr) := (0, .aload 0) :: (1, .iload 1) :: (2, .invokevirtual 99) :: (5, .aload 0) :: (6, .getfield 31) :: (9, .getfield 183) :: (12, .iload 1) :: (13, .invokevirtual 114) :: (16, .ireturn) :: []
def cd_X10_seatCount : List (Nat × Instr) := cd_X10_seatCount_0
set_option maxRecDepth 100000 in
theorem at_X10_seatCount_0 : ev_at cd_X10_seatCount 0 = cd_X10_seatCount_0 := rfl
abbrev tb_X10_seatAt : ev_Tb := (ev_lu fl_X10, ev_lu (ca_X10), ev_lu th_X10, ev_lu ko_X10, ev_lu kl_X10, 3, false)
def cd_X10_seatAt_34 : List (Nat × Instr) := (34, .aload 0) :: (35, .getfield 31) :: (38, .getfield 183) :: (41, .iload 1) :: (42, .iload 2) :: (43, .invokevirtual 121) :: (46, .ireturn) :: []
def cd_X10_seatAt_24 : List (Nat × Instr) := (24, .new 56) :: (27, .dup) :: (28, .ldc 186) :: (30, .invokespecial 60) :: (33, .athrow) :: cd_X10_seatAt_34
def cd_X10_seatAt_0 : List (Nat × Instr) := (0, .aload 0) :: (1, .iload 1) :: (2, .invokevirtual 99) :: (5, .iload 2) :: (6, .ifCond .lt 24) :: (9, .iload 2) :: (10, .aload 0) :: (11, .getfield 31) :: (14, .getfield 183) :: (17, .iload 1) :: (18, .invokevirtual 114) :: (21, .if_icmp .lt 34) :: cd_X10_seatAt_24
def cd_X10_seatAt : List (Nat × Instr) := cd_X10_seatAt_0
set_option maxRecDepth 100000 in
theorem at_X10_seatAt_34 : ev_at cd_X10_seatAt 34 = cd_X10_seatAt_34 := rfl
set_option maxRecDepth 100000 in
theorem at_X10_seatAt_24 : ev_at cd_X10_seatAt 24 = cd_X10_seatAt_24 := rfl
set_option maxRecDepth 100000 in
theorem at_X10_seatAt_0 : ev_at cd_X10_seatAt 0 = cd_X10_seatAt_0 := rfl
abbrev tb_X10_loadOf : ev_Tb := (ev_lu fl_X10, ev_lu (ca_X10), ev_lu th_X10, ev_lu ko_X10, ev_lu kl_X10, 2, false)
def cd_X10_loadOf_0 : List (Nat × Instr) := (0, .aload 0) :: (1, .iload 1) :: (2, .invokevirtual 128) :: (5, .aload 0) :: (6, .getfield 31) :: (9, .iload 1) :: (10, .invokevirtual 188) :: (13, .ireturn) :: []
def cd_X10_loadOf : List (Nat × Instr) := cd_X10_loadOf_0
set_option maxRecDepth 100000 in
theorem at_X10_loadOf_0 : ev_at cd_X10_loadOf 0 = cd_X10_loadOf_0 := rfl
abbrev tb_X10_refusal : ev_Tb := (ev_lu fl_X10, ev_lu (ca_X10), ev_lu th_X10, ev_lu ko_X10, ev_lu kl_X10, 3, false)
def cd_X10_refusal_0 : List (Nat × Instr) := (0, .aload 0) :: (1, .iload 1) :: (2, .iload 2) :: (3, .invokevirtual 164) :: (6, .aload 0) :: (7, .getfield 31) :: (10, .iload 1) :: (11, .iload 2) :: (12, .iconst 0) :: (13, .invokevirtual 191) :: (16, .ireturn) :: []
def cd_X10_refusal : List (Nat × Instr) := cd_X10_refusal_0
set_option maxRecDepth 100000 in
theorem at_X10_refusal_0 : ev_at cd_X10_refusal 0 = cd_X10_refusal_0 := rfl
abbrev tb_X10_bestTaster : ev_Tb := (ev_lu fl_X10, ev_lu (ca_X10), ev_lu th_X10, ev_lu ko_X10, ev_lu kl_X10, 2, false)
def cd_X10_bestTaster_0 : List (Nat × Instr) := (0, .aload 0) :: (1, .iload 1) :: (2, .invokevirtual 99) :: (5, .aload 0) :: (6, .getfield 31) :: (9, .iload 1) :: (10, .invokevirtual 195) :: (13, .ireturn) :: []
def cd_X10_bestTaster : List (Nat × Instr) := cd_X10_bestTaster_0
set_option maxRecDepth 100000 in
theorem at_X10_bestTaster_0 : ev_at cd_X10_bestTaster 0 = cd_X10_bestTaster_0 := rfl
abbrev tb_X10_lacking : ev_Tb := (ev_lu fl_X10, ev_lu (ca_X10), ev_lu th_X10, ev_lu ko_X10, ev_lu kl_X10, 1, false)
def cd_X10_lacking_0 : List (Nat × Instr) := (0, .aload 0) :: (1, .invokevirtual 96) :: (4, .aload 0) :: (5, .getfield 31) :: (8, .invokevirtual 198) :: (11, .ireturn) :: []
def cd_X10_lacking : List (Nat × Instr) := cd_X10_lacking_0
set_option maxRecDepth 100000 in
theorem at_X10_lacking_0 : ev_at cd_X10_lacking 0 = cd_X10_lacking_0 := rfl
abbrev tb_X10_lackingAfterFilling : ev_Tb := (ev_lu fl_X10, ev_lu (ca_X10), ev_lu th_X10, ev_lu ko_X10, ev_lu kl_X10, 1, false)
def cd_X10_lackingAfterFilling_0 : List (Nat × Instr) := (0, .aload 0) :: (1, .invokevirtual 96) :: (4, .aload 0) :: (5, .getfield 35) :: (8, .aload 0) :: (9, .getfield 31) :: (12, .invokevirtual 76) :: (15, .aload 0) :: (16, .getfield 35) :: (19, .invokevirtual 202) :: (22, .pop) :: (23, .aload 0) :: (24, .getfield 35) :: (27, .invokevirtual 198) :: (30, .ireturn) :: []
def cd_X10_lackingAfterFilling : List (Nat × Instr) := cd_X10_lackingAfterFilling_0
set_option maxRecDepth 100000 in
theorem at_X10_lackingAfterFilling_0 : ev_at cd_X10_lackingAfterFilling 0 = cd_X10_lackingAfterFilling_0 := rfl
abbrev tb_X10_scoreOf : ev_Tb := (ev_lu fl_X10, ev_lu (ca_X10), ev_lu th_X10, ev_lu ko_X10, ev_lu kl_X10, 3, false)
def cd_X10_scoreOf_0 : List (Nat × Instr) := (0, .aload 0) :: (1, .iload 1) :: (2, .iload 2) :: (3, .invokevirtual 164) :: (6, .aload 0) :: (7, .getfield 31) :: (10, .getfield 205) :: (13, .iload 1) :: (14, .iload 2) :: (15, .invokevirtual 209) :: (18, .ireturn) :: []
def cd_X10_scoreOf : List (Nat × Instr) := cd_X10_scoreOf_0
set_option maxRecDepth 100000 in
theorem at_X10_scoreOf_0 : ev_at cd_X10_scoreOf 0 = cd_X10_scoreOf_0 := rfl
abbrev tb_X10_scoreCount : ev_Tb := (ev_lu fl_X10, ev_lu (ca_X10), ev_lu th_X10, ev_lu ko_X10, ev_lu kl_X10, 2, false)
def cd_X10_scoreCount_0 : List (Nat × Instr) := (0, .aload 0) :: (1, .iload 1) :: (2, .invokevirtual 99) :: (5, .aload 0) :: (6, .getfield 31) :: (9, .getfield 205) :: (12, .iload 1) :: (13, .invokevirtual 214) :: (16, .ireturn) :: []
def cd_X10_scoreCount : List (Nat × Instr) := cd_X10_scoreCount_0
set_option maxRecDepth 100000 in
theorem at_X10_scoreCount_0 : ev_at cd_X10_scoreCount 0 = cd_X10_scoreCount_0 := rfl
abbrev tb_X10_meanOf : ev_Tb := (ev_lu fl_X10, ev_lu (ca_X10), ev_lu th_X10, ev_lu ko_X10, ev_lu kl_X10, 2, false)
def cd_X10_meanOf_0 : List (Nat × Instr) := (0, .aload 0) :: (1, .iload 1) :: (2, .invokevirtual 128) :: (5, .aload 0) :: (6, .getfield 31) :: (9, .getfield 205) :: (12, .iload 1) :: (13, .invokevirtual 217) :: (16, .ireturn) :: []
def cd_X10_meanOf : List (Nat × Instr) := cd_X10_meanOf_0
set_option maxRecDepth 100000 in
theorem at_X10_meanOf_0 : ev_at cd_X10_meanOf 0 = cd_X10_meanOf_0 := rfl
abbrev tb_X10_harshest : ev_Tb := (ev_lu fl_X10, ev_lu (ca_X10), ev_lu th_X10, ev_lu ko_X10, ev_lu kl_X10, 1, false)
def cd_X10_harshest_0 : List (Nat × Instr) := (0, .aload 0) :: (1, .invokevirtual 96) :: (4, .aload 0) :: (5, .getfield 31) :: (8, .getfield 205) :: (11, .invokevirtual 220) :: (14, .ireturn) :: []
def cd_X10_harshest : List (Nat × Instr) := cd_X10_harshest_0
set_option maxRecDepth 100000 in
theorem at_X10_harshest_0 : ev_at cd_X10_harshest 0 = cd_X10_harshest_0 := rfl
abbrev tb_X10_disagreement : ev_Tb := (ev_lu fl_X10, ev_lu (ca_X10), ev_lu th_X10, ev_lu ko_X10, ev_lu kl_X10, 2, false)
def cd_X10_disagreement_0 : List (Nat × Instr) := (0, .aload 0) :: (1, .iload 1) :: (2, .invokevirtual 128) :: (5, .aload 0) :: (6, .getfield 31) :: (9, .getfield 205) :: (12, .iload 1) :: (13, .invokevirtual 223) :: (16, .ireturn) :: []
def cd_X10_disagreement : List (Nat × Instr) := cd_X10_disagreement_0
set_option maxRecDepth 100000 in
theorem at_X10_disagreement_0 : ev_at cd_X10_disagreement 0 = cd_X10_disagreement_0 := rfl
abbrev tb_X10_adjustedScore : ev_Tb := (ev_lu fl_X10, ev_lu (ca_X10), ev_lu th_X10, ev_lu ko_X10, ev_lu kl_X10, 3, false)
def cd_X10_adjustedScore_23 : List (Nat × Instr) := (23, .aload 0) :: (24, .getfield 31) :: (27, .getfield 205) :: (30, .iload 1) :: (31, .iload 2) :: (32, .invokevirtual 226) :: (35, .ireturn) :: []
def cd_X10_adjustedScore_0 : List (Nat × Instr) := (0, .aload 0) :: (1, .iload 1) :: (2, .iload 2) :: (3, .invokevirtual 164) :: (6, .aload 0) :: (7, .getfield 31) :: (10, .getfield 205) :: (13, .iload 1) :: (14, .iload 2) :: (15, .invokevirtual 209) :: (18, .ifCond .ne 23) :: (21, .iconst (-1)) :: (22, .ireturn) :: cd_X10_adjustedScore_23
def cd_X10_adjustedScore : List (Nat × Instr) := cd_X10_adjustedScore_0
set_option maxRecDepth 100000 in
theorem at_X10_adjustedScore_23 : ev_at cd_X10_adjustedScore 23 = cd_X10_adjustedScore_23 := rfl
set_option maxRecDepth 100000 in
theorem at_X10_adjustedScore_0 : ev_at cd_X10_adjustedScore 0 = cd_X10_adjustedScore_0 := rfl
abbrev tb_X10_totalOf : ev_Tb := (ev_lu fl_X10, ev_lu (ca_X10), ev_lu th_X10, ev_lu ko_X10, ev_lu kl_X10, 2, false)
def cd_X10_totalOf_0 : List (Nat × Instr) := (0, .aload 0) :: (1, .iload 1) :: (2, .invokevirtual 99) :: (5, .aload 0) :: (6, .getfield 31) :: (9, .getfield 205) :: (12, .iload 1) :: (13, .invokevirtual 229) :: (16, .ireturn) :: []
def cd_X10_totalOf : List (Nat × Instr) := cd_X10_totalOf_0
set_option maxRecDepth 100000 in
theorem at_X10_totalOf_0 : ev_at cd_X10_totalOf 0 = cd_X10_totalOf_0 := rfl
abbrev tb_X10_spreadOf : ev_Tb := (ev_lu fl_X10, ev_lu (ca_X10), ev_lu th_X10, ev_lu ko_X10, ev_lu kl_X10, 2, false)
def cd_X10_spreadOf_0 : List (Nat × Instr) := (0, .aload 0) :: (1, .iload 1) :: (2, .invokevirtual 99) :: (5, .aload 0) :: (6, .getfield 31) :: (9, .getfield 205) :: (12, .iload 1) :: (13, .invokevirtual 232) :: (16, .ireturn) :: []
def cd_X10_spreadOf : List (Nat × Instr) := cd_X10_spreadOf_0
set_option maxRecDepth 100000 in
theorem at_X10_spreadOf_0 : ev_at cd_X10_spreadOf 0 = cd_X10_spreadOf_0 := rfl
abbrev tb_X10_needsTalk : ev_Tb := (ev_lu fl_X10, ev_lu (ca_X10), ev_lu th_X10, ev_lu ko_X10, ev_lu kl_X10, 2, true)
def cd_X10_needsTalk_0 : List (Nat × Instr) := (0, .aload 0) :: (1, .iload 1) :: (2, .invokevirtual 99) :: (5, .aload 0) :: (6, .getfield 31) :: (9, .iload 1) :: (10, .invokevirtual 235) :: (13, .ireturn) :: []
def cd_X10_needsTalk : List (Nat × Instr) := cd_X10_needsTalk_0
set_option maxRecDepth 100000 in
theorem at_X10_needsTalk_0 : ev_at cd_X10_needsTalk 0 = cd_X10_needsTalk_0 := rfl
abbrev tb_X10_spreadAfterTalk : ev_Tb := (ev_lu fl_X10, ev_lu (ca_X10), ev_lu th_X10, ev_lu ko_X10, ev_lu kl_X10, 2, false)
def cd_X10_spreadAfterTalk_42 : List (Nat × Instr) := (42, .aload 0) :: (43, .getfield 35) :: (46, .getfield 205) :: (49, .iload 1) :: (50, .invokevirtual 232) :: (53, .ireturn) :: []
def cd_X10_spreadAfterTalk_0 : List (Nat × Instr) := (0, .aload 0) :: (1, .iload 1) :: (2, .invokevirtual 99) :: (5, .aload 0) :: (6, .getfield 35) :: (9, .aload 0) :: (10, .getfield 31) :: (13, .invokevirtual 76) :: (16, .aload 0) :: (17, .getfield 35) :: (20, .getfield 205) :: (23, .iload 1) :: (24, .invokevirtual 238) :: (27, .ifCond .eq 42) :: (30, .aload 0) :: (31, .getfield 35) :: (34, .getfield 205) :: (37, .iload 1) :: (38, .invokevirtual 241) :: (41, .pop) :: cd_X10_spreadAfterTalk_42
def cd_X10_spreadAfterTalk : List (Nat × Instr) := cd_X10_spreadAfterTalk_0
set_option maxRecDepth 100000 in
theorem at_X10_spreadAfterTalk_42 : ev_at cd_X10_spreadAfterTalk 42 = cd_X10_spreadAfterTalk_42 := rfl
set_option maxRecDepth 100000 in
theorem at_X10_spreadAfterTalk_0 : ev_at cd_X10_spreadAfterTalk 0 = cd_X10_spreadAfterTalk_0 := rfl
abbrev tb_X10_rankOf : ev_Tb := (ev_lu fl_X10, ev_lu (ca_X10), ev_lu th_X10, ev_lu ko_X10, ev_lu kl_X10, 2, false)
def cd_X10_rankOf_0 : List (Nat × Instr) := (0, .aload 0) :: (1, .iload 1) :: (2, .invokevirtual 99) :: (5, .aload 0) :: (6, .getfield 31) :: (9, .getfield 205) :: (12, .iload 1) :: (13, .invokevirtual 244) :: (16, .ireturn) :: []
def cd_X10_rankOf : List (Nat × Instr) := cd_X10_rankOf_0
set_option maxRecDepth 100000 in
theorem at_X10_rankOf_0 : ev_at cd_X10_rankOf 0 = cd_X10_rankOf_0 := rfl
abbrev tb_X10_pancakeAt : ev_Tb := (ev_lu fl_X10, ev_lu (ca_X10), ev_lu th_X10, ev_lu ko_X10, ev_lu kl_X10, 2, false)
def cd_X10_pancakeAt_29 : List (Nat × Instr) := (29, .aload 0) :: (30, .getfield 31) :: (33, .getfield 205) :: (36, .iload 1) :: (37, .invokevirtual 249) :: (40, .ireturn) :: []
def cd_X10_pancakeAt_19 : List (Nat × Instr) := (19, .new 56) :: (22, .dup) :: (23, .ldc 247) :: (25, .invokespecial 60) :: (28, .athrow) :: cd_X10_pancakeAt_29
def cd_X10_pancakeAt_0 : List (Nat × Instr) := (0, .aload 0) :: (1, .invokevirtual 96) :: (4, .iload 1) :: (5, .ifCond .lt 19) :: (8, .iload 1) :: (9, .aload 0) :: (10, .getfield 31) :: (13, .getfield 87) :: (16, .if_icmp .lt 29) :: cd_X10_pancakeAt_19
def cd_X10_pancakeAt : List (Nat × Instr) := cd_X10_pancakeAt_0
set_option maxRecDepth 100000 in
theorem at_X10_pancakeAt_29 : ev_at cd_X10_pancakeAt 29 = cd_X10_pancakeAt_29 := rfl
set_option maxRecDepth 100000 in
theorem at_X10_pancakeAt_19 : ev_at cd_X10_pancakeAt 19 = cd_X10_pancakeAt_19 := rfl
set_option maxRecDepth 100000 in
theorem at_X10_pancakeAt_0 : ev_at cd_X10_pancakeAt 0 = cd_X10_pancakeAt_0 := rfl
abbrev tb_X10_isAccepted : ev_Tb := (ev_lu fl_X10, ev_lu (ca_X10), ev_lu th_X10, ev_lu ko_X10, ev_lu kl_X10, 2, true)
def cd_X10_isAccepted_56 : List (Nat × Instr) := (56, .ireturn) :: []
def cd_X10_isAccepted_55 : List (Nat × Instr) := (55, .iconst 0) :: cd_X10_isAccepted_56
def cd_X10_isAccepted_0 : List (Nat × Instr) := (0, .aload 0) :: (1, .iload 1) :: (2, .invokevirtual 99) :: (5, .aload 0) :: (6, .getfield 31) :: (9, .getfield 205) :: (12, .iload 1) :: (13, .invokevirtual 244) :: (16, .aload 0) :: (17, .getfield 31) :: (20, .getfield 252) :: (23, .if_icmp .ge 55) :: (26, .aload 0) :: (27, .getfield 31) :: (30, .getfield 205) :: (33, .iload 1) :: (34, .invokevirtual 214) :: (37, .ifCond .le 55) :: (40, .aload 0) :: (41, .getfield 31) :: (44, .iload 1) :: (45, .invokevirtual 235) :: (48, .ifCond .ne 55) :: (51, .iconst 1) :: (52, .goto 56) :: cd_X10_isAccepted_55
def cd_X10_isAccepted : List (Nat × Instr) := cd_X10_isAccepted_0
set_option maxRecDepth 100000 in
theorem at_X10_isAccepted_56 : ev_at cd_X10_isAccepted 56 = cd_X10_isAccepted_56 := rfl
set_option maxRecDepth 100000 in
theorem at_X10_isAccepted_55 : ev_at cd_X10_isAccepted 55 = cd_X10_isAccepted_55 := rfl
set_option maxRecDepth 100000 in
theorem at_X10_isAccepted_0 : ev_at cd_X10_isAccepted 0 = cd_X10_isAccepted_0 := rfl
abbrev tb_X10_fillCount : ev_Tb := (ev_lu fl_X10, ev_lu (ca_X10), ev_lu th_X10, ev_lu ko_X10, ev_lu kl_X10, 1, false)
def cd_X10_fillCount_0 : List (Nat × Instr) := (0, .aload 0) :: (1, .invokevirtual 96) :: (4, .aload 0) :: (5, .getfield 31) :: (8, .getfield 255) :: (11, .ireturn) :: []
def cd_X10_fillCount : List (Nat × Instr) := cd_X10_fillCount_0
set_option maxRecDepth 100000 in
theorem at_X10_fillCount_0 : ev_at cd_X10_fillCount 0 = cd_X10_fillCount_0 := rfl
abbrev tb_X10_moveCount : ev_Tb := (ev_lu fl_X10, ev_lu (ca_X10), ev_lu th_X10, ev_lu ko_X10, ev_lu kl_X10, 1, false)
def cd_X10_moveCount_0 : List (Nat × Instr) := (0, .aload 0) :: (1, .invokevirtual 96) :: (4, .aload 0) :: (5, .getfield 31) :: (8, .getfield 258) :: (11, .ireturn) :: []
def cd_X10_moveCount : List (Nat × Instr) := cd_X10_moveCount_0
set_option maxRecDepth 100000 in
theorem at_X10_moveCount_0 : ev_at cd_X10_moveCount 0 = cd_X10_moveCount_0 := rfl
abbrev tb_X10_talkCount : ev_Tb := (ev_lu fl_X10, ev_lu (ca_X10), ev_lu th_X10, ev_lu ko_X10, ev_lu kl_X10, 1, false)
def cd_X10_talkCount_0 : List (Nat × Instr) := (0, .aload 0) :: (1, .invokevirtual 96) :: (4, .aload 0) :: (5, .getfield 31) :: (8, .getfield 205) :: (11, .getfield 261) :: (14, .ireturn) :: []
def cd_X10_talkCount : List (Nat × Instr) := cd_X10_talkCount_0
set_option maxRecDepth 100000 in
theorem at_X10_talkCount_0 : ev_at cd_X10_talkCount 0 = cd_X10_talkCount_0 := rfl
abbrev tb_X10_changeCount : ev_Tb := (ev_lu fl_X10, ev_lu (ca_X10), ev_lu th_X10, ev_lu ko_X10, ev_lu kl_X10, 1, false)
def cd_X10_changeCount_0 : List (Nat × Instr) := (0, .aload 0) :: (1, .invokevirtual 96) :: (4, .aload 0) :: (5, .getfield 31) :: (8, .getfield 205) :: (11, .getfield 264) :: (14, .ireturn) :: []
def cd_X10_changeCount : List (Nat × Instr) := cd_X10_changeCount_0
set_option maxRecDepth 100000 in
theorem at_X10_changeCount_0 : ev_at cd_X10_changeCount 0 = cd_X10_changeCount_0 := rfl
abbrev tb_X10_averageScore : ev_Tb := (ev_lu fl_X10, ev_lu (ca_X10), ev_lu th_X10, ev_lu ko_X10, ev_lu kl_X10, 2, false)
def cd_X10_averageScore_37 : List (Nat × Instr) := (37, .dreturn) :: []
def cd_X10_averageScore_23 : List (Nat × Instr) := (23, .aload 0) :: (24, .getfield 31) :: (27, .getfield 205) :: (30, .getfield 270) :: (33, .i2d) :: (34, .iload 1) :: (35, .i2d) :: (36, .ddiv) :: cd_X10_averageScore_37
def cd_X10_averageScore_0 : List (Nat × Instr) := (0, .aload 0) :: (1, .invokevirtual 96) :: (4, .aload 0) :: (5, .getfield 31) :: (8, .getfield 205) :: (11, .getfield 267) :: (14, .istore 1) :: (15, .iload 1) :: (16, .ifCond .ne 23) :: (19, .dconst 0) :: (20, .goto 37) :: cd_X10_averageScore_23
def cd_X10_averageScore : List (Nat × Instr) := cd_X10_averageScore_0
set_option maxRecDepth 100000 in
theorem at_X10_averageScore_37 : ev_at cd_X10_averageScore 37 = cd_X10_averageScore_37 := rfl
set_option maxRecDepth 100000 in
theorem at_X10_averageScore_23 : ev_at cd_X10_averageScore 23 = cd_X10_averageScore_23 := rfl
set_option maxRecDepth 100000 in
theorem at_X10_averageScore_0 : ev_at cd_X10_averageScore 0 = cd_X10_averageScore_0 := rfl
abbrev tb_X10_seatShare : ev_Tb := (ev_lu fl_X10, ev_lu (ca_X10), ev_lu th_X10, ev_lu ko_X10, ev_lu kl_X10, 2, false)
def cd_X10_seatShare_33 : List (Nat × Instr) := (33, .freturn) :: []
def cd_X10_seatShare_22 : List (Nat × Instr) := (22, .aload 0) :: (23, .getfield 31) :: (26, .invokevirtual 273) :: (29, .i2f) :: (30, .iload 1) :: (31, .i2f) :: (32, .fdiv) :: cd_X10_seatShare_33
def cd_X10_seatShare_0 : List (Nat × Instr) := (0, .aload 0) :: (1, .invokevirtual 96) :: (4, .iconst 3) :: (5, .aload 0) :: (6, .getfield 31) :: (9, .getfield 87) :: (12, .imul) :: (13, .istore 1) :: (14, .iload 1) :: (15, .ifCond .ne 22) :: (18, .fconst 0) :: (19, .goto 33) :: cd_X10_seatShare_22
def cd_X10_seatShare : List (Nat × Instr) := cd_X10_seatShare_0
set_option maxRecDepth 100000 in
theorem at_X10_seatShare_33 : ev_at cd_X10_seatShare 33 = cd_X10_seatShare_33 := rfl
set_option maxRecDepth 100000 in
theorem at_X10_seatShare_22 : ev_at cd_X10_seatShare 22 = cd_X10_seatShare_22 := rfl
set_option maxRecDepth 100000 in
theorem at_X10_seatShare_0 : ev_at cd_X10_seatShare 0 = cd_X10_seatShare_0 := rfl
abbrev tb_X10_imbalance : ev_Tb := (ev_lu fl_X10, ev_lu (ca_X10), ev_lu th_X10, ev_lu ko_X10, ev_lu kl_X10, 1, false)
def cd_X10_imbalance_0 : List (Nat × Instr) := (0, .aload 0) :: (1, .invokevirtual 96) :: (4, .aload 0) :: (5, .getfield 31) :: (8, .invokevirtual 276) :: (11, .aload 0) :: (12, .getfield 31) :: (15, .invokevirtual 279) :: (18, .iadd) :: (19, .aload 0) :: (20, .getfield 31) :: (23, .invokevirtual 282) :: (26, .iadd) :: (27, .aload 0) :: (28, .getfield 31) :: (31, .invokevirtual 285) :: (34, .aload 0) :: (35, .getfield 31) :: (38, .invokevirtual 273) :: (41, .isub) :: (42, .invokestatic 288) :: (45, .iadd) :: (46, .ireturn) :: []
def cd_X10_imbalance : List (Nat × Instr) := cd_X10_imbalance_0
set_option maxRecDepth 100000 in
theorem at_X10_imbalance_0 : ev_at cd_X10_imbalance 0 = cd_X10_imbalance_0 := rfl
abbrev tb_X10_writePancake : ev_Tb := (ev_lu fl_X10, ev_lu (ca_X10), ev_lu th_X10, ev_lu ko_X10, ev_lu kl_X10, 4, false)
def cd_X10_writePancake_80 : List (Nat × Instr) := (80, .aload 0) :: (81, .getfield 18) :: (84, .bipush 47) :: (86, .invokevirtual 293) :: (89, .aload 0) :: (90, .getfield 18) :: (93, .aload 0) :: (94, .getfield 31) :: (97, .getfield 205) :: (100, .iload 1) :: (101, .invokevirtual 229) :: (104, .invokevirtual 299) :: (107, .aload 0) :: (108, .getfield 18) :: (111, .getfield 49) :: (114, .ireturn) :: []
def cd_X10_writePancake_57 : List (Nat × Instr) := (57, .aload 0) :: (58, .aload 0) :: (59, .getfield 31) :: (62, .getfield 183) :: (65, .iload 1) :: (66, .iload 3) :: (67, .invokevirtual 121) :: (70, .iload 1) :: (71, .invokevirtual 296) :: (74, .iinc 3 1) :: (77, .goto 39) :: cd_X10_writePancake_80
def cd_X10_writePancake_39 : List (Nat × Instr) := (39, .iload 3) :: (40, .iload 2) :: (41, .if_icmp .ge 80) :: (44, .iload 3) :: (45, .ifCond .le 57) :: (48, .aload 0) :: (49, .getfield 18) :: (52, .bipush 44) :: (54, .invokevirtual 293) :: cd_X10_writePancake_57
def cd_X10_writePancake_37 : List (Nat × Instr) := (37, .iconst 0) :: (38, .istore 3) :: cd_X10_writePancake_39
def cd_X10_writePancake_0 : List (Nat × Instr) := (0, .aload 0) :: (1, .iload 1) :: (2, .invokevirtual 99) :: (5, .aload 0) :: (6, .getfield 18) :: (9, .invokevirtual 67) :: (12, .aload 0) :: (13, .getfield 31) :: (16, .getfield 183) :: (19, .iload 1) :: (20, .invokevirtual 114) :: (23, .istore 2) :: (24, .iload 2) :: (25, .ifCond .ne 37) :: (28, .aload 0) :: (29, .getfield 18) :: (32, .bipush 45) :: (34, .invokevirtual 293) :: cd_X10_writePancake_37
def cd_X10_writePancake : List (Nat × Instr) := cd_X10_writePancake_0
set_option maxRecDepth 100000 in
theorem at_X10_writePancake_80 : ev_at cd_X10_writePancake 80 = cd_X10_writePancake_80 := rfl
set_option maxRecDepth 100000 in
theorem at_X10_writePancake_57 : ev_at cd_X10_writePancake 57 = cd_X10_writePancake_57 := rfl
set_option maxRecDepth 100000 in
theorem at_X10_writePancake_39 : ev_at cd_X10_writePancake 39 = cd_X10_writePancake_39 := rfl
set_option maxRecDepth 100000 in
theorem at_X10_writePancake_37 : ev_at cd_X10_writePancake 37 = cd_X10_writePancake_37 := rfl
set_option maxRecDepth 100000 in
theorem at_X10_writePancake_0 : ev_at cd_X10_writePancake 0 = cd_X10_writePancake_0 := rfl
abbrev tb_X10_writeBids : ev_Tb := (ev_lu fl_X10, ev_lu (ca_X10), ev_lu th_X10, ev_lu ko_X10, ev_lu kl_X10, 3, false)
def cd_X10_writeBids_98 : List (Nat × Instr) := (98, .aload 0) :: (99, .getfield 18) :: (102, .getfield 49) :: (105, .ireturn) :: []
def cd_X10_writeBids_92 : List (Nat × Instr) := (92, .iinc 2 1) :: (95, .goto 14) :: cd_X10_writeBids_98
def cd_X10_writeBids_71 : List (Nat × Instr) := (71, .aload 0) :: (72, .getfield 31) :: (75, .iload 1) :: (76, .iload 2) :: (77, .invokevirtual 174) :: (80, .ifCond .eq 92) :: (83, .aload 0) :: (84, .getfield 18) :: (87, .bipush 33) :: (89, .invokevirtual 293) :: cd_X10_writeBids_92
def cd_X10_writeBids_14 : List (Nat × Instr) := (14, .iload 2) :: (15, .aload 0) :: (16, .getfield 31) :: (19, .getfield 87) :: (22, .if_icmp .ge 98) :: (25, .aload 0) :: (26, .getfield 18) :: (29, .aload 0) :: (30, .getfield 31) :: (33, .getfield 168) :: (36, .iload 1) :: (37, .iload 2) :: (38, .invokevirtual 159) :: (41, .invokevirtual 299) :: (44, .aload 0) :: (45, .getfield 31) :: (48, .getfield 183) :: (51, .iload 2) :: (52, .iload 1) :: (53, .invokevirtual 302) :: (56, .ifCond .eq 71) :: (59, .aload 0) :: (60, .getfield 18) :: (63, .bipush 42) :: (65, .invokevirtual 293) :: (68, .goto 92) :: cd_X10_writeBids_71
def cd_X10_writeBids_0 : List (Nat × Instr) := (0, .aload 0) :: (1, .iload 1) :: (2, .invokevirtual 128) :: (5, .aload 0) :: (6, .getfield 18) :: (9, .invokevirtual 67) :: (12, .iconst 0) :: (13, .istore 2) :: cd_X10_writeBids_14
def cd_X10_writeBids : List (Nat × Instr) := cd_X10_writeBids_0
set_option maxRecDepth 100000 in
theorem at_X10_writeBids_98 : ev_at cd_X10_writeBids 98 = cd_X10_writeBids_98 := rfl
set_option maxRecDepth 100000 in
theorem at_X10_writeBids_92 : ev_at cd_X10_writeBids 92 = cd_X10_writeBids_92 := rfl
set_option maxRecDepth 100000 in
theorem at_X10_writeBids_71 : ev_at cd_X10_writeBids 71 = cd_X10_writeBids_71 := rfl
set_option maxRecDepth 100000 in
theorem at_X10_writeBids_14 : ev_at cd_X10_writeBids 14 = cd_X10_writeBids_14 := rfl
set_option maxRecDepth 100000 in
theorem at_X10_writeBids_0 : ev_at cd_X10_writeBids 0 = cd_X10_writeBids_0 := rfl
abbrev tb_X10_outputByte : ev_Tb := (ev_lu fl_X10, ev_lu (ca_X10), ev_lu th_X10, ev_lu ko_X10, ev_lu kl_X10, 2, false)
def cd_X10_outputByte_26 : List (Nat × Instr) := (26, .aload 0) :: (27, .getfield 18) :: (30, .iload 1) :: (31, .invokevirtual 308) :: (34, .ireturn) :: []
def cd_X10_outputByte_15 : List (Nat × Instr) := (15, .new 56) :: (18, .dup) :: (19, .ldc_w 306) :: (22, .invokespecial 60) :: (25, .athrow) :: cd_X10_outputByte_26
def cd_X10_outputByte_0 : List (Nat × Instr) := (0, .iload 1) :: (1, .ifCond .lt 15) :: (4, .iload 1) :: (5, .aload 0) :: (6, .getfield 18) :: (9, .getfield 49) :: (12, .if_icmp .lt 26) :: cd_X10_outputByte_15
def cd_X10_outputByte : List (Nat × Instr) := cd_X10_outputByte_0
set_option maxRecDepth 100000 in
theorem at_X10_outputByte_26 : ev_at cd_X10_outputByte 26 = cd_X10_outputByte_26 := rfl
set_option maxRecDepth 100000 in
theorem at_X10_outputByte_15 : ev_at cd_X10_outputByte 15 = cd_X10_outputByte_15 := rfl
set_option maxRecDepth 100000 in
theorem at_X10_outputByte_0 : ev_at cd_X10_outputByte 0 = cd_X10_outputByte_0 := rfl
abbrev tb_X10_bid : ev_Tb := (ev_lu fl_X10, ev_lu (ca_X10), ev_lu th_X10, ev_lu ko_X10, ev_lu kl_X10, 5, false)
def cd_X10_bid_37 : List (Nat × Instr) := (37, .aload 0) :: (38, .getfield 41) :: (41, .aload 0) :: (42, .getfield 31) :: (45, .invokevirtual 312) :: (48, .aload 0) :: (49, .getfield 31) :: (52, .getfield 168) :: (55, .iload 1) :: (56, .iload 2) :: (57, .invokevirtual 159) :: (60, .istore 4) :: (62, .aload 0) :: (63, .getfield 31) :: (66, .getfield 168) :: (69, .iload 1) :: (70, .iload 2) :: (71, .iload 3) :: (72, .invokevirtual 315) :: (75, .iload 4) :: (77, .ireturn) :: []
def cd_X10_bid_26 : List (Nat × Instr) := (26, .new 70) :: (29, .dup) :: (30, .ldc_w 310) :: (33, .invokespecial 74) :: (36, .athrow) :: cd_X10_bid_37
def cd_X10_bid_0 : List (Nat × Instr) := (0, .aload 0) :: (1, .iload 1) :: (2, .iload 2) :: (3, .invokevirtual 164) :: (6, .aload 0) :: (7, .getfield 31) :: (10, .iload 1) :: (11, .invokevirtual 146) :: (14, .ifCond .eq 26) :: (17, .iload 3) :: (18, .ifCond .lt 26) :: (21, .iload 3) :: (22, .iconst 3) :: (23, .if_icmp .le 37) :: cd_X10_bid_26
def cd_X10_bid : List (Nat × Instr) := cd_X10_bid_0
set_option maxRecDepth 100000 in
theorem at_X10_bid_37 : ev_at cd_X10_bid 37 = cd_X10_bid_37 := rfl
set_option maxRecDepth 100000 in
theorem at_X10_bid_26 : ev_at cd_X10_bid 26 = cd_X10_bid_26 := rfl
set_option maxRecDepth 100000 in
theorem at_X10_bid_0 : ev_at cd_X10_bid 0 = cd_X10_bid_0 := rfl
abbrev tb_X10_assign : ev_Tb := (ev_lu fl_X10, ev_lu (ca_X10), ev_lu th_X10, ev_lu ko_X10, ev_lu kl_X10, 3, false)
def cd_X10_assign_30 : List (Nat × Instr) := (30, .aload 0) :: (31, .getfield 41) :: (34, .aload 0) :: (35, .getfield 31) :: (38, .invokevirtual 312) :: (41, .aload 0) :: (42, .getfield 31) :: (45, .getfield 183) :: (48, .iload 2) :: (49, .iload 1) :: (50, .invokevirtual 321) :: (53, .aload 0) :: (54, .getfield 31) :: (57, .getfield 183) :: (60, .iload 2) :: (61, .invokevirtual 114) :: (64, .ireturn) :: []
def cd_X10_assign_0 : List (Nat × Instr) := (0, .aload 0) :: (1, .iload 1) :: (2, .iload 2) :: (3, .invokevirtual 164) :: (6, .aload 0) :: (7, .getfield 31) :: (10, .iload 1) :: (11, .iload 2) :: (12, .iconst 0) :: (13, .invokevirtual 191) :: (16, .ifCond .eq 30) :: (19, .new 70) :: (22, .dup) :: (23, .ldc_w 319) :: (26, .invokespecial 74) :: (29, .athrow) :: cd_X10_assign_30
def cd_X10_assign : List (Nat × Instr) := cd_X10_assign_0
set_option maxRecDepth 100000 in
theorem at_X10_assign_30 : ev_at cd_X10_assign 30 = cd_X10_assign_30 := rfl
set_option maxRecDepth 100000 in
theorem at_X10_assign_0 : ev_at cd_X10_assign 0 = cd_X10_assign_0 := rfl
abbrev tb_X10_unassign : ev_Tb := (ev_lu fl_X10, ev_lu (ca_X10), ev_lu th_X10, ev_lu ko_X10, ev_lu kl_X10, 3, false)
def cd_X10_unassign_0 : List (Nat × Instr) := (0, .aload 0) :: (1, .iload 1) :: (2, .iload 2) :: (3, .invokevirtual 164) :: (6, .aload 0) :: (7, .iload 1) :: (8, .iload 2) :: (9, .invokevirtual 323) :: (12, .aload 0) :: (13, .getfield 41) :: (16, .aload 0) :: (17, .getfield 31) :: (20, .invokevirtual 312) :: (23, .aload 0) :: (24, .getfield 31) :: (27, .iload 1) :: (28, .iload 2) :: (29, .invokevirtual 326) :: (32, .aload 0) :: (33, .getfield 31) :: (36, .getfield 183) :: (39, .iload 2) :: (40, .invokevirtual 114) :: (43, .ireturn) :: []
def cd_X10_unassign : List (Nat × Instr) := cd_X10_unassign_0
set_option maxRecDepth 100000 in
theorem at_X10_unassign_0 : ev_at cd_X10_unassign 0 = cd_X10_unassign_0 := rfl
abbrev tb_X10_fill : ev_Tb := (ev_lu fl_X10, ev_lu (ca_X10), ev_lu th_X10, ev_lu ko_X10, ev_lu kl_X10, 1, false)
def cd_X10_fill_0 : List (Nat × Instr) := (0, .aload 0) :: (1, .invokevirtual 96) :: (4, .aload 0) :: (5, .getfield 41) :: (8, .aload 0) :: (9, .getfield 31) :: (12, .invokevirtual 312) :: (15, .aload 0) :: (16, .getfield 31) :: (19, .invokevirtual 202) :: (22, .ireturn) :: []
def cd_X10_fill : List (Nat × Instr) := cd_X10_fill_0
set_option maxRecDepth 100000 in
theorem at_X10_fill_0 : ev_at cd_X10_fill 0 = cd_X10_fill_0 := rfl
abbrev tb_X10_score : ev_Tb := (ev_lu fl_X10, ev_lu (ca_X10), ev_lu th_X10, ev_lu ko_X10, ev_lu kl_X10, 5, false)
def cd_X10_score_34 : List (Nat × Instr) := (34, .aload 0) :: (35, .getfield 41) :: (38, .aload 0) :: (39, .getfield 31) :: (42, .invokevirtual 312) :: (45, .aload 0) :: (46, .getfield 31) :: (49, .getfield 205) :: (52, .iload 1) :: (53, .iload 2) :: (54, .invokevirtual 209) :: (57, .istore 4) :: (59, .aload 0) :: (60, .getfield 31) :: (63, .getfield 205) :: (66, .iload 1) :: (67, .iload 2) :: (68, .iload 3) :: (69, .invokevirtual 331) :: (72, .iload 4) :: (74, .ireturn) :: []
def cd_X10_score_23 : List (Nat × Instr) := (23, .new 70) :: (26, .dup) :: (27, .ldc_w 329) :: (30, .invokespecial 74) :: (33, .athrow) :: cd_X10_score_34
def cd_X10_score_0 : List (Nat × Instr) := (0, .aload 0) :: (1, .iload 1) :: (2, .iload 2) :: (3, .invokevirtual 164) :: (6, .aload 0) :: (7, .iload 1) :: (8, .iload 2) :: (9, .invokevirtual 323) :: (12, .iload 3) :: (13, .iconst 1) :: (14, .if_icmp .lt 23) :: (17, .iload 3) :: (18, .bipush 9) :: (20, .if_icmp .le 34) :: cd_X10_score_23
def cd_X10_score : List (Nat × Instr) := cd_X10_score_0
set_option maxRecDepth 100000 in
theorem at_X10_score_34 : ev_at cd_X10_score 34 = cd_X10_score_34 := rfl
set_option maxRecDepth 100000 in
theorem at_X10_score_23 : ev_at cd_X10_score 23 = cd_X10_score_23 := rfl
set_option maxRecDepth 100000 in
theorem at_X10_score_0 : ev_at cd_X10_score 0 = cd_X10_score_0 := rfl
abbrev tb_X10_talk : ev_Tb := (ev_lu fl_X10, ev_lu (ca_X10), ev_lu th_X10, ev_lu ko_X10, ev_lu kl_X10, 2, false)
def cd_X10_talk_30 : List (Nat × Instr) := (30, .aload 0) :: (31, .getfield 41) :: (34, .aload 0) :: (35, .getfield 31) :: (38, .invokevirtual 312) :: (41, .aload 0) :: (42, .getfield 31) :: (45, .getfield 205) :: (48, .iload 1) :: (49, .invokevirtual 241) :: (52, .ireturn) :: []
def cd_X10_talk_0 : List (Nat × Instr) := (0, .aload 0) :: (1, .iload 1) :: (2, .invokevirtual 99) :: (5, .aload 0) :: (6, .getfield 31) :: (9, .getfield 205) :: (12, .iload 1) :: (13, .invokevirtual 238) :: (16, .ifCond .ne 30) :: (19, .new 70) :: (22, .dup) :: (23, .ldc_w 334) :: (26, .invokespecial 74) :: (29, .athrow) :: cd_X10_talk_30
def cd_X10_talk : List (Nat × Instr) := cd_X10_talk_0
set_option maxRecDepth 100000 in
theorem at_X10_talk_30 : ev_at cd_X10_talk 30 = cd_X10_talk_30 := rfl
set_option maxRecDepth 100000 in
theorem at_X10_talk_0 : ev_at cd_X10_talk 0 = cd_X10_talk_0 := rfl
abbrev tb_X10_declare : ev_Tb := (ev_lu fl_X10, ev_lu (ca_X10), ev_lu th_X10, ev_lu ko_X10, ev_lu kl_X10, 5, true)
def cd_X10_declare_57 : List (Nat × Instr) := (57, .invokevirtual 315) :: (60, .iload 4) :: (62, .ireturn) :: []
def cd_X10_declare_56 : List (Nat × Instr) := (56, .iconst 0) :: cd_X10_declare_57
def cd_X10_declare_37 : List (Nat × Instr) := (37, .istore 4) :: (39, .aload 0) :: (40, .getfield 31) :: (43, .getfield 336) :: (46, .iload 1) :: (47, .iload 2) :: (48, .iload 3) :: (49, .ifCond .eq 56) :: (52, .iconst 1) :: (53, .goto 57) :: cd_X10_declare_56
def cd_X10_declare_36 : List (Nat × Instr) := (36, .iconst 0) :: cd_X10_declare_37
def cd_X10_declare_0 : List (Nat × Instr) := (0, .aload 0) :: (1, .iload 1) :: (2, .iload 2) :: (3, .invokevirtual 164) :: (6, .aload 0) :: (7, .getfield 41) :: (10, .aload 0) :: (11, .getfield 31) :: (14, .invokevirtual 312) :: (17, .aload 0) :: (18, .getfield 31) :: (21, .getfield 336) :: (24, .iload 1) :: (25, .iload 2) :: (26, .invokevirtual 159) :: (29, .ifCond .eq 36) :: (32, .iconst 1) :: (33, .goto 37) :: cd_X10_declare_36
def cd_X10_declare : List (Nat × Instr) := cd_X10_declare_0
set_option maxRecDepth 100000 in
theorem at_X10_declare_57 : ev_at cd_X10_declare 57 = cd_X10_declare_57 := rfl
set_option maxRecDepth 100000 in
theorem at_X10_declare_56 : ev_at cd_X10_declare 56 = cd_X10_declare_56 := rfl
set_option maxRecDepth 100000 in
theorem at_X10_declare_37 : ev_at cd_X10_declare 37 = cd_X10_declare_37 := rfl
set_option maxRecDepth 100000 in
theorem at_X10_declare_36 : ev_at cd_X10_declare 36 = cd_X10_declare_36 := rfl
set_option maxRecDepth 100000 in
theorem at_X10_declare_0 : ev_at cd_X10_declare 0 = cd_X10_declare_0 := rfl
abbrev tb_X10_undo : ev_Tb := (ev_lu fl_X10, ev_lu (ca_X10), ev_lu th_X10, ev_lu ko_X10, ev_lu kl_X10, 1, false)
def cd_X10_undo_21 : List (Nat × Instr) := (21, .aload 0) :: (22, .getfield 41) :: (25, .aload 0) :: (26, .getfield 31) :: (29, .invokevirtual 345) :: (32, .aload 0) :: (33, .getfield 41) :: (36, .getfield 339) :: (39, .ireturn) :: []
def cd_X10_undo_0 : List (Nat × Instr) := (0, .aload 0) :: (1, .getfield 41) :: (4, .getfield 339) :: (7, .ifCond .ne 21) :: (10, .new 340) :: (13, .dup) :: (14, .ldc_w 342) :: (17, .invokespecial 344) :: (20, .athrow) :: cd_X10_undo_21
def cd_X10_undo : List (Nat × Instr) := cd_X10_undo_0
set_option maxRecDepth 100000 in
theorem at_X10_undo_21 : ev_at cd_X10_undo 21 = cd_X10_undo_21 := rfl
set_option maxRecDepth 100000 in
theorem at_X10_undo_0 : ev_at cd_X10_undo 0 = cd_X10_undo_0 := rfl
abbrev tb_X10_undoCount : ev_Tb := (ev_lu fl_X10, ev_lu (ca_X10), ev_lu th_X10, ev_lu ko_X10, ev_lu kl_X10, 1, false)
def cd_X10_undoCount_0 : List (Nat × Instr) := (0, .aload 0) :: (1, .getfield 41) :: (4, .getfield 339) :: (7, .ireturn) :: []
def cd_X10_undoCount : List (Nat × Instr) := cd_X10_undoCount_0
set_option maxRecDepth 100000 in
theorem at_X10_undoCount_0 : ev_at cd_X10_undoCount 0 = cd_X10_undoCount_0 := rfl
abbrev tb_X10_saveState : ev_Tb := (ev_lu fl_X10, ev_lu (ca_X10), ev_lu th_X10, ev_lu ko_X10, ev_lu kl_X10, 2, false)
def cd_X10_saveState_28 : List (Nat × Instr) := (28, .aload 0) :: (29, .getfield 45) :: (32, .iload 1) :: (33, .aaload) :: (34, .aload 0) :: (35, .getfield 31) :: (38, .invokevirtual 76) :: (41, .aload 0) :: (42, .getfield 31) :: (45, .getfield 205) :: (48, .getfield 267) :: (51, .ireturn) :: []
def cd_X10_saveState_17 : List (Nat × Instr) := (17, .new 56) :: (20, .dup) :: (21, .ldc_w 348) :: (24, .invokespecial 60) :: (27, .athrow) :: cd_X10_saveState_28
def cd_X10_saveState_0 : List (Nat × Instr) := (0, .aload 0) :: (1, .invokevirtual 96) :: (4, .iload 1) :: (5, .ifCond .lt 17) :: (8, .iload 1) :: (9, .aload 0) :: (10, .getfield 45) :: (13, .arraylength) :: (14, .if_icmp .lt 28) :: cd_X10_saveState_17
def cd_X10_saveState : List (Nat × Instr) := cd_X10_saveState_0
set_option maxRecDepth 100000 in
theorem at_X10_saveState_28 : ev_at cd_X10_saveState 28 = cd_X10_saveState_28 := rfl
set_option maxRecDepth 100000 in
theorem at_X10_saveState_17 : ev_at cd_X10_saveState 17 = cd_X10_saveState_17 := rfl
set_option maxRecDepth 100000 in
theorem at_X10_saveState_0 : ev_at cd_X10_saveState 0 = cd_X10_saveState_0 := rfl
abbrev tb_X10_restoreState : ev_Tb := (ev_lu fl_X10, ev_lu (ca_X10), ev_lu th_X10, ev_lu ko_X10, ev_lu kl_X10, 2, false)
def cd_X10_restoreState_47 : List (Nat × Instr) := (47, .aload 0) :: (48, .getfield 31) :: (51, .aload 0) :: (52, .getfield 45) :: (55, .iload 1) :: (56, .aaload) :: (57, .invokevirtual 76) :: (60, .aload 0) :: (61, .getfield 41) :: (64, .invokevirtual 84) :: (67, .aload 0) :: (68, .getfield 31) :: (71, .getfield 205) :: (74, .getfield 267) :: (77, .ireturn) :: []
def cd_X10_restoreState_24 : List (Nat × Instr) := (24, .aload 0) :: (25, .getfield 45) :: (28, .iload 1) :: (29, .aaload) :: (30, .getfield 80) :: (33, .ifCond .ne 47) :: (36, .new 340) :: (39, .dup) :: (40, .ldc_w 350) :: (43, .invokespecial 344) :: (46, .athrow) :: cd_X10_restoreState_47
def cd_X10_restoreState_13 : List (Nat × Instr) := (13, .new 56) :: (16, .dup) :: (17, .ldc_w 348) :: (20, .invokespecial 60) :: (23, .athrow) :: cd_X10_restoreState_24
def cd_X10_restoreState_0 : List (Nat × Instr) := (0, .iload 1) :: (1, .ifCond .lt 13) :: (4, .iload 1) :: (5, .aload 0) :: (6, .getfield 45) :: (9, .arraylength) :: (10, .if_icmp .lt 24) :: cd_X10_restoreState_13
def cd_X10_restoreState : List (Nat × Instr) := cd_X10_restoreState_0
set_option maxRecDepth 100000 in
theorem at_X10_restoreState_47 : ev_at cd_X10_restoreState 47 = cd_X10_restoreState_47 := rfl
set_option maxRecDepth 100000 in
theorem at_X10_restoreState_24 : ev_at cd_X10_restoreState 24 = cd_X10_restoreState_24 := rfl
set_option maxRecDepth 100000 in
theorem at_X10_restoreState_13 : ev_at cd_X10_restoreState 13 = cd_X10_restoreState_13 := rfl
set_option maxRecDepth 100000 in
theorem at_X10_restoreState_0 : ev_at cd_X10_restoreState 0 = cd_X10_restoreState_0 := rfl
abbrev tb_X10_requirePanel : ev_Tb := (ev_lu fl_X10, ev_lu (ca_X10), ev_lu th_X10, ev_lu ko_X10, ev_lu kl_X10, 1, false)
def cd_X10_requirePanel_21 : List (Nat × Instr) := (21, .return_) :: []
def cd_X10_requirePanel_0 : List (Nat × Instr) := (0, .aload 0) :: (1, .getfield 31) :: (4, .getfield 80) :: (7, .ifCond .ne 21) :: (10, .new 340) :: (13, .dup) :: (14, .ldc_w 352) :: (17, .invokespecial 344) :: (20, .athrow) :: cd_X10_requirePanel_21
def cd_X10_requirePanel : List (Nat × Instr) := cd_X10_requirePanel_0
set_option maxRecDepth 100000 in
theorem at_X10_requirePanel_21 : ev_at cd_X10_requirePanel 21 = cd_X10_requirePanel_21 := rfl
set_option maxRecDepth 100000 in
theorem at_X10_requirePanel_0 : ev_at cd_X10_requirePanel 0 = cd_X10_requirePanel_0 := rfl
abbrev tb_X10_requirePerson : ev_Tb := (ev_lu fl_X10, ev_lu (ca_X10), ev_lu th_X10, ev_lu ko_X10, ev_lu kl_X10, 2, false)
def cd_X10_requirePerson_30 : List (Nat × Instr) := (30, .return_) :: []
def cd_X10_requirePerson_19 : List (Nat × Instr) := (19, .new 56) :: (22, .dup) :: (23, .ldc_w 354) :: (26, .invokespecial 60) :: (29, .athrow) :: cd_X10_requirePerson_30
def cd_X10_requirePerson_0 : List (Nat × Instr) := (0, .aload 0) :: (1, .invokevirtual 96) :: (4, .iload 1) :: (5, .ifCond .lt 19) :: (8, .iload 1) :: (9, .aload 0) :: (10, .getfield 31) :: (13, .getfield 125) :: (16, .if_icmp .lt 30) :: cd_X10_requirePerson_19
def cd_X10_requirePerson : List (Nat × Instr) := cd_X10_requirePerson_0
set_option maxRecDepth 100000 in
theorem at_X10_requirePerson_30 : ev_at cd_X10_requirePerson 30 = cd_X10_requirePerson_30 := rfl
set_option maxRecDepth 100000 in
theorem at_X10_requirePerson_19 : ev_at cd_X10_requirePerson 19 = cd_X10_requirePerson_19 := rfl
set_option maxRecDepth 100000 in
theorem at_X10_requirePerson_0 : ev_at cd_X10_requirePerson 0 = cd_X10_requirePerson_0 := rfl
abbrev tb_X10_requirePancake : ev_Tb := (ev_lu fl_X10, ev_lu (ca_X10), ev_lu th_X10, ev_lu ko_X10, ev_lu kl_X10, 2, false)
def cd_X10_requirePancake_30 : List (Nat × Instr) := (30, .return_) :: []
def cd_X10_requirePancake_19 : List (Nat × Instr) := (19, .new 56) :: (22, .dup) :: (23, .ldc_w 356) :: (26, .invokespecial 60) :: (29, .athrow) :: cd_X10_requirePancake_30
def cd_X10_requirePancake_0 : List (Nat × Instr) := (0, .aload 0) :: (1, .invokevirtual 96) :: (4, .iload 1) :: (5, .ifCond .lt 19) :: (8, .iload 1) :: (9, .aload 0) :: (10, .getfield 31) :: (13, .getfield 87) :: (16, .if_icmp .lt 30) :: cd_X10_requirePancake_19
def cd_X10_requirePancake : List (Nat × Instr) := cd_X10_requirePancake_0
set_option maxRecDepth 100000 in
theorem at_X10_requirePancake_30 : ev_at cd_X10_requirePancake 30 = cd_X10_requirePancake_30 := rfl
set_option maxRecDepth 100000 in
theorem at_X10_requirePancake_19 : ev_at cd_X10_requirePancake 19 = cd_X10_requirePancake_19 := rfl
set_option maxRecDepth 100000 in
theorem at_X10_requirePancake_0 : ev_at cd_X10_requirePancake 0 = cd_X10_requirePancake_0 := rfl
abbrev tb_X10_requirePair : ev_Tb := (ev_lu fl_X10, ev_lu (ca_X10), ev_lu th_X10, ev_lu ko_X10, ev_lu kl_X10, 3, false)
def cd_X10_requirePair_0 : List (Nat × Instr) := (0, .aload 0) :: (1, .iload 1) :: (2, .invokevirtual 128) :: (5, .aload 0) :: (6, .iload 2) :: (7, .invokevirtual 99) :: (10, .return_) :: []
def cd_X10_requirePair : List (Nat × Instr) := cd_X10_requirePair_0
set_option maxRecDepth 100000 in
theorem at_X10_requirePair_0 : ev_at cd_X10_requirePair 0 = cd_X10_requirePair_0 := rfl
abbrev tb_X10_requireSeat : ev_Tb := (ev_lu fl_X10, ev_lu (ca_X10), ev_lu th_X10, ev_lu ko_X10, ev_lu kl_X10, 3, false)
def cd_X10_requireSeat_26 : List (Nat × Instr) := (26, .return_) :: []
def cd_X10_requireSeat_0 : List (Nat × Instr) := (0, .aload 0) :: (1, .getfield 31) :: (4, .getfield 183) :: (7, .iload 2) :: (8, .iload 1) :: (9, .invokevirtual 302) :: (12, .ifCond .ne 26) :: (15, .new 70) :: (18, .dup) :: (19, .ldc_w 358) :: (22, .invokespecial 74) :: (25, .athrow) :: cd_X10_requireSeat_26
def cd_X10_requireSeat : List (Nat × Instr) := cd_X10_requireSeat_0
set_option maxRecDepth 100000 in
theorem at_X10_requireSeat_26 : ev_at cd_X10_requireSeat 26 = cd_X10_requireSeat_26 := rfl
set_option maxRecDepth 100000 in
theorem at_X10_requireSeat_0 : ev_at cd_X10_requireSeat 0 = cd_X10_requireSeat_0 := rfl
abbrev tb_X10_writeTaster : ev_Tb := (ev_lu fl_X10, ev_lu (ca_X10), ev_lu th_X10, ev_lu ko_X10, ev_lu kl_X10, 4, false)
def cd_X10_writeTaster_61 : List (Nat × Instr) := (61, .return_) :: []
def cd_X10_writeTaster_53 : List (Nat × Instr) := (53, .aload 0) :: (54, .getfield 18) :: (57, .iload 3) :: (58, .invokevirtual 299) :: cd_X10_writeTaster_61
def cd_X10_writeTaster_0 : List (Nat × Instr) := (0, .aload 0) :: (1, .getfield 18) :: (4, .aload 0) :: (5, .getfield 31) :: (8, .iload 1) :: (9, .invokevirtual 131) :: (12, .invokevirtual 360) :: (15, .aload 0) :: (16, .getfield 18) :: (19, .bipush 61) :: (21, .invokevirtual 293) :: (24, .aload 0) :: (25, .getfield 31) :: (28, .getfield 205) :: (31, .iload 1) :: (32, .iload 2) :: (33, .invokevirtual 209) :: (36, .istore 3) :: (37, .iload 3) :: (38, .ifCond .ne 53) :: (41, .aload 0) :: (42, .getfield 18) :: (45, .bipush 63) :: (47, .invokevirtual 293) :: (50, .goto 61) :: cd_X10_writeTaster_53
def cd_X10_writeTaster : List (Nat × Instr) := cd_X10_writeTaster_0
set_option maxRecDepth 100000 in
theorem at_X10_writeTaster_61 : ev_at cd_X10_writeTaster 61 = cd_X10_writeTaster_61 := rfl
set_option maxRecDepth 100000 in
theorem at_X10_writeTaster_53 : ev_at cd_X10_writeTaster 53 = cd_X10_writeTaster_53 := rfl
set_option maxRecDepth 100000 in
theorem at_X10_writeTaster_0 : ev_at cd_X10_writeTaster 0 = cd_X10_writeTaster_0 := rfl
abbrev tb_X10_cell : ev_Tb := (ev_lu fl_X10, ev_lu (ca_X10), ev_lu th_X10, ev_lu ko_X10, ev_lu kl_X10, 2, false)
def cd_X10_cell_17 : List (Nat × Instr) := (17, .ireturn) :: []
def cd_X10_cell_16 : List (Nat × Instr) := (16, .iconst 0) :: cd_X10_cell_17
def cd_X10_cell_0 : List (Nat × Instr) := (0, .iload 1) :: (1, .ifCond .lt 16) :: (4, .iload 1) :: (5, .aload 0) :: (6, .arraylength) :: (7, .if_icmp .ge 16) :: (10, .aload 0) :: (11, .iload 1) :: (12, .iaload) :: (13, .goto 17) :: cd_X10_cell_16
def cd_X10_cell : List (Nat × Instr) := cd_X10_cell_0
set_option maxRecDepth 100000 in
theorem at_X10_cell_17 : ev_at cd_X10_cell 17 = cd_X10_cell_17 := rfl
set_option maxRecDepth 100000 in
theorem at_X10_cell_16 : ev_at cd_X10_cell 16 = cd_X10_cell_16 := rfl
set_option maxRecDepth 100000 in
theorem at_X10_cell_0 : ev_at cd_X10_cell 0 = cd_X10_cell_0 := rfl
abbrev tb_X10_setCell : ev_Tb := (ev_lu fl_X10, ev_lu (ca_X10), ev_lu th_X10, ev_lu ko_X10, ev_lu kl_X10, 3, false)
def cd_X10_setCell_14 : List (Nat × Instr) := (14, .return_) :: []
def cd_X10_setCell_0 : List (Nat × Instr) := (0, .iload 1) :: (1, .ifCond .lt 14) :: (4, .iload 1) :: (5, .aload 0) :: (6, .arraylength) :: (7, .if_icmp .ge 14) :: (10, .aload 0) :: (11, .iload 1) :: (12, .iload 2) :: (13, .iastore) :: cd_X10_setCell_14
def cd_X10_setCell : List (Nat × Instr) := cd_X10_setCell_0
set_option maxRecDepth 100000 in
theorem at_X10_setCell_14 : ev_at cd_X10_setCell 14 = cd_X10_setCell_14 := rfl
set_option maxRecDepth 100000 in
theorem at_X10_setCell_0 : ev_at cd_X10_setCell 0 = cd_X10_setCell_0 := rfl
abbrev tb_X10_copyRow : ev_Tb := (ev_lu fl_X10, ev_lu (ca_X10), ev_lu th_X10, ev_lu ko_X10, ev_lu kl_X10, 2, false)
def cd_X10_copyRow_0 : List (Nat × Instr) := (0, .aload 0) :: (1, .iconst 0) :: (2, .aload 1) :: (3, .iconst 0) :: (4, .aload 0) :: (5, .arraylength) :: (6, .aload 1) :: (7, .arraylength) :: (8, .invokestatic 364) :: (11, .invokestatic 367) :: (14, .return_) :: []
def cd_X10_copyRow : List (Nat × Instr) := cd_X10_copyRow_0
set_option maxRecDepth 100000 in
theorem at_X10_copyRow_0 : ev_at cd_X10_copyRow 0 = cd_X10_copyRow_0 := rfl
abbrev tb_X10_letterCount : ev_Tb := (ev_lu fl_X10, ev_lu (ca_X10), ev_lu th_X10, ev_lu ko_X10, ev_lu kl_X10, 3, false)
def cd_X10_letterCount_25 : List (Nat × Instr) := (25, .iload 2) :: (26, .ireturn) :: []
def cd_X10_letterCount_2 : List (Nat × Instr) := (2, .iload 2) :: (3, .bipush 8) :: (5, .if_icmp .ge 25) :: (8, .lload 0) :: (9, .bipush 8) :: (11, .iload 2) :: (12, .imul) :: (13, .lushr) :: (14, .lconst 0) :: (15, .lcmp) :: (16, .ifCond .eq 25) :: (19, .iinc 2 1) :: (22, .goto 2) :: cd_X10_letterCount_25
def cd_X10_letterCount_0 : List (Nat × Instr) := (0, .iconst 0) :: (1, .istore 2) :: cd_X10_letterCount_2
def cd_X10_letterCount : List (Nat × Instr) := cd_X10_letterCount_0
set_option maxRecDepth 100000 in
theorem at_X10_letterCount_25 : ev_at cd_X10_letterCount 25 = cd_X10_letterCount_25 := rfl
set_option maxRecDepth 100000 in
theorem at_X10_letterCount_2 : ev_at cd_X10_letterCount 2 = cd_X10_letterCount_2 := rfl
set_option maxRecDepth 100000 in
theorem at_X10_letterCount_0 : ev_at cd_X10_letterCount 0 = cd_X10_letterCount_0 := rfl
abbrev tb_X10_letterOf : ev_Tb := (ev_lu fl_X10, ev_lu (ca_X10), ev_lu th_X10, ev_lu ko_X10, ev_lu kl_X10, 4, false)
def cd_X10_letterOf_0 : List (Nat × Instr) := (0, .lload 0) :: (1, .bipush 8) :: (3, .iload 2) :: (4, .iconst 1) :: (5, .isub) :: (6, .iload 3) :: (7, .isub) :: (8, .imul) :: (9, .lushr) :: (10, .l2i) :: (11, .sipush 255) :: (14, .iand) :: (15, .ireturn) :: []
def cd_X10_letterOf : List (Nat × Instr) := cd_X10_letterOf_0
set_option maxRecDepth 100000 in
theorem at_X10_letterOf_0 : ev_at cd_X10_letterOf 0 = cd_X10_letterOf_0 := rfl
abbrev tb_X11_init (r : Nat) : ev_Tb := (ev_lu fl_X11, ev_lu (ca_X11 r), ev_lu th_X11, ev_lu ko_X11, ev_lu kl_X11, 1, false)
def cd_X11_init_0 : List (Nat × Instr) := (0, .aload 0) :: (1, .invokespecial 1) :: (4, .aload 0) :: (5, .sipush 1042) :: (8, .newarray .int) :: (10, .putfield 9) :: (13, .aload 0) :: (14, .sipush 1042) :: (17, .newarray .int) :: (19, .putfield 13) :: (22, .aload 0) :: (23, .sipush 8336) :: (26, .newarray .int) :: (28, .putfield 16) :: (31, .aload 0) :: (32, .sipush 2084) :: (35, .newarray .int) :: (37, .putfield 19) :: (40, .aload 0) :: (41, .iconst 2) :: (42, .newarray .boolean) :: (44, .putfield 22) :: (47, .aload 0) :: (48, .sipush 500) :: (51, .newarray .byte) :: (53, .putfield 26) :: (56, .aload 0) :: (57, .iconst (-1)) :: (58, .putfield 30) :: (61, .aload 0) :: (62, .bipush 10) :: (64, .newarray .boolean) :: (66, .putfield 34) :: (69, .aload 0) :: (70, .sipush 200) :: (73, .newarray .byte) :: (75, .putfield 37) :: (78, .return_) :: []
def cd_X11_init : List (Nat × Instr) := cd_X11_init_0
set_option maxRecDepth 100000 in
theorem at_X11_init_0 : ev_at cd_X11_init 0 = cd_X11_init_0 := rfl
abbrev tb_X11_thrown (r : Nat) : ev_Tb := (ev_lu fl_X11, ev_lu (ca_X11 r), ev_lu th_X11, ev_lu ko_X11, ev_lu kl_X11, 1, false)
def cd_X11_thrown_0 : List (Nat × Instr) := (0, .aload 0) :: (1, .getfield 40) :: (4, .ireturn) :: []
def cd_X11_thrown : List (Nat × Instr) := cd_X11_thrown_0
set_option maxRecDepth 100000 in
theorem at_X11_thrown_0 : ev_at cd_X11_thrown 0 = cd_X11_thrown_0 := rfl
abbrev tb_X11_in (r : Nat) : ev_Tb := (ev_lu fl_X11, ev_lu (ca_X11 r), ev_lu th_X11, ev_lu ko_X11, ev_lu kl_X11, 3, true)
def cd_X11_in_15 : List (Nat × Instr) := (15, .ireturn) :: []
def cd_X11_in_14 : List (Nat × Instr) := (14, .iconst 0) :: cd_X11_in_15
def cd_X11_in_0 : List (Nat × Instr) := (0, .iload 1) :: (1, .iload 0) :: (2, .if_icmp .gt 14) :: (5, .iload 0) :: (6, .iload 2) :: (7, .if_icmp .gt 14) :: (10, .iconst 1) :: (11, .goto 15) :: cd_X11_in_14
def cd_X11_in : List (Nat × Instr) := cd_X11_in_0
set_option maxRecDepth 100000 in
theorem at_X11_in_15 : ev_at cd_X11_in 15 = cd_X11_in_15 := rfl
set_option maxRecDepth 100000 in
theorem at_X11_in_14 : ev_at cd_X11_in 14 = cd_X11_in_14 := rfl
set_option maxRecDepth 100000 in
theorem at_X11_in_0 : ev_at cd_X11_in 0 = cd_X11_in_0 := rfl
abbrev tb_X11_one (r : Nat) : ev_Tb := (ev_lu fl_X11, ev_lu (ca_X11 r), ev_lu th_X11, ev_lu ko_X11, ev_lu kl_X11, 1, false)
def cd_X11_one_9 : List (Nat × Instr) := (9, .ireturn) :: []
def cd_X11_one_8 : List (Nat × Instr) := (8, .iconst 0) :: cd_X11_one_9
def cd_X11_one_0 : List (Nat × Instr) := (0, .iload 0) :: (1, .ifCond .eq 8) :: (4, .iconst 1) :: (5, .goto 9) :: cd_X11_one_8
def cd_X11_one : List (Nat × Instr) := cd_X11_one_0
set_option maxRecDepth 100000 in
theorem at_X11_one_9 : ev_at cd_X11_one 9 = cd_X11_one_9 := rfl
set_option maxRecDepth 100000 in
theorem at_X11_one_8 : ev_at cd_X11_one 8 = cd_X11_one_8 := rfl
set_option maxRecDepth 100000 in
theorem at_X11_one_0 : ev_at cd_X11_one 0 = cd_X11_one_0 := rfl
abbrev tb_X11_may (r : Nat) : ev_Tb := (ev_lu fl_X11, ev_lu (ca_X11 r), ev_lu th_X11, ev_lu ko_X11, ev_lu kl_X11, 4, true)
def cd_X11_may_41 : List (Nat × Instr) := (41, .ireturn) :: []
def cd_X11_may_40 : List (Nat × Instr) := (40, .iconst 0) :: cd_X11_may_41
def cd_X11_may_26 : List (Nat × Instr) := (26, .putfield 40) :: (29, .aload 0) :: (30, .getfield 40) :: (33, .ifCond .ne 40) :: (36, .iconst 1) :: (37, .goto 41) :: cd_X11_may_40
def cd_X11_may_25 : List (Nat × Instr) := (25, .iconst 3) :: cd_X11_may_26
def cd_X11_may_17 : List (Nat × Instr) := (17, .iload 3) :: (18, .ifCond .eq 25) :: (21, .iconst 0) :: (22, .goto 26) :: cd_X11_may_25
def cd_X11_may_9 : List (Nat × Instr) := (9, .iload 2) :: (10, .ifCond .ne 17) :: (13, .iconst 2) :: (14, .goto 26) :: cd_X11_may_17
def cd_X11_may_0 : List (Nat × Instr) := (0, .aload 0) :: (1, .iload 1) :: (2, .ifCond .ne 9) :: (5, .iconst 1) :: (6, .goto 26) :: cd_X11_may_9
def cd_X11_may : List (Nat × Instr) := cd_X11_may_0
set_option maxRecDepth 100000 in
theorem at_X11_may_41 : ev_at cd_X11_may 41 = cd_X11_may_41 := rfl
set_option maxRecDepth 100000 in
theorem at_X11_may_40 : ev_at cd_X11_may 40 = cd_X11_may_40 := rfl
set_option maxRecDepth 100000 in
theorem at_X11_may_26 : ev_at cd_X11_may 26 = cd_X11_may_26 := rfl
set_option maxRecDepth 100000 in
theorem at_X11_may_25 : ev_at cd_X11_may 25 = cd_X11_may_25 := rfl
set_option maxRecDepth 100000 in
theorem at_X11_may_17 : ev_at cd_X11_may 17 = cd_X11_may_17 := rfl
set_option maxRecDepth 100000 in
theorem at_X11_may_9 : ev_at cd_X11_may 9 = cd_X11_may_9 := rfl
set_option maxRecDepth 100000 in
theorem at_X11_may_0 : ev_at cd_X11_may 0 = cd_X11_may_0 := rfl
abbrev tb_X11_mayTwo (r : Nat) : ev_Tb := (ev_lu fl_X11, ev_lu (ca_X11 r), ev_lu th_X11, ev_lu ko_X11, ev_lu kl_X11, 3, true)
def cd_X11_mayTwo_0 : List (Nat × Instr) := (0, .aload 0) :: (1, .iload 1) :: (2, .iload 2) :: (3, .iconst 1) :: (4, .invokevirtual 43) :: (7, .ireturn) :: []
def cd_X11_mayTwo : List (Nat × Instr) := cd_X11_mayTwo_0
set_option maxRecDepth 100000 in
theorem at_X11_mayTwo_0 : ev_at cd_X11_mayTwo 0 = cd_X11_mayTwo_0 := rfl
abbrev tb_X11_mayLook (r : Nat) : ev_Tb := (ev_lu fl_X11, ev_lu (ca_X11 r), ev_lu th_X11, ev_lu ko_X11, ev_lu kl_X11, 1, true)
def cd_X11_mayLook_0 : List (Nat × Instr) := (0, .aload 0) :: (1, .aload 0) :: (2, .getfield 47) :: (5, .iconst 1) :: (6, .iconst 1) :: (7, .invokevirtual 43) :: (10, .ireturn) :: []
def cd_X11_mayLook : List (Nat × Instr) := cd_X11_mayLook_0
set_option maxRecDepth 100000 in
theorem at_X11_mayLook_0 : ev_at cd_X11_mayLook 0 = cd_X11_mayLook_0 := rfl
abbrev tb_X11_lays (r : Nat) : ev_Tb := (ev_lu fl_X11, ev_lu (ca_X11 r), ev_lu th_X11, ev_lu ko_X11, ev_lu kl_X11, 5, false)
def cd_X11_lays_29 : List (Nat × Instr) := (29, .return_) :: []
def cd_X11_lays_3 : List (Nat × Instr) := (3, .iload 4) :: (5, .sipush 1042) :: (8, .if_icmp .ge 29) :: (11, .aload 2) :: (12, .iload 3) :: (13, .iload 4) :: (15, .iadd) :: (16, .aload 0) :: (17, .iload 1) :: (18, .iload 4) :: (20, .iadd) :: (21, .iaload) :: (22, .iastore) :: (23, .iinc 4 1) :: (26, .goto 3) :: cd_X11_lays_29
def cd_X11_lays_0 : List (Nat × Instr) := (0, .iconst 0) :: (1, .istore 4) :: cd_X11_lays_3
def cd_X11_lays : List (Nat × Instr) := cd_X11_lays_0
set_option maxRecDepth 100000 in
theorem at_X11_lays_29 : ev_at cd_X11_lays 29 = cd_X11_lays_29 := rfl
set_option maxRecDepth 100000 in
theorem at_X11_lays_3 : ev_at cd_X11_lays 3 = cd_X11_lays_3 := rfl
set_option maxRecDepth 100000 in
theorem at_X11_lays_0 : ev_at cd_X11_lays 0 = cd_X11_lays_0 := rfl
abbrev tb_X11_thinks (r : Nat) : ev_Tb := (ev_lu fl_X11, ev_lu (ca_X11 r), ev_lu th_X11, ev_lu ko_X11, ev_lu kl_X11, 1, false)
def cd_X11_thinks_0 : List (Nat × Instr) := (0, .aload 0) :: (1, .getfield 9) :: (4, .iconst 0) :: (5, .aload 0) :: (6, .getfield 13) :: (9, .iconst 0) :: (10, .invokestatic 51) :: (13, .return_) :: []
def cd_X11_thinks : List (Nat × Instr) := cd_X11_thinks_0
set_option maxRecDepth 100000 in
theorem at_X11_thinks_0 : ev_at cd_X11_thinks 0 = cd_X11_thinks_0 := rfl
abbrev tb_X11_back (r : Nat) : ev_Tb := (ev_lu fl_X11, ev_lu (ca_X11 r), ev_lu th_X11, ev_lu ko_X11, ev_lu kl_X11, 2, false)
def cd_X11_back_0 : List (Nat × Instr) := (0, .aload 0) :: (1, .getfield 13) :: (4, .iconst 0) :: (5, .aload 0) :: (6, .getfield 9) :: (9, .iconst 0) :: (10, .invokestatic 51) :: (13, .iload 1) :: (14, .ireturn) :: []
def cd_X11_back : List (Nat × Instr) := cd_X11_back_0
set_option maxRecDepth 100000 in
theorem at_X11_back_0 : ev_at cd_X11_back 0 = cd_X11_back_0 := rfl
abbrev tb_X11_append (r : Nat) : ev_Tb := (ev_lu fl_X11, ev_lu (ca_X11 r), ev_lu th_X11, ev_lu ko_X11, ev_lu kl_X11, 6, false)
def cd_X11_append_17 : List (Nat × Instr) := (17, .aload 0) :: (18, .iload 1) :: (19, .invokevirtual 58) :: (22, .aload 0) :: (23, .iload 2) :: (24, .invokevirtual 58) :: (27, .aload 0) :: (28, .iload 3) :: (29, .invokevirtual 58) :: (32, .aload 0) :: (33, .iload 4) :: (35, .invokevirtual 58) :: (38, .aload 0) :: (39, .iload 5) :: (41, .invokevirtual 58) :: (44, .aload 0) :: (45, .getfield 55) :: (48, .ireturn) :: []
def cd_X11_append_0 : List (Nat × Instr) := (0, .aload 0) :: (1, .iconst 0) :: (2, .putfield 40) :: (5, .aload 0) :: (6, .getfield 55) :: (9, .sipush 480) :: (12, .if_icmp .le 17) :: (15, .iconst (-1)) :: (16, .ireturn) :: cd_X11_append_17
def cd_X11_append : List (Nat × Instr) := cd_X11_append_0
set_option maxRecDepth 100000 in
theorem at_X11_append_17 : ev_at cd_X11_append 17 = cd_X11_append_17 := rfl
set_option maxRecDepth 100000 in
theorem at_X11_append_0 : ev_at cd_X11_append 0 = cd_X11_append_0 := rfl
abbrev tb_X11_four (r : Nat) : ev_Tb := (ev_lu fl_X11, ev_lu (ca_X11 r), ev_lu th_X11, ev_lu ko_X11, ev_lu kl_X11, 3, false)
def cd_X11_four_38 : List (Nat × Instr) := (38, .return_) :: []
def cd_X11_four_2 : List (Nat × Instr) := (2, .iload 2) :: (3, .ifCond .lt 38) :: (6, .aload 0) :: (7, .getfield 26) :: (10, .aload 0) :: (11, .getfield 55) :: (14, .iload 1) :: (15, .bipush 8) :: (17, .iload 2) :: (18, .imul) :: (19, .ishr) :: (20, .i2b) :: (21, .bastore) :: (22, .aload 0) :: (23, .dup) :: (24, .getfield 55) :: (27, .iconst 1) :: (28, .iadd) :: (29, .putfield 55) :: (32, .iinc 2 (-1)) :: (35, .goto 2) :: cd_X11_four_38
def cd_X11_four_0 : List (Nat × Instr) := (0, .iconst 3) :: (1, .istore 2) :: cd_X11_four_2
def cd_X11_four : List (Nat × Instr) := cd_X11_four_0
set_option maxRecDepth 100000 in
theorem at_X11_four_38 : ev_at cd_X11_four 38 = cd_X11_four_38 := rfl
set_option maxRecDepth 100000 in
theorem at_X11_four_2 : ev_at cd_X11_four 2 = cd_X11_four_2 := rfl
set_option maxRecDepth 100000 in
theorem at_X11_four_0 : ev_at cd_X11_four 0 = cd_X11_four_0 := rfl
abbrev tb_X11_told (r : Nat) : ev_Tb := (ev_lu fl_X11, ev_lu (ca_X11 r), ev_lu th_X11, ev_lu ko_X11, ev_lu kl_X11, 2, false)
def cd_X11_told_0 : List (Nat × Instr) := (0, .aload 0) :: (1, .iconst 0) :: (2, .putfield 40) :: (5, .iload 1) :: (6, .ireturn) :: []
def cd_X11_told : List (Nat × Instr) := cd_X11_told_0
set_option maxRecDepth 100000 in
theorem at_X11_told_0 : ev_at cd_X11_told 0 = cd_X11_told_0 := rfl
abbrev tb_X11_parseErrorCode (r : Nat) : ev_Tb := (ev_lu fl_X11, ev_lu (ca_X11 r), ev_lu th_X11, ev_lu ko_X11, ev_lu kl_X11, 1, false)
def cd_X11_parseErrorCode_0 : List (Nat × Instr) := (0, .aload 0) :: (1, .aload 0) :: (2, .getfield 62) :: (5, .invokevirtual 65) :: (8, .ireturn) :: []
def cd_X11_parseErrorCode : List (Nat × Instr) := cd_X11_parseErrorCode_0
set_option maxRecDepth 100000 in
theorem at_X11_parseErrorCode_0 : ev_at cd_X11_parseErrorCode 0 = cd_X11_parseErrorCode_0 := rfl
abbrev tb_X11_parseErrorPosition (r : Nat) : ev_Tb := (ev_lu fl_X11, ev_lu (ca_X11 r), ev_lu th_X11, ev_lu ko_X11, ev_lu kl_X11, 1, false)
def cd_X11_parseErrorPosition_0 : List (Nat × Instr) := (0, .aload 0) :: (1, .aload 0) :: (2, .getfield 30) :: (5, .invokevirtual 65) :: (8, .ireturn) :: []
def cd_X11_parseErrorPosition : List (Nat × Instr) := cd_X11_parseErrorPosition_0
set_option maxRecDepth 100000 in
theorem at_X11_parseErrorPosition_0 : ev_at cd_X11_parseErrorPosition 0 = cd_X11_parseErrorPosition_0 := rfl
abbrev tb_X11_bufferLength (r : Nat) : ev_Tb := (ev_lu fl_X11, ev_lu (ca_X11 r), ev_lu th_X11, ev_lu ko_X11, ev_lu kl_X11, 1, false)
def cd_X11_bufferLength_0 : List (Nat × Instr) := (0, .aload 0) :: (1, .aload 0) :: (2, .getfield 55) :: (5, .invokevirtual 65) :: (8, .ireturn) :: []
def cd_X11_bufferLength : List (Nat × Instr) := cd_X11_bufferLength_0
set_option maxRecDepth 100000 in
theorem at_X11_bufferLength_0 : ev_at cd_X11_bufferLength 0 = cd_X11_bufferLength_0 := rfl
abbrev tb_X11_isSmall (r : Nat) : ev_Tb := (ev_lu fl_X11, ev_lu (ca_X11 r), ev_lu th_X11, ev_lu ko_X11, ev_lu kl_X11, 2, true)
def cd_X11_isSmall_29 : List (Nat × Instr) := (29, .ireturn) :: []
def cd_X11_isSmall_28 : List (Nat × Instr) := (28, .iconst 0) :: cd_X11_isSmall_29
def cd_X11_isSmall_0 : List (Nat × Instr) := (0, .iload 1) :: (1, .aload 0) :: (2, .getfield 69) :: (5, .if_icmp .ge 28) :: (8, .aload 0) :: (9, .getfield 26) :: (12, .iload 1) :: (13, .baload) :: (14, .bipush 97) :: (16, .bipush 122) :: (18, .invokestatic 72) :: (21, .ifCond .eq 28) :: (24, .iconst 1) :: (25, .goto 29) :: cd_X11_isSmall_28
def cd_X11_isSmall : List (Nat × Instr) := cd_X11_isSmall_0
set_option maxRecDepth 100000 in
theorem at_X11_isSmall_29 : ev_at cd_X11_isSmall 29 = cd_X11_isSmall_29 := rfl
set_option maxRecDepth 100000 in
theorem at_X11_isSmall_28 : ev_at cd_X11_isSmall 28 = cd_X11_isSmall_28 := rfl
set_option maxRecDepth 100000 in
theorem at_X11_isSmall_0 : ev_at cd_X11_isSmall 0 = cd_X11_isSmall_0 := rfl
abbrev tb_X11_isDigit (r : Nat) : ev_Tb := (ev_lu fl_X11, ev_lu (ca_X11 r), ev_lu th_X11, ev_lu ko_X11, ev_lu kl_X11, 2, true)
def cd_X11_isDigit_29 : List (Nat × Instr) := (29, .ireturn) :: []
def cd_X11_isDigit_28 : List (Nat × Instr) := (28, .iconst 0) :: cd_X11_isDigit_29
def cd_X11_isDigit_0 : List (Nat × Instr) := (0, .iload 1) :: (1, .aload 0) :: (2, .getfield 69) :: (5, .if_icmp .ge 28) :: (8, .aload 0) :: (9, .getfield 26) :: (12, .iload 1) :: (13, .baload) :: (14, .bipush 48) :: (16, .bipush 57) :: (18, .invokestatic 72) :: (21, .ifCond .eq 28) :: (24, .iconst 1) :: (25, .goto 29) :: cd_X11_isDigit_28
def cd_X11_isDigit : List (Nat × Instr) := cd_X11_isDigit_0
set_option maxRecDepth 100000 in
theorem at_X11_isDigit_29 : ev_at cd_X11_isDigit 29 = cd_X11_isDigit_29 := rfl
set_option maxRecDepth 100000 in
theorem at_X11_isDigit_28 : ev_at cd_X11_isDigit 28 = cd_X11_isDigit_28 := rfl
set_option maxRecDepth 100000 in
theorem at_X11_isDigit_0 : ev_at cd_X11_isDigit 0 = cd_X11_isDigit_0 := rfl
abbrev tb_X11_goes (r : Nat) : ev_Tb := (ev_lu fl_X11, ev_lu (ca_X11 r), ev_lu th_X11, ev_lu ko_X11, ev_lu kl_X11, 1, false)
def cd_X11_goes_242 : List (Nat × Instr) := (242, .aload 0) :: (243, .aload 0) :: (244, .getfield 26) :: (247, .aload 0) :: (248, .getfield 76) :: (251, .baload) :: (252, .invokestatic 95) :: (255, .putfield 82) :: (258, .aload 0) :: (259, .dup) :: (260, .getfield 76) :: (263, .iconst 1) :: (264, .iadd) :: (265, .putfield 76) :: (268, .return_) :: []
def cd_X11_goes_238 : List (Nat × Instr) := (238, .putfield 82) :: (241, .return_) :: cd_X11_goes_242
def cd_X11_goes_237 : List (Nat × Instr) := (237, .iconst 0) :: cd_X11_goes_238
def cd_X11_goes_219 : List (Nat × Instr) := (219, .aload 0) :: (220, .aload 0) :: (221, .getfield 76) :: (224, .aload 0) :: (225, .getfield 79) :: (228, .isub) :: (229, .iconst 3) :: (230, .if_icmp .gt 237) :: (233, .iconst 3) :: (234, .goto 238) :: cd_X11_goes_237
def cd_X11_goes_206 : List (Nat × Instr) := (206, .aload 0) :: (207, .dup) :: (208, .getfield 76) :: (211, .iconst 1) :: (212, .iadd) :: (213, .putfield 76) :: (216, .goto 158) :: cd_X11_goes_219
def cd_X11_goes_158 : List (Nat × Instr) := (158, .aload 0) :: (159, .aload 0) :: (160, .getfield 76) :: (163, .invokevirtual 89) :: (166, .ifCond .eq 219) :: (169, .aload 0) :: (170, .getfield 76) :: (173, .aload 0) :: (174, .getfield 79) :: (177, .isub) :: (178, .iconst 3) :: (179, .if_icmp .ge 206) :: (182, .aload 0) :: (183, .bipush 10) :: (185, .aload 0) :: (186, .getfield 92) :: (189, .imul) :: (190, .aload 0) :: (191, .getfield 26) :: (194, .aload 0) :: (195, .getfield 76) :: (198, .baload) :: (199, .iadd) :: (200, .bipush 48) :: (202, .isub) :: (203, .putfield 92) :: cd_X11_goes_206
def cd_X11_goes_142 : List (Nat × Instr) := (142, .aload 0) :: (143, .aload 0) :: (144, .getfield 76) :: (147, .invokevirtual 89) :: (150, .ifCond .eq 242) :: (153, .aload 0) :: (154, .iconst 0) :: (155, .putfield 92) :: cd_X11_goes_158
def cd_X11_goes_138 : List (Nat × Instr) := (138, .putfield 82) :: (141, .return_) :: cd_X11_goes_142
def cd_X11_goes_137 : List (Nat × Instr) := (137, .iconst 0) :: cd_X11_goes_138
def cd_X11_goes_118 : List (Nat × Instr) := (118, .aload 0) :: (119, .aload 0) :: (120, .getfield 76) :: (123, .aload 0) :: (124, .getfield 79) :: (127, .isub) :: (128, .bipush 8) :: (130, .if_icmp .gt 137) :: (133, .iconst 2) :: (134, .goto 138) :: cd_X11_goes_137
def cd_X11_goes_94 : List (Nat × Instr) := (94, .aload 0) :: (95, .aload 0) :: (96, .getfield 76) :: (99, .invokevirtual 85) :: (102, .ifCond .eq 118) :: (105, .aload 0) :: (106, .dup) :: (107, .getfield 76) :: (110, .iconst 1) :: (111, .iadd) :: (112, .putfield 76) :: (115, .goto 94) :: cd_X11_goes_118
def cd_X11_goes_83 : List (Nat × Instr) := (83, .aload 0) :: (84, .aload 0) :: (85, .getfield 76) :: (88, .invokevirtual 85) :: (91, .ifCond .eq 142) :: cd_X11_goes_94
def cd_X11_goes_71 : List (Nat × Instr) := (71, .putfield 82) :: (74, .aload 0) :: (75, .getfield 82) :: (78, .iconst 1) :: (79, .if_icmp .ne 83) :: (82, .return_) :: cd_X11_goes_83
def cd_X11_goes_70 : List (Nat × Instr) := (70, .iconst 0) :: cd_X11_goes_71
def cd_X11_goes_46 : List (Nat × Instr) := (46, .aload 0) :: (47, .aload 0) :: (48, .getfield 76) :: (51, .putfield 79) :: (54, .aload 0) :: (55, .aload 0) :: (56, .getfield 76) :: (59, .aload 0) :: (60, .getfield 69) :: (63, .if_icmp .ne 70) :: (66, .iconst 1) :: (67, .goto 71) :: cd_X11_goes_70
def cd_X11_goes_8 : List (Nat × Instr) := (8, .aload 0) :: (9, .getfield 76) :: (12, .aload 0) :: (13, .getfield 69) :: (16, .if_icmp .ge 46) :: (19, .aload 0) :: (20, .getfield 26) :: (23, .aload 0) :: (24, .getfield 76) :: (27, .baload) :: (28, .bipush 32) :: (30, .if_icmp .ne 46) :: (33, .aload 0) :: (34, .dup) :: (35, .getfield 76) :: (38, .iconst 1) :: (39, .iadd) :: (40, .putfield 76) :: (43, .goto 8) :: cd_X11_goes_46
def cd_X11_goes_0 : List (Nat × Instr) := (0, .aload 0) :: (1, .getfield 62) :: (4, .ifCond .le 8) :: (7, .return_) :: cd_X11_goes_8
def cd_X11_goes : List (Nat × Instr) := cd_X11_goes_0
set_option maxRecDepth 100000 in
theorem at_X11_goes_242 : ev_at cd_X11_goes 242 = cd_X11_goes_242 := rfl
set_option maxRecDepth 100000 in
theorem at_X11_goes_238 : ev_at cd_X11_goes 238 = cd_X11_goes_238 := rfl
set_option maxRecDepth 100000 in
theorem at_X11_goes_237 : ev_at cd_X11_goes 237 = cd_X11_goes_237 := rfl
set_option maxRecDepth 100000 in
theorem at_X11_goes_219 : ev_at cd_X11_goes 219 = cd_X11_goes_219 := rfl
set_option maxRecDepth 100000 in
theorem at_X11_goes_206 : ev_at cd_X11_goes 206 = cd_X11_goes_206 := rfl
set_option maxRecDepth 100000 in
theorem at_X11_goes_158 : ev_at cd_X11_goes 158 = cd_X11_goes_158 := rfl
set_option maxRecDepth 100000 in
theorem at_X11_goes_142 : ev_at cd_X11_goes 142 = cd_X11_goes_142 := rfl
set_option maxRecDepth 100000 in
theorem at_X11_goes_138 : ev_at cd_X11_goes 138 = cd_X11_goes_138 := rfl
set_option maxRecDepth 100000 in
theorem at_X11_goes_137 : ev_at cd_X11_goes 137 = cd_X11_goes_137 := rfl
set_option maxRecDepth 100000 in
theorem at_X11_goes_118 : ev_at cd_X11_goes 118 = cd_X11_goes_118 := rfl
set_option maxRecDepth 100000 in
theorem at_X11_goes_94 : ev_at cd_X11_goes 94 = cd_X11_goes_94 := rfl
set_option maxRecDepth 100000 in
theorem at_X11_goes_83 : ev_at cd_X11_goes 83 = cd_X11_goes_83 := rfl
set_option maxRecDepth 100000 in
theorem at_X11_goes_71 : ev_at cd_X11_goes 71 = cd_X11_goes_71 := rfl
set_option maxRecDepth 100000 in
theorem at_X11_goes_70 : ev_at cd_X11_goes 70 = cd_X11_goes_70 := rfl
set_option maxRecDepth 100000 in
theorem at_X11_goes_46 : ev_at cd_X11_goes 46 = cd_X11_goes_46 := rfl
set_option maxRecDepth 100000 in
theorem at_X11_goes_8 : ev_at cd_X11_goes 8 = cd_X11_goes_8 := rfl
set_option maxRecDepth 100000 in
theorem at_X11_goes_0 : ev_at cd_X11_goes 0 = cd_X11_goes_0 := rfl
abbrev tb_X11_signOf (r : Nat) : ev_Tb := (ev_lu fl_X11, ev_lu (ca_X11 r), ev_lu th_X11, ev_lu ko_X11, ev_lu kl_X11, 1, false)
def cd_X11_signOf_32 : List (Nat × Instr) := (32, .ireturn) :: []
def cd_X11_signOf_31 : List (Nat × Instr) := (31, .iconst 0) :: cd_X11_signOf_32
def cd_X11_signOf_20 : List (Nat × Instr) := (20, .iload 0) :: (21, .bipush 41) :: (23, .if_icmp .ne 31) :: (26, .bipush 6) :: (28, .goto 32) :: cd_X11_signOf_31
def cd_X11_signOf_10 : List (Nat × Instr) := (10, .iload 0) :: (11, .bipush 40) :: (13, .if_icmp .ne 20) :: (16, .iconst 5) :: (17, .goto 32) :: cd_X11_signOf_20
def cd_X11_signOf_0 : List (Nat × Instr) := (0, .iload 0) :: (1, .bipush 59) :: (3, .if_icmp .ne 10) :: (6, .iconst 4) :: (7, .goto 32) :: cd_X11_signOf_10
def cd_X11_signOf : List (Nat × Instr) := cd_X11_signOf_0
set_option maxRecDepth 100000 in
theorem at_X11_signOf_32 : ev_at cd_X11_signOf 32 = cd_X11_signOf_32 := rfl
set_option maxRecDepth 100000 in
theorem at_X11_signOf_31 : ev_at cd_X11_signOf 31 = cd_X11_signOf_31 := rfl
set_option maxRecDepth 100000 in
theorem at_X11_signOf_20 : ev_at cd_X11_signOf 20 = cd_X11_signOf_20 := rfl
set_option maxRecDepth 100000 in
theorem at_X11_signOf_10 : ev_at cd_X11_signOf 10 = cd_X11_signOf_10 := rfl
set_option maxRecDepth 100000 in
theorem at_X11_signOf_0 : ev_at cd_X11_signOf 0 = cd_X11_signOf_0 := rfl
abbrev tb_X11_faults (r : Nat) : ev_Tb := (ev_lu fl_X11, ev_lu (ca_X11 r), ev_lu th_X11, ev_lu ko_X11, ev_lu kl_X11, 2, false)
def cd_X11_faults_8 : List (Nat × Instr) := (8, .aload 0) :: (9, .iload 1) :: (10, .putfield 62) :: (13, .aload 0) :: (14, .aload 0) :: (15, .getfield 79) :: (18, .putfield 30) :: (21, .return_) :: []
def cd_X11_faults_0 : List (Nat × Instr) := (0, .aload 0) :: (1, .getfield 62) :: (4, .ifCond .le 8) :: (7, .return_) :: cd_X11_faults_8
def cd_X11_faults : List (Nat × Instr) := cd_X11_faults_0
set_option maxRecDepth 100000 in
theorem at_X11_faults_8 : ev_at cd_X11_faults 8 = cd_X11_faults_8 := rfl
set_option maxRecDepth 100000 in
theorem at_X11_faults_0 : ev_at cd_X11_faults 0 = cd_X11_faults_0 := rfl
abbrev tb_X11_refuses (r : Nat) : ev_Tb := (ev_lu fl_X11, ev_lu (ca_X11 r), ev_lu th_X11, ev_lu ko_X11, ev_lu kl_X11, 2, false)
def cd_X11_refuses_16 : List (Nat × Instr) := (16, .return_) :: []
def cd_X11_refuses_0 : List (Nat × Instr) := (0, .aload 0) :: (1, .getfield 62) :: (4, .ifCond .ne 16) :: (7, .iload 1) :: (8, .ifCond .eq 16) :: (11, .aload 0) :: (12, .iconst 3) :: (13, .invokevirtual 98) :: cd_X11_refuses_16
def cd_X11_refuses : List (Nat × Instr) := cd_X11_refuses_0
set_option maxRecDepth 100000 in
theorem at_X11_refuses_16 : ev_at cd_X11_refuses 16 = cd_X11_refuses_16 := rfl
set_option maxRecDepth 100000 in
theorem at_X11_refuses_0 : ev_at cd_X11_refuses 0 = cd_X11_refuses_0 := rfl
abbrev tb_X11_limits (r : Nat) : ev_Tb := (ev_lu fl_X11, ev_lu (ca_X11 r), ev_lu th_X11, ev_lu ko_X11, ev_lu kl_X11, 2, false)
def cd_X11_limits_16 : List (Nat × Instr) := (16, .return_) :: []
def cd_X11_limits_0 : List (Nat × Instr) := (0, .aload 0) :: (1, .getfield 62) :: (4, .ifCond .ne 16) :: (7, .iload 1) :: (8, .ifCond .eq 16) :: (11, .aload 0) :: (12, .iconst 4) :: (13, .invokevirtual 98) :: cd_X11_limits_16
def cd_X11_limits : List (Nat × Instr) := cd_X11_limits_0
set_option maxRecDepth 100000 in
theorem at_X11_limits_16 : ev_at cd_X11_limits 16 = cd_X11_limits_16 := rfl
set_option maxRecDepth 100000 in
theorem at_X11_limits_0 : ev_at cd_X11_limits 0 = cd_X11_limits_0 := rfl
abbrev tb_X11_is (r : Nat) : ev_Tb := (ev_lu fl_X11, ev_lu (ca_X11 r), ev_lu th_X11, ev_lu ko_X11, ev_lu kl_X11, 2, true)
def cd_X11_is_20 : List (Nat × Instr) := (20, .ireturn) :: []
def cd_X11_is_19 : List (Nat × Instr) := (19, .iconst 0) :: cd_X11_is_20
def cd_X11_is_0 : List (Nat × Instr) := (0, .aload 0) :: (1, .getfield 62) :: (4, .ifCond .ne 19) :: (7, .aload 0) :: (8, .getfield 82) :: (11, .iload 1) :: (12, .if_icmp .ne 19) :: (15, .iconst 1) :: (16, .goto 20) :: cd_X11_is_19
def cd_X11_is : List (Nat × Instr) := cd_X11_is_0
set_option maxRecDepth 100000 in
theorem at_X11_is_20 : ev_at cd_X11_is 20 = cd_X11_is_20 := rfl
set_option maxRecDepth 100000 in
theorem at_X11_is_19 : ev_at cd_X11_is 19 = cd_X11_is_19 := rfl
set_option maxRecDepth 100000 in
theorem at_X11_is_0 : ev_at cd_X11_is 0 = cd_X11_is_0 := rfl
abbrev tb_X11_isWord (r : Nat) : ev_Tb := (ev_lu fl_X11, ev_lu (ca_X11 r), ev_lu th_X11, ev_lu ko_X11, ev_lu kl_X11, 3, true)
def cd_X11_isWord_63 : List (Nat × Instr) := (63, .iconst 1) :: (64, .ireturn) :: []
def cd_X11_isWord_57 : List (Nat × Instr) := (57, .iinc 2 1) :: (60, .goto 28) :: cd_X11_isWord_63
def cd_X11_isWord_28 : List (Nat × Instr) := (28, .iload 2) :: (29, .aload 1) :: (30, .invokevirtual 104) :: (33, .if_icmp .ge 63) :: (36, .aload 0) :: (37, .getfield 26) :: (40, .aload 0) :: (41, .getfield 79) :: (44, .iload 2) :: (45, .iadd) :: (46, .baload) :: (47, .aload 1) :: (48, .iload 2) :: (49, .invokevirtual 110) :: (52, .if_icmp .eq 57) :: (55, .iconst 0) :: (56, .ireturn) :: cd_X11_isWord_57
def cd_X11_isWord_26 : List (Nat × Instr) := (26, .iconst 0) :: (27, .istore 2) :: cd_X11_isWord_28
def cd_X11_isWord_24 : List (Nat × Instr) := (24, .iconst 0) :: (25, .ireturn) :: cd_X11_isWord_26
def cd_X11_isWord_0 : List (Nat × Instr) := (0, .aload 0) :: (1, .iconst 2) :: (2, .invokevirtual 101) :: (5, .ifCond .eq 24) :: (8, .aload 0) :: (9, .getfield 76) :: (12, .aload 0) :: (13, .getfield 79) :: (16, .isub) :: (17, .aload 1) :: (18, .invokevirtual 104) :: (21, .if_icmp .eq 26) :: cd_X11_isWord_24
def cd_X11_isWord : List (Nat × Instr) := cd_X11_isWord_0
set_option maxRecDepth 100000 in
theorem at_X11_isWord_63 : ev_at cd_X11_isWord 63 = cd_X11_isWord_63 := rfl
set_option maxRecDepth 100000 in
theorem at_X11_isWord_57 : ev_at cd_X11_isWord 57 = cd_X11_isWord_57 := rfl
set_option maxRecDepth 100000 in
theorem at_X11_isWord_28 : ev_at cd_X11_isWord 28 = cd_X11_isWord_28 := rfl
set_option maxRecDepth 100000 in
theorem at_X11_isWord_26 : ev_at cd_X11_isWord 26 = cd_X11_isWord_26 := rfl
set_option maxRecDepth 100000 in
theorem at_X11_isWord_24 : ev_at cd_X11_isWord 24 = cd_X11_isWord_24 := rfl
set_option maxRecDepth 100000 in
theorem at_X11_isWord_0 : ev_at cd_X11_isWord 0 = cd_X11_isWord_0 := rfl
abbrev tb_X11_numberHere (r : Nat) : ev_Tb := (ev_lu fl_X11, ev_lu (ca_X11 r), ev_lu th_X11, ev_lu ko_X11, ev_lu kl_X11, 3, false)
def cd_X11_numberHere_48 : List (Nat × Instr) := (48, .ireturn) :: []
def cd_X11_numberHere_44 : List (Nat × Instr) := (44, .aload 0) :: (45, .getfield 92) :: cd_X11_numberHere_48
def cd_X11_numberHere_33 : List (Nat × Instr) := (33, .aload 0) :: (34, .getfield 62) :: (37, .ifCond .le 44) :: (40, .iload 1) :: (41, .goto 48) :: cd_X11_numberHere_44
def cd_X11_numberHere_16 : List (Nat × Instr) := (16, .aload 0) :: (17, .getfield 92) :: (20, .iload 1) :: (21, .iload 2) :: (22, .invokestatic 72) :: (25, .ifCond .ne 33) :: (28, .aload 0) :: (29, .iconst 2) :: (30, .invokevirtual 98) :: cd_X11_numberHere_33
def cd_X11_numberHere_0 : List (Nat × Instr) := (0, .aload 0) :: (1, .iconst 3) :: (2, .invokevirtual 101) :: (5, .ifCond .ne 16) :: (8, .aload 0) :: (9, .iconst 1) :: (10, .invokevirtual 98) :: (13, .goto 33) :: cd_X11_numberHere_16
def cd_X11_numberHere : List (Nat × Instr) := cd_X11_numberHere_0
set_option maxRecDepth 100000 in
theorem at_X11_numberHere_48 : ev_at cd_X11_numberHere 48 = cd_X11_numberHere_48 := rfl
set_option maxRecDepth 100000 in
theorem at_X11_numberHere_44 : ev_at cd_X11_numberHere 44 = cd_X11_numberHere_44 := rfl
set_option maxRecDepth 100000 in
theorem at_X11_numberHere_33 : ev_at cd_X11_numberHere 33 = cd_X11_numberHere_33 := rfl
set_option maxRecDepth 100000 in
theorem at_X11_numberHere_16 : ev_at cd_X11_numberHere 16 = cd_X11_numberHere_16 := rfl
set_option maxRecDepth 100000 in
theorem at_X11_numberHere_0 : ev_at cd_X11_numberHere 0 = cd_X11_numberHere_0 := rfl
abbrev tb_X11_readNumber (r : Nat) : ev_Tb := (ev_lu fl_X11, ev_lu (ca_X11 r), ev_lu th_X11, ev_lu ko_X11, ev_lu kl_X11, 4, false)
def cd_X11_readNumber_0 : List (Nat × Instr) := (0, .aload 0) :: (1, .iload 1) :: (2, .iload 2) :: (3, .invokevirtual 114) :: (6, .istore 3) :: (7, .aload 0) :: (8, .invokevirtual 118) :: (11, .iload 3) :: (12, .ireturn) :: []
def cd_X11_readNumber : List (Nat × Instr) := cd_X11_readNumber_0
set_option maxRecDepth 100000 in
theorem at_X11_readNumber_0 : ev_at cd_X11_readNumber 0 = cd_X11_readNumber_0 := rfl
abbrev tb_X11_isNamed (r : Nat) : ev_Tb := (ev_lu fl_X11, ev_lu (ca_X11 r), ev_lu th_X11, ev_lu ko_X11, ev_lu kl_X11, 3, true)
def cd_X11_isNamed_67 : List (Nat × Instr) := (67, .iconst 1) :: (68, .ireturn) :: []
def cd_X11_isNamed_61 : List (Nat × Instr) := (61, .iinc 2 1) :: (64, .goto 23) :: cd_X11_isNamed_67
def cd_X11_isNamed_23 : List (Nat × Instr) := (23, .iload 2) :: (24, .aload 0) :: (25, .getfield 76) :: (28, .aload 0) :: (29, .getfield 79) :: (32, .isub) :: (33, .if_icmp .ge 67) :: (36, .aload 0) :: (37, .iload 1) :: (38, .bipush 7) :: (40, .iload 2) :: (41, .iadd) :: (42, .invokevirtual 121) :: (45, .aload 0) :: (46, .getfield 26) :: (49, .aload 0) :: (50, .getfield 79) :: (53, .iload 2) :: (54, .iadd) :: (55, .baload) :: (56, .if_icmp .eq 61) :: (59, .iconst 0) :: (60, .ireturn) :: cd_X11_isNamed_61
def cd_X11_isNamed_21 : List (Nat × Instr) := (21, .iconst 0) :: (22, .istore 2) :: cd_X11_isNamed_23
def cd_X11_isNamed_0 : List (Nat × Instr) := (0, .aload 0) :: (1, .iload 1) :: (2, .bipush 6) :: (4, .invokevirtual 121) :: (7, .aload 0) :: (8, .getfield 76) :: (11, .aload 0) :: (12, .getfield 79) :: (15, .isub) :: (16, .if_icmp .eq 21) :: (19, .iconst 0) :: (20, .ireturn) :: cd_X11_isNamed_21
def cd_X11_isNamed : List (Nat × Instr) := cd_X11_isNamed_0
set_option maxRecDepth 100000 in
theorem at_X11_isNamed_67 : ev_at cd_X11_isNamed 67 = cd_X11_isNamed_67 := rfl
set_option maxRecDepth 100000 in
theorem at_X11_isNamed_61 : ev_at cd_X11_isNamed 61 = cd_X11_isNamed_61 := rfl
set_option maxRecDepth 100000 in
theorem at_X11_isNamed_23 : ev_at cd_X11_isNamed 23 = cd_X11_isNamed_23 := rfl
set_option maxRecDepth 100000 in
theorem at_X11_isNamed_21 : ev_at cd_X11_isNamed 21 = cd_X11_isNamed_21 := rfl
set_option maxRecDepth 100000 in
theorem at_X11_isNamed_0 : ev_at cd_X11_isNamed 0 = cd_X11_isNamed_0 := rfl
abbrev tb_X11_personNamed (r : Nat) : ev_Tb := (ev_lu fl_X11, ev_lu (ca_X11 r), ev_lu th_X11, ev_lu ko_X11, ev_lu kl_X11, 2, false)
def cd_X11_personNamed_28 : List (Nat × Instr) := (28, .iconst (-1)) :: (29, .ireturn) :: []
def cd_X11_personNamed_22 : List (Nat × Instr) := (22, .iinc 1 1) :: (25, .goto 2) :: cd_X11_personNamed_28
def cd_X11_personNamed_2 : List (Nat × Instr) := (2, .iload 1) :: (3, .aload 0) :: (4, .getfield 9) :: (7, .iconst 0) :: (8, .iaload) :: (9, .if_icmp .ge 28) :: (12, .aload 0) :: (13, .iload 1) :: (14, .invokevirtual 124) :: (17, .ifCond .eq 22) :: (20, .iload 1) :: (21, .ireturn) :: cd_X11_personNamed_22
def cd_X11_personNamed_0 : List (Nat × Instr) := (0, .iconst 0) :: (1, .istore 1) :: cd_X11_personNamed_2
def cd_X11_personNamed : List (Nat × Instr) := cd_X11_personNamed_0
set_option maxRecDepth 100000 in
theorem at_X11_personNamed_28 : ev_at cd_X11_personNamed 28 = cd_X11_personNamed_28 := rfl
set_option maxRecDepth 100000 in
theorem at_X11_personNamed_22 : ev_at cd_X11_personNamed 22 = cd_X11_personNamed_22 := rfl
set_option maxRecDepth 100000 in
theorem at_X11_personNamed_2 : ev_at cd_X11_personNamed 2 = cd_X11_personNamed_2 := rfl
set_option maxRecDepth 100000 in
theorem at_X11_personNamed_0 : ev_at cd_X11_personNamed 0 = cd_X11_personNamed_0 := rfl
abbrev tb_X11_wantsName (r : Nat) : ev_Tb := (ev_lu fl_X11, ev_lu (ca_X11 r), ev_lu th_X11, ev_lu ko_X11, ev_lu kl_X11, 1, false)
def cd_X11_wantsName_35 : List (Nat × Instr) := (35, .return_) :: []
def cd_X11_wantsName_16 : List (Nat × Instr) := (16, .aload 0) :: (17, .getfield 76) :: (20, .aload 0) :: (21, .getfield 79) :: (24, .isub) :: (25, .bipush 6) :: (27, .if_icmp .le 35) :: (30, .aload 0) :: (31, .iconst 2) :: (32, .invokevirtual 98) :: cd_X11_wantsName_35
def cd_X11_wantsName_0 : List (Nat × Instr) := (0, .aload 0) :: (1, .iconst 2) :: (2, .invokevirtual 101) :: (5, .ifCond .ne 16) :: (8, .aload 0) :: (9, .iconst 1) :: (10, .invokevirtual 98) :: (13, .goto 35) :: cd_X11_wantsName_16
def cd_X11_wantsName : List (Nat × Instr) := cd_X11_wantsName_0
set_option maxRecDepth 100000 in
theorem at_X11_wantsName_35 : ev_at cd_X11_wantsName 35 = cd_X11_wantsName_35 := rfl
set_option maxRecDepth 100000 in
theorem at_X11_wantsName_16 : ev_at cd_X11_wantsName 16 = cd_X11_wantsName_16 := rfl
set_option maxRecDepth 100000 in
theorem at_X11_wantsName_0 : ev_at cd_X11_wantsName 0 = cd_X11_wantsName_0 := rfl
abbrev tb_X11_personHere (r : Nat) : ev_Tb := (ev_lu fl_X11, ev_lu (ca_X11 r), ev_lu th_X11, ev_lu ko_X11, ev_lu kl_X11, 2, false)
def cd_X11_personHere_31 : List (Nat × Instr) := (31, .invokevirtual 133) :: (34, .iload 1) :: (35, .ireturn) :: []
def cd_X11_personHere_30 : List (Nat × Instr) := (30, .iconst 0) :: cd_X11_personHere_31
def cd_X11_personHere_19 : List (Nat × Instr) := (19, .istore 1) :: (20, .aload 0) :: (21, .iload 1) :: (22, .iconst (-1)) :: (23, .if_icmp .ne 30) :: (26, .iconst 1) :: (27, .goto 31) :: cd_X11_personHere_30
def cd_X11_personHere_15 : List (Nat × Instr) := (15, .aload 0) :: (16, .invokevirtual 130) :: cd_X11_personHere_19
def cd_X11_personHere_0 : List (Nat × Instr) := (0, .aload 0) :: (1, .invokevirtual 127) :: (4, .aload 0) :: (5, .getfield 62) :: (8, .ifCond .le 15) :: (11, .iconst 0) :: (12, .goto 19) :: cd_X11_personHere_15
def cd_X11_personHere : List (Nat × Instr) := cd_X11_personHere_0
set_option maxRecDepth 100000 in
theorem at_X11_personHere_31 : ev_at cd_X11_personHere 31 = cd_X11_personHere_31 := rfl
set_option maxRecDepth 100000 in
theorem at_X11_personHere_30 : ev_at cd_X11_personHere 30 = cd_X11_personHere_30 := rfl
set_option maxRecDepth 100000 in
theorem at_X11_personHere_19 : ev_at cd_X11_personHere 19 = cd_X11_personHere_19 := rfl
set_option maxRecDepth 100000 in
theorem at_X11_personHere_15 : ev_at cd_X11_personHere 15 = cd_X11_personHere_15 := rfl
set_option maxRecDepth 100000 in
theorem at_X11_personHere_0 : ev_at cd_X11_personHere 0 = cd_X11_personHere_0 := rfl
abbrev tb_X11_readPerson (r : Nat) : ev_Tb := (ev_lu fl_X11, ev_lu (ca_X11 r), ev_lu th_X11, ev_lu ko_X11, ev_lu kl_X11, 2, false)
def cd_X11_readPerson_0 : List (Nat × Instr) := (0, .aload 0) :: (1, .invokevirtual 137) :: (4, .istore 1) :: (5, .aload 0) :: (6, .invokevirtual 118) :: (9, .iload 1) :: (10, .ireturn) :: []
def cd_X11_readPerson : List (Nat × Instr) := cd_X11_readPerson_0
set_option maxRecDepth 100000 in
theorem at_X11_readPerson_0 : ev_at cd_X11_readPerson 0 = cd_X11_readPerson_0 := rfl
abbrev tb_X11_readTaster (r : Nat) : ev_Tb := (ev_lu fl_X11, ev_lu (ca_X11 r), ev_lu th_X11, ev_lu ko_X11, ev_lu kl_X11, 2, false)
def cd_X11_readTaster_26 : List (Nat × Instr) := (26, .invokevirtual 133) :: (29, .aload 0) :: (30, .invokevirtual 118) :: (33, .iload 1) :: (34, .ireturn) :: []
def cd_X11_readTaster_25 : List (Nat × Instr) := (25, .iconst 0) :: cd_X11_readTaster_26
def cd_X11_readTaster_0 : List (Nat × Instr) := (0, .aload 0) :: (1, .invokevirtual 137) :: (4, .istore 1) :: (5, .aload 0) :: (6, .aload 0) :: (7, .getfield 62) :: (10, .ifCond .ne 25) :: (13, .aload 0) :: (14, .iload 1) :: (15, .invokevirtual 140) :: (18, .ifCond .ne 25) :: (21, .iconst 1) :: (22, .goto 26) :: cd_X11_readTaster_25
def cd_X11_readTaster : List (Nat × Instr) := cd_X11_readTaster_0
set_option maxRecDepth 100000 in
theorem at_X11_readTaster_26 : ev_at cd_X11_readTaster 26 = cd_X11_readTaster_26 := rfl
set_option maxRecDepth 100000 in
theorem at_X11_readTaster_25 : ev_at cd_X11_readTaster 25 = cd_X11_readTaster_25 := rfl
set_option maxRecDepth 100000 in
theorem at_X11_readTaster_0 : ev_at cd_X11_readTaster 0 = cd_X11_readTaster_0 := rfl
abbrev tb_X11_pancakeHere (r : Nat) : ev_Tb := (ev_lu fl_X11, ev_lu (ca_X11 r), ev_lu th_X11, ev_lu ko_X11, ev_lu kl_X11, 1, false)
def cd_X11_pancakeHere_0 : List (Nat × Instr) := (0, .aload 0) :: (1, .iconst 0) :: (2, .aload 0) :: (3, .getfield 9) :: (6, .iconst 1) :: (7, .iaload) :: (8, .iconst 1) :: (9, .isub) :: (10, .invokevirtual 114) :: (13, .ireturn) :: []
def cd_X11_pancakeHere : List (Nat × Instr) := cd_X11_pancakeHere_0
set_option maxRecDepth 100000 in
theorem at_X11_pancakeHere_0 : ev_at cd_X11_pancakeHere 0 = cd_X11_pancakeHere_0 := rfl
abbrev tb_X11_readPancake (r : Nat) : ev_Tb := (ev_lu fl_X11, ev_lu (ca_X11 r), ev_lu th_X11, ev_lu ko_X11, ev_lu kl_X11, 2, false)
def cd_X11_readPancake_0 : List (Nat × Instr) := (0, .aload 0) :: (1, .invokevirtual 143) :: (4, .istore 1) :: (5, .aload 0) :: (6, .invokevirtual 118) :: (9, .iload 1) :: (10, .ireturn) :: []
def cd_X11_readPancake : List (Nat × Instr) := cd_X11_readPancake_0
set_option maxRecDepth 100000 in
theorem at_X11_readPancake_0 : ev_at cd_X11_readPancake 0 = cd_X11_readPancake_0 := rfl
abbrev tb_X11_readsPerson (r : Nat) : ev_Tb := (ev_lu fl_X11, ev_lu (ca_X11 r), ev_lu th_X11, ev_lu ko_X11, ev_lu kl_X11, 3, false)
def cd_X11_readsPerson_124 : List (Nat × Instr) := (124, .aload 0) :: (125, .invokevirtual 118) :: (128, .aload 0) :: (129, .iload 1) :: (130, .iconst 0) :: (131, .aload 0) :: (132, .iconst 0) :: (133, .bipush 9) :: (135, .invokevirtual 153) :: (138, .invokevirtual 149) :: (141, .aload 0) :: (142, .getfield 9) :: (145, .iconst 0) :: (146, .dup2) :: (147, .iaload) :: (148, .iconst 1) :: (149, .iadd) :: (150, .iastore) :: (151, .return_) :: []
def cd_X11_readsPerson_85 : List (Nat × Instr) := (85, .iload 2) :: (86, .aload 0) :: (87, .getfield 76) :: (90, .aload 0) :: (91, .getfield 79) :: (94, .isub) :: (95, .if_icmp .ge 124) :: (98, .aload 0) :: (99, .iload 1) :: (100, .bipush 7) :: (102, .iload 2) :: (103, .iadd) :: (104, .aload 0) :: (105, .getfield 26) :: (108, .aload 0) :: (109, .getfield 79) :: (112, .iload 2) :: (113, .iadd) :: (114, .baload) :: (115, .invokevirtual 149) :: (118, .iinc 2 1) :: (121, .goto 85) :: cd_X11_readsPerson_124
def cd_X11_readsPerson_60 : List (Nat × Instr) := (60, .aload 0) :: (61, .getfield 9) :: (64, .iconst 0) :: (65, .iaload) :: (66, .istore 1) :: (67, .aload 0) :: (68, .iload 1) :: (69, .bipush 6) :: (71, .aload 0) :: (72, .getfield 76) :: (75, .aload 0) :: (76, .getfield 79) :: (79, .isub) :: (80, .invokevirtual 149) :: (83, .iconst 0) :: (84, .istore 2) :: cd_X11_readsPerson_85
def cd_X11_readsPerson_49 : List (Nat × Instr) := (49, .invokevirtual 133) :: (52, .aload 0) :: (53, .getfield 62) :: (56, .ifCond .le 60) :: (59, .return_) :: cd_X11_readsPerson_60
def cd_X11_readsPerson_48 : List (Nat × Instr) := (48, .iconst 0) :: cd_X11_readsPerson_49
def cd_X11_readsPerson_17 : List (Nat × Instr) := (17, .invokevirtual 146) :: (20, .aload 0) :: (21, .invokevirtual 118) :: (24, .aload 0) :: (25, .invokevirtual 127) :: (28, .aload 0) :: (29, .aload 0) :: (30, .getfield 62) :: (33, .ifCond .ne 48) :: (36, .aload 0) :: (37, .invokevirtual 130) :: (40, .iconst (-1)) :: (41, .if_icmp .eq 48) :: (44, .iconst 1) :: (45, .goto 49) :: cd_X11_readsPerson_48
def cd_X11_readsPerson_16 : List (Nat × Instr) := (16, .iconst 0) :: cd_X11_readsPerson_17
def cd_X11_readsPerson_0 : List (Nat × Instr) := (0, .aload 0) :: (1, .aload 0) :: (2, .getfield 9) :: (5, .iconst 0) :: (6, .iaload) :: (7, .bipush 16) :: (9, .if_icmp .ne 16) :: (12, .iconst 1) :: (13, .goto 17) :: cd_X11_readsPerson_16
def cd_X11_readsPerson : List (Nat × Instr) := cd_X11_readsPerson_0
set_option maxRecDepth 100000 in
theorem at_X11_readsPerson_124 : ev_at cd_X11_readsPerson 124 = cd_X11_readsPerson_124 := rfl
set_option maxRecDepth 100000 in
theorem at_X11_readsPerson_85 : ev_at cd_X11_readsPerson 85 = cd_X11_readsPerson_85 := rfl
set_option maxRecDepth 100000 in
theorem at_X11_readsPerson_60 : ev_at cd_X11_readsPerson 60 = cd_X11_readsPerson_60 := rfl
set_option maxRecDepth 100000 in
theorem at_X11_readsPerson_49 : ev_at cd_X11_readsPerson 49 = cd_X11_readsPerson_49 := rfl
set_option maxRecDepth 100000 in
theorem at_X11_readsPerson_48 : ev_at cd_X11_readsPerson 48 = cd_X11_readsPerson_48 := rfl
set_option maxRecDepth 100000 in
theorem at_X11_readsPerson_17 : ev_at cd_X11_readsPerson 17 = cd_X11_readsPerson_17 := rfl
set_option maxRecDepth 100000 in
theorem at_X11_readsPerson_16 : ev_at cd_X11_readsPerson 16 = cd_X11_readsPerson_16 := rfl
set_option maxRecDepth 100000 in
theorem at_X11_readsPerson_0 : ev_at cd_X11_readsPerson 0 = cd_X11_readsPerson_0 := rfl
abbrev tb_X11_readsTaster (r : Nat) : ev_Tb := (ev_lu fl_X11, ev_lu (ca_X11 r), ev_lu th_X11, ev_lu ko_X11, ev_lu kl_X11, 5, false)
def cd_X11_readsTaster_98 : List (Nat × Instr) := (98, .return_) :: []
def cd_X11_readsTaster_84 : List (Nat × Instr) := (84, .aload 0) :: (85, .getfield 62) :: (88, .ifCond .ne 98) :: (91, .aload 0) :: (92, .iload 1) :: (93, .iconst 1) :: (94, .iload 2) :: (95, .invokevirtual 149) :: cd_X11_readsTaster_98
def cd_X11_readsTaster_78 : List (Nat × Instr) := (78, .iinc 3 1) :: (81, .goto 47) :: cd_X11_readsTaster_84
def cd_X11_readsTaster_47 : List (Nat × Instr) := (47, .iload 3) :: (48, .iconst 4) :: (49, .if_icmp .ge 84) :: (52, .aload 0) :: (53, .iconst 0) :: (54, .bipush 9) :: (56, .invokevirtual 153) :: (59, .istore 4) :: (61, .aload 0) :: (62, .getfield 62) :: (65, .ifCond .ne 78) :: (68, .aload 0) :: (69, .iload 1) :: (70, .iconst 2) :: (71, .iload 3) :: (72, .iadd) :: (73, .iload 4) :: (75, .invokevirtual 149) :: cd_X11_readsTaster_78
def cd_X11_readsTaster_30 : List (Nat × Instr) := (30, .invokevirtual 133) :: (33, .aload 0) :: (34, .invokevirtual 118) :: (37, .aload 0) :: (38, .iconst 1) :: (39, .bipush 6) :: (41, .invokevirtual 153) :: (44, .istore 2) :: (45, .iconst 0) :: (46, .istore 3) :: cd_X11_readsTaster_47
def cd_X11_readsTaster_29 : List (Nat × Instr) := (29, .iconst 0) :: cd_X11_readsTaster_30
def cd_X11_readsTaster_0 : List (Nat × Instr) := (0, .aload 0) :: (1, .invokevirtual 118) :: (4, .aload 0) :: (5, .invokevirtual 137) :: (8, .istore 1) :: (9, .aload 0) :: (10, .aload 0) :: (11, .getfield 62) :: (14, .ifCond .ne 29) :: (17, .aload 0) :: (18, .iload 1) :: (19, .invokevirtual 140) :: (22, .ifCond .eq 29) :: (25, .iconst 1) :: (26, .goto 30) :: cd_X11_readsTaster_29
def cd_X11_readsTaster : List (Nat × Instr) := cd_X11_readsTaster_0
set_option maxRecDepth 100000 in
theorem at_X11_readsTaster_98 : ev_at cd_X11_readsTaster 98 = cd_X11_readsTaster_98 := rfl
set_option maxRecDepth 100000 in
theorem at_X11_readsTaster_84 : ev_at cd_X11_readsTaster 84 = cd_X11_readsTaster_84 := rfl
set_option maxRecDepth 100000 in
theorem at_X11_readsTaster_78 : ev_at cd_X11_readsTaster 78 = cd_X11_readsTaster_78 := rfl
set_option maxRecDepth 100000 in
theorem at_X11_readsTaster_47 : ev_at cd_X11_readsTaster 47 = cd_X11_readsTaster_47 := rfl
set_option maxRecDepth 100000 in
theorem at_X11_readsTaster_30 : ev_at cd_X11_readsTaster 30 = cd_X11_readsTaster_30 := rfl
set_option maxRecDepth 100000 in
theorem at_X11_readsTaster_29 : ev_at cd_X11_readsTaster 29 = cd_X11_readsTaster_29 := rfl
set_option maxRecDepth 100000 in
theorem at_X11_readsTaster_0 : ev_at cd_X11_readsTaster 0 = cd_X11_readsTaster_0 := rfl
abbrev tb_X11_readsPancake (r : Nat) : ev_Tb := (ev_lu fl_X11, ev_lu (ca_X11 r), ev_lu th_X11, ev_lu ko_X11, ev_lu kl_X11, 5, false)
def cd_X11_readsPancake_95 : List (Nat × Instr) := (95, .aload 0) :: (96, .iload 2) :: (97, .iconst 2) :: (98, .iload 3) :: (99, .iadd) :: (100, .iload 4) :: (102, .invokevirtual 159) :: (105, .iinc 3 1) :: (108, .aload 0) :: (109, .invokevirtual 118) :: (112, .aload 0) :: (113, .iconst 2) :: (114, .invokevirtual 101) :: (117, .ifCond .ne 40) :: (120, .aload 0) :: (121, .iload 2) :: (122, .iconst 0) :: (123, .iload 1) :: (124, .invokevirtual 159) :: (127, .aload 0) :: (128, .iload 2) :: (129, .iconst 1) :: (130, .iload 3) :: (131, .invokevirtual 159) :: (134, .aload 0) :: (135, .getfield 9) :: (138, .iconst 1) :: (139, .dup2) :: (140, .iaload) :: (141, .iconst 1) :: (142, .iadd) :: (143, .iastore) :: (144, .return_) :: []
def cd_X11_readsPancake_84 : List (Nat × Instr) := (84, .invokevirtual 146) :: (87, .aload 0) :: (88, .getfield 62) :: (91, .ifCond .le 95) :: (94, .return_) :: cd_X11_readsPancake_95
def cd_X11_readsPancake_83 : List (Nat × Instr) := (83, .iconst 0) :: cd_X11_readsPancake_84
def cd_X11_readsPancake_70 : List (Nat × Instr) := (70, .invokevirtual 133) :: (73, .aload 0) :: (74, .iload 3) :: (75, .iconst 3) :: (76, .if_icmp .ne 83) :: (79, .iconst 1) :: (80, .goto 84) :: cd_X11_readsPancake_83
def cd_X11_readsPancake_69 : List (Nat × Instr) := (69, .iconst 0) :: cd_X11_readsPancake_70
def cd_X11_readsPancake_40 : List (Nat × Instr) := (40, .aload 0) :: (41, .invokevirtual 137) :: (44, .istore 4) :: (46, .aload 0) :: (47, .aload 0) :: (48, .getfield 62) :: (51, .ifCond .ne 69) :: (54, .aload 0) :: (55, .iload 2) :: (56, .iload 3) :: (57, .iload 4) :: (59, .invokevirtual 156) :: (62, .ifCond .eq 69) :: (65, .iconst 1) :: (66, .goto 70) :: cd_X11_readsPancake_69
def cd_X11_readsPancake_17 : List (Nat × Instr) := (17, .invokevirtual 146) :: (20, .aload 0) :: (21, .invokevirtual 118) :: (24, .aload 0) :: (25, .iconst 0) :: (26, .iconst 3) :: (27, .invokevirtual 153) :: (30, .istore 1) :: (31, .aload 0) :: (32, .getfield 9) :: (35, .iconst 1) :: (36, .iaload) :: (37, .istore 2) :: (38, .iconst 0) :: (39, .istore 3) :: cd_X11_readsPancake_40
def cd_X11_readsPancake_16 : List (Nat × Instr) := (16, .iconst 0) :: cd_X11_readsPancake_17
def cd_X11_readsPancake_0 : List (Nat × Instr) := (0, .aload 0) :: (1, .aload 0) :: (2, .getfield 9) :: (5, .iconst 1) :: (6, .iaload) :: (7, .bipush 10) :: (9, .if_icmp .ne 16) :: (12, .iconst 1) :: (13, .goto 17) :: cd_X11_readsPancake_16
def cd_X11_readsPancake : List (Nat × Instr) := cd_X11_readsPancake_0
set_option maxRecDepth 100000 in
theorem at_X11_readsPancake_95 : ev_at cd_X11_readsPancake 95 = cd_X11_readsPancake_95 := rfl
set_option maxRecDepth 100000 in
theorem at_X11_readsPancake_84 : ev_at cd_X11_readsPancake 84 = cd_X11_readsPancake_84 := rfl
set_option maxRecDepth 100000 in
theorem at_X11_readsPancake_83 : ev_at cd_X11_readsPancake 83 = cd_X11_readsPancake_83 := rfl
set_option maxRecDepth 100000 in
theorem at_X11_readsPancake_70 : ev_at cd_X11_readsPancake 70 = cd_X11_readsPancake_70 := rfl
set_option maxRecDepth 100000 in
theorem at_X11_readsPancake_69 : ev_at cd_X11_readsPancake 69 = cd_X11_readsPancake_69 := rfl
set_option maxRecDepth 100000 in
theorem at_X11_readsPancake_40 : ev_at cd_X11_readsPancake 40 = cd_X11_readsPancake_40 := rfl
set_option maxRecDepth 100000 in
theorem at_X11_readsPancake_17 : ev_at cd_X11_readsPancake 17 = cd_X11_readsPancake_17 := rfl
set_option maxRecDepth 100000 in
theorem at_X11_readsPancake_16 : ev_at cd_X11_readsPancake 16 = cd_X11_readsPancake_16 := rfl
set_option maxRecDepth 100000 in
theorem at_X11_readsPancake_0 : ev_at cd_X11_readsPancake 0 = cd_X11_readsPancake_0 := rfl
abbrev tb_X11_readsBid (r : Nat) : ev_Tb := (ev_lu fl_X11, ev_lu (ca_X11 r), ev_lu th_X11, ev_lu ko_X11, ev_lu kl_X11, 4, false)
def cd_X11_readsBid_38 : List (Nat × Instr) := (38, .return_) :: []
def cd_X11_readsBid_0 : List (Nat × Instr) := (0, .aload 0) :: (1, .invokevirtual 118) :: (4, .aload 0) :: (5, .invokevirtual 162) :: (8, .istore 1) :: (9, .aload 0) :: (10, .invokevirtual 165) :: (13, .istore 2) :: (14, .aload 0) :: (15, .iconst 0) :: (16, .iconst 3) :: (17, .invokevirtual 153) :: (20, .istore 3) :: (21, .aload 0) :: (22, .getfield 62) :: (25, .ifCond .ne 38) :: (28, .aload 0) :: (29, .iload 1) :: (30, .bipush 13) :: (32, .iload 2) :: (33, .iadd) :: (34, .iload 3) :: (35, .invokevirtual 149) :: cd_X11_readsBid_38
def cd_X11_readsBid : List (Nat × Instr) := cd_X11_readsBid_0
set_option maxRecDepth 100000 in
theorem at_X11_readsBid_38 : ev_at cd_X11_readsBid 38 = cd_X11_readsBid_38 := rfl
set_option maxRecDepth 100000 in
theorem at_X11_readsBid_0 : ev_at cd_X11_readsBid 0 = cd_X11_readsBid_0 := rfl
abbrev tb_X11_readsTogether (r : Nat) : ev_Tb := (ev_lu fl_X11, ev_lu (ca_X11 r), ev_lu th_X11, ev_lu ko_X11, ev_lu kl_X11, 3, false)
def cd_X11_readsTogether_75 : List (Nat × Instr) := (75, .aload 0) :: (76, .invokevirtual 118) :: (79, .return_) :: []
def cd_X11_readsTogether_45 : List (Nat × Instr) := (45, .invokevirtual 133) :: (48, .aload 0) :: (49, .getfield 62) :: (52, .ifCond .ne 75) :: (55, .aload 0) :: (56, .iload 1) :: (57, .bipush 43) :: (59, .iload 2) :: (60, .iadd) :: (61, .iconst 1) :: (62, .invokevirtual 149) :: (65, .aload 0) :: (66, .iload 2) :: (67, .bipush 43) :: (69, .iload 1) :: (70, .iadd) :: (71, .iconst 1) :: (72, .invokevirtual 149) :: cd_X11_readsTogether_75
def cd_X11_readsTogether_44 : List (Nat × Instr) := (44, .iconst 0) :: cd_X11_readsTogether_45
def cd_X11_readsTogether_40 : List (Nat × Instr) := (40, .iconst 1) :: (41, .goto 45) :: cd_X11_readsTogether_44
def cd_X11_readsTogether_0 : List (Nat × Instr) := (0, .aload 0) :: (1, .invokevirtual 118) :: (4, .aload 0) :: (5, .invokevirtual 168) :: (8, .istore 1) :: (9, .aload 0) :: (10, .invokevirtual 137) :: (13, .istore 2) :: (14, .aload 0) :: (15, .aload 0) :: (16, .getfield 62) :: (19, .ifCond .ne 44) :: (22, .iload 1) :: (23, .iload 2) :: (24, .if_icmp .eq 40) :: (27, .aload 0) :: (28, .iload 1) :: (29, .bipush 43) :: (31, .iload 2) :: (32, .iadd) :: (33, .invokevirtual 121) :: (36, .iconst 1) :: (37, .if_icmp .ne 44) :: cd_X11_readsTogether_40
def cd_X11_readsTogether : List (Nat × Instr) := cd_X11_readsTogether_0
set_option maxRecDepth 100000 in
theorem at_X11_readsTogether_75 : ev_at cd_X11_readsTogether 75 = cd_X11_readsTogether_75 := rfl
set_option maxRecDepth 100000 in
theorem at_X11_readsTogether_45 : ev_at cd_X11_readsTogether 45 = cd_X11_readsTogether_45 := rfl
set_option maxRecDepth 100000 in
theorem at_X11_readsTogether_44 : ev_at cd_X11_readsTogether 44 = cd_X11_readsTogether_44 := rfl
set_option maxRecDepth 100000 in
theorem at_X11_readsTogether_40 : ev_at cd_X11_readsTogether 40 = cd_X11_readsTogether_40 := rfl
set_option maxRecDepth 100000 in
theorem at_X11_readsTogether_0 : ev_at cd_X11_readsTogether 0 = cd_X11_readsTogether_0 := rfl
abbrev tb_X11_readsConflict (r : Nat) : ev_Tb := (ev_lu fl_X11, ev_lu (ca_X11 r), ev_lu th_X11, ev_lu ko_X11, ev_lu kl_X11, 3, false)
def cd_X11_readsConflict_60 : List (Nat × Instr) := (60, .aload 0) :: (61, .invokevirtual 118) :: (64, .return_) :: []
def cd_X11_readsConflict_40 : List (Nat × Instr) := (40, .invokevirtual 146) :: (43, .aload 0) :: (44, .getfield 62) :: (47, .ifCond .ne 60) :: (50, .aload 0) :: (51, .iload 1) :: (52, .bipush 33) :: (54, .iload 2) :: (55, .iadd) :: (56, .iconst 1) :: (57, .invokevirtual 149) :: cd_X11_readsConflict_60
def cd_X11_readsConflict_39 : List (Nat × Instr) := (39, .iconst 0) :: cd_X11_readsConflict_40
def cd_X11_readsConflict_0 : List (Nat × Instr) := (0, .aload 0) :: (1, .invokevirtual 118) :: (4, .aload 0) :: (5, .invokevirtual 168) :: (8, .istore 1) :: (9, .aload 0) :: (10, .invokevirtual 143) :: (13, .istore 2) :: (14, .aload 0) :: (15, .aload 0) :: (16, .getfield 62) :: (19, .ifCond .ne 39) :: (22, .aload 0) :: (23, .iload 1) :: (24, .bipush 33) :: (26, .iload 2) :: (27, .iadd) :: (28, .invokevirtual 121) :: (31, .iconst 1) :: (32, .if_icmp .ne 39) :: (35, .iconst 1) :: (36, .goto 40) :: cd_X11_readsConflict_39
def cd_X11_readsConflict : List (Nat × Instr) := cd_X11_readsConflict_0
set_option maxRecDepth 100000 in
theorem at_X11_readsConflict_60 : ev_at cd_X11_readsConflict 60 = cd_X11_readsConflict_60 := rfl
set_option maxRecDepth 100000 in
theorem at_X11_readsConflict_40 : ev_at cd_X11_readsConflict 40 = cd_X11_readsConflict_40 := rfl
set_option maxRecDepth 100000 in
theorem at_X11_readsConflict_39 : ev_at cd_X11_readsConflict 39 = cd_X11_readsConflict_39 := rfl
set_option maxRecDepth 100000 in
theorem at_X11_readsConflict_0 : ev_at cd_X11_readsConflict 0 = cd_X11_readsConflict_0 := rfl
abbrev tb_X11_readsSeat (r : Nat) : ev_Tb := (ev_lu fl_X11, ev_lu (ca_X11 r), ev_lu th_X11, ev_lu ko_X11, ev_lu kl_X11, 4, false)
def cd_X11_readsSeat_56 : List (Nat × Instr) := (56, .istore 3) :: (57, .aload 0) :: (58, .invokevirtual 118) :: (61, .return_) :: []
def cd_X11_readsSeat_50 : List (Nat × Instr) := (50, .aload 0) :: (51, .iload 1) :: (52, .iload 2) :: (53, .invokevirtual 174) :: cd_X11_readsSeat_56
def cd_X11_readsSeat_36 : List (Nat × Instr) := (36, .invokevirtual 146) :: (39, .aload 0) :: (40, .getfield 62) :: (43, .ifCond .le 50) :: (46, .iconst 0) :: (47, .goto 56) :: cd_X11_readsSeat_50
def cd_X11_readsSeat_35 : List (Nat × Instr) := (35, .iconst 0) :: cd_X11_readsSeat_36
def cd_X11_readsSeat_0 : List (Nat × Instr) := (0, .aload 0) :: (1, .invokevirtual 118) :: (4, .aload 0) :: (5, .invokevirtual 168) :: (8, .istore 1) :: (9, .aload 0) :: (10, .invokevirtual 143) :: (13, .istore 2) :: (14, .aload 0) :: (15, .aload 0) :: (16, .getfield 62) :: (19, .ifCond .ne 35) :: (22, .aload 0) :: (23, .iload 1) :: (24, .iload 2) :: (25, .invokevirtual 171) :: (28, .ifCond .eq 35) :: (31, .iconst 1) :: (32, .goto 36) :: cd_X11_readsSeat_35
def cd_X11_readsSeat : List (Nat × Instr) := cd_X11_readsSeat_0
set_option maxRecDepth 100000 in
theorem at_X11_readsSeat_56 : ev_at cd_X11_readsSeat 56 = cd_X11_readsSeat_56 := rfl
set_option maxRecDepth 100000 in
theorem at_X11_readsSeat_50 : ev_at cd_X11_readsSeat 50 = cd_X11_readsSeat_50 := rfl
set_option maxRecDepth 100000 in
theorem at_X11_readsSeat_36 : ev_at cd_X11_readsSeat 36 = cd_X11_readsSeat_36 := rfl
set_option maxRecDepth 100000 in
theorem at_X11_readsSeat_35 : ev_at cd_X11_readsSeat 35 = cd_X11_readsSeat_35 := rfl
set_option maxRecDepth 100000 in
theorem at_X11_readsSeat_0 : ev_at cd_X11_readsSeat 0 = cd_X11_readsSeat_0 := rfl
abbrev tb_X11_readsFill (r : Nat) : ev_Tb := (ev_lu fl_X11, ev_lu (ca_X11 r), ev_lu th_X11, ev_lu ko_X11, ev_lu kl_X11, 2, false)
def cd_X11_readsFill_0 : List (Nat × Instr) := (0, .aload 0) :: (1, .invokevirtual 177) :: (4, .istore 1) :: (5, .aload 0) :: (6, .invokevirtual 118) :: (9, .return_) :: []
def cd_X11_readsFill : List (Nat × Instr) := cd_X11_readsFill_0
set_option maxRecDepth 100000 in
theorem at_X11_readsFill_0 : ev_at cd_X11_readsFill 0 = cd_X11_readsFill_0 := rfl
abbrev tb_X11_tastedHere (r : Nat) : ev_Tb := (ev_lu fl_X11, ev_lu (ca_X11 r), ev_lu th_X11, ev_lu ko_X11, ev_lu kl_X11, 3, false)
def cd_X11_tastedHere_28 : List (Nat × Instr) := (28, .invokevirtual 146) :: (31, .iload 2) :: (32, .ireturn) :: []
def cd_X11_tastedHere_27 : List (Nat × Instr) := (27, .iconst 0) :: cd_X11_tastedHere_28
def cd_X11_tastedHere_0 : List (Nat × Instr) := (0, .aload 0) :: (1, .invokevirtual 143) :: (4, .istore 2) :: (5, .aload 0) :: (6, .aload 0) :: (7, .getfield 62) :: (10, .ifCond .ne 27) :: (13, .aload 0) :: (14, .iload 1) :: (15, .iload 2) :: (16, .invokevirtual 180) :: (19, .iconst (-1)) :: (20, .if_icmp .ne 27) :: (23, .iconst 1) :: (24, .goto 28) :: cd_X11_tastedHere_27
def cd_X11_tastedHere : List (Nat × Instr) := cd_X11_tastedHere_0
set_option maxRecDepth 100000 in
theorem at_X11_tastedHere_28 : ev_at cd_X11_tastedHere 28 = cd_X11_tastedHere_28 := rfl
set_option maxRecDepth 100000 in
theorem at_X11_tastedHere_27 : ev_at cd_X11_tastedHere 27 = cd_X11_tastedHere_27 := rfl
set_option maxRecDepth 100000 in
theorem at_X11_tastedHere_0 : ev_at cd_X11_tastedHere 0 = cd_X11_tastedHere_0 := rfl
abbrev tb_X11_readsLeave (r : Nat) : ev_Tb := (ev_lu fl_X11, ev_lu (ca_X11 r), ev_lu th_X11, ev_lu ko_X11, ev_lu kl_X11, 4, false)
def cd_X11_readsLeave_32 : List (Nat × Instr) := (32, .istore 3) :: (33, .aload 0) :: (34, .invokevirtual 118) :: (37, .return_) :: []
def cd_X11_readsLeave_26 : List (Nat × Instr) := (26, .aload 0) :: (27, .iload 1) :: (28, .iload 2) :: (29, .invokevirtual 186) :: cd_X11_readsLeave_32
def cd_X11_readsLeave_0 : List (Nat × Instr) := (0, .aload 0) :: (1, .invokevirtual 118) :: (4, .aload 0) :: (5, .invokevirtual 168) :: (8, .istore 1) :: (9, .aload 0) :: (10, .iload 1) :: (11, .invokevirtual 183) :: (14, .istore 2) :: (15, .aload 0) :: (16, .getfield 62) :: (19, .ifCond .le 26) :: (22, .iconst 0) :: (23, .goto 32) :: cd_X11_readsLeave_26
def cd_X11_readsLeave : List (Nat × Instr) := cd_X11_readsLeave_0
set_option maxRecDepth 100000 in
theorem at_X11_readsLeave_32 : ev_at cd_X11_readsLeave 32 = cd_X11_readsLeave_32 := rfl
set_option maxRecDepth 100000 in
theorem at_X11_readsLeave_26 : ev_at cd_X11_readsLeave 26 = cd_X11_readsLeave_26 := rfl
set_option maxRecDepth 100000 in
theorem at_X11_readsLeave_0 : ev_at cd_X11_readsLeave 0 = cd_X11_readsLeave_0 := rfl
abbrev tb_X11_readsScore (r : Nat) : ev_Tb := (ev_lu fl_X11, ev_lu (ca_X11 r), ev_lu th_X11, ev_lu ko_X11, ev_lu kl_X11, 4, false)
def cd_X11_readsScore_44 : List (Nat × Instr) := (44, .return_) :: []
def cd_X11_readsScore_0 : List (Nat × Instr) := (0, .aload 0) :: (1, .invokevirtual 118) :: (4, .aload 0) :: (5, .invokevirtual 168) :: (8, .istore 1) :: (9, .aload 0) :: (10, .iload 1) :: (11, .invokevirtual 183) :: (14, .istore 2) :: (15, .aload 0) :: (16, .invokevirtual 118) :: (19, .aload 0) :: (20, .iconst 1) :: (21, .bipush 9) :: (23, .invokevirtual 153) :: (26, .istore 3) :: (27, .aload 0) :: (28, .getfield 62) :: (31, .ifCond .ne 44) :: (34, .aload 0) :: (35, .iload 1) :: (36, .bipush 23) :: (38, .iload 2) :: (39, .iadd) :: (40, .iload 3) :: (41, .invokevirtual 149) :: cd_X11_readsScore_44
def cd_X11_readsScore : List (Nat × Instr) := cd_X11_readsScore_0
set_option maxRecDepth 100000 in
theorem at_X11_readsScore_44 : ev_at cd_X11_readsScore 44 = cd_X11_readsScore_44 := rfl
set_option maxRecDepth 100000 in
theorem at_X11_readsScore_0 : ev_at cd_X11_readsScore 0 = cd_X11_readsScore_0 := rfl
abbrev tb_X11_readsTalk (r : Nat) : ev_Tb := (ev_lu fl_X11, ev_lu (ca_X11 r), ev_lu th_X11, ev_lu ko_X11, ev_lu kl_X11, 3, false)
def cd_X11_readsTalk_50 : List (Nat × Instr) := (50, .istore 2) :: (51, .aload 0) :: (52, .invokevirtual 118) :: (55, .return_) :: []
def cd_X11_readsTalk_45 : List (Nat × Instr) := (45, .aload 0) :: (46, .iload 1) :: (47, .invokevirtual 192) :: cd_X11_readsTalk_50
def cd_X11_readsTalk_31 : List (Nat × Instr) := (31, .invokevirtual 146) :: (34, .aload 0) :: (35, .getfield 62) :: (38, .ifCond .le 45) :: (41, .iconst 0) :: (42, .goto 50) :: cd_X11_readsTalk_45
def cd_X11_readsTalk_30 : List (Nat × Instr) := (30, .iconst 0) :: cd_X11_readsTalk_31
def cd_X11_readsTalk_0 : List (Nat × Instr) := (0, .aload 0) :: (1, .invokevirtual 118) :: (4, .aload 0) :: (5, .invokevirtual 143) :: (8, .istore 1) :: (9, .aload 0) :: (10, .aload 0) :: (11, .getfield 62) :: (14, .ifCond .ne 30) :: (17, .aload 0) :: (18, .iload 1) :: (19, .invokevirtual 189) :: (22, .iconst 2) :: (23, .if_icmp .ge 30) :: (26, .iconst 1) :: (27, .goto 31) :: cd_X11_readsTalk_30
def cd_X11_readsTalk : List (Nat × Instr) := cd_X11_readsTalk_0
set_option maxRecDepth 100000 in
theorem at_X11_readsTalk_50 : ev_at cd_X11_readsTalk 50 = cd_X11_readsTalk_50 := rfl
set_option maxRecDepth 100000 in
theorem at_X11_readsTalk_45 : ev_at cd_X11_readsTalk 45 = cd_X11_readsTalk_45 := rfl
set_option maxRecDepth 100000 in
theorem at_X11_readsTalk_31 : ev_at cd_X11_readsTalk 31 = cd_X11_readsTalk_31 := rfl
set_option maxRecDepth 100000 in
theorem at_X11_readsTalk_30 : ev_at cd_X11_readsTalk 30 = cd_X11_readsTalk_30 := rfl
set_option maxRecDepth 100000 in
theorem at_X11_readsTalk_0 : ev_at cd_X11_readsTalk 0 = cd_X11_readsTalk_0 := rfl
abbrev tb_X11_readsLimit (r : Nat) : ev_Tb := (ev_lu fl_X11, ev_lu (ca_X11 r), ev_lu th_X11, ev_lu ko_X11, ev_lu kl_X11, 3, false)
def cd_X11_readsLimit_31 : List (Nat × Instr) := (31, .return_) :: []
def cd_X11_readsLimit_0 : List (Nat × Instr) := (0, .aload 0) :: (1, .invokevirtual 118) :: (4, .aload 0) :: (5, .invokevirtual 162) :: (8, .istore 1) :: (9, .aload 0) :: (10, .iconst 1) :: (11, .bipush 6) :: (13, .invokevirtual 153) :: (16, .istore 2) :: (17, .aload 0) :: (18, .getfield 62) :: (21, .ifCond .ne 31) :: (24, .aload 0) :: (25, .iload 1) :: (26, .iconst 1) :: (27, .iload 2) :: (28, .invokevirtual 149) :: cd_X11_readsLimit_31
def cd_X11_readsLimit : List (Nat × Instr) := cd_X11_readsLimit_0
set_option maxRecDepth 100000 in
theorem at_X11_readsLimit_31 : ev_at cd_X11_readsLimit 31 = cd_X11_readsLimit_31 := rfl
set_option maxRecDepth 100000 in
theorem at_X11_readsLimit_0 : ev_at cd_X11_readsLimit 0 = cd_X11_readsLimit_0 := rfl
abbrev tb_X11_readsKitchen (r : Nat) : ev_Tb := (ev_lu fl_X11, ev_lu (ca_X11 r), ev_lu th_X11, ev_lu ko_X11, ev_lu kl_X11, 3, false)
def cd_X11_readsKitchen_31 : List (Nat × Instr) := (31, .return_) :: []
def cd_X11_readsKitchen_0 : List (Nat × Instr) := (0, .aload 0) :: (1, .invokevirtual 118) :: (4, .aload 0) :: (5, .invokevirtual 168) :: (8, .istore 1) :: (9, .aload 0) :: (10, .iconst 0) :: (11, .bipush 9) :: (13, .invokevirtual 153) :: (16, .istore 2) :: (17, .aload 0) :: (18, .getfield 62) :: (21, .ifCond .ne 31) :: (24, .aload 0) :: (25, .iload 1) :: (26, .iconst 0) :: (27, .iload 2) :: (28, .invokevirtual 149) :: cd_X11_readsKitchen_31
def cd_X11_readsKitchen : List (Nat × Instr) := cd_X11_readsKitchen_0
set_option maxRecDepth 100000 in
theorem at_X11_readsKitchen_31 : ev_at cd_X11_readsKitchen 31 = cd_X11_readsKitchen_31 := rfl
set_option maxRecDepth 100000 in
theorem at_X11_readsKitchen_0 : ev_at cd_X11_readsKitchen 0 = cd_X11_readsKitchen_0 := rfl
abbrev tb_X11_readsSwap (r : Nat) : ev_Tb := (ev_lu fl_X11, ev_lu (ca_X11 r), ev_lu th_X11, ev_lu ko_X11, ev_lu kl_X11, 4, false)
def cd_X11_readsSwap_61 : List (Nat × Instr) := (61, .aload 0) :: (62, .invokevirtual 118) :: (65, .return_) :: []
def cd_X11_readsSwap_25 : List (Nat × Instr) := (25, .invokevirtual 133) :: (28, .aload 0) :: (29, .getfield 62) :: (32, .ifCond .ne 61) :: (35, .aload 0) :: (36, .iload 1) :: (37, .iconst 0) :: (38, .invokevirtual 195) :: (41, .istore 3) :: (42, .aload 0) :: (43, .iload 1) :: (44, .iconst 0) :: (45, .aload 0) :: (46, .iload 2) :: (47, .iconst 0) :: (48, .invokevirtual 195) :: (51, .invokevirtual 159) :: (54, .aload 0) :: (55, .iload 2) :: (56, .iconst 0) :: (57, .iload 3) :: (58, .invokevirtual 159) :: cd_X11_readsSwap_61
def cd_X11_readsSwap_24 : List (Nat × Instr) := (24, .iconst 0) :: cd_X11_readsSwap_25
def cd_X11_readsSwap_0 : List (Nat × Instr) := (0, .aload 0) :: (1, .invokevirtual 118) :: (4, .aload 0) :: (5, .invokevirtual 165) :: (8, .istore 1) :: (9, .aload 0) :: (10, .invokevirtual 143) :: (13, .istore 2) :: (14, .aload 0) :: (15, .iload 1) :: (16, .iload 2) :: (17, .if_icmp .ne 24) :: (20, .iconst 1) :: (21, .goto 25) :: cd_X11_readsSwap_24
def cd_X11_readsSwap : List (Nat × Instr) := cd_X11_readsSwap_0
set_option maxRecDepth 100000 in
theorem at_X11_readsSwap_61 : ev_at cd_X11_readsSwap 61 = cd_X11_readsSwap_61 := rfl
set_option maxRecDepth 100000 in
theorem at_X11_readsSwap_25 : ev_at cd_X11_readsSwap 25 = cd_X11_readsSwap_25 := rfl
set_option maxRecDepth 100000 in
theorem at_X11_readsSwap_24 : ev_at cd_X11_readsSwap 24 = cd_X11_readsSwap_24 := rfl
set_option maxRecDepth 100000 in
theorem at_X11_readsSwap_0 : ev_at cd_X11_readsSwap 0 = cd_X11_readsSwap_0 := rfl
abbrev tb_X11_readsClear (r : Nat) : ev_Tb := (ev_lu fl_X11, ev_lu (ca_X11 r), ev_lu th_X11, ev_lu ko_X11, ev_lu kl_X11, 3, false)
def cd_X11_readsClear_41 : List (Nat × Instr) := (41, .aload 0) :: (42, .invokevirtual 118) :: (45, .return_) :: []
def cd_X11_readsClear_9 : List (Nat × Instr) := (9, .aload 0) :: (10, .getfield 62) :: (13, .ifCond .ne 41) :: (16, .aload 0) :: (17, .iload 1) :: (18, .iconst 5) :: (19, .invokevirtual 195) :: (22, .ifCond .le 41) :: (25, .aload 0) :: (26, .aload 0) :: (27, .iload 1) :: (28, .bipush 6) :: (30, .invokevirtual 195) :: (33, .iload 1) :: (34, .invokevirtual 186) :: (37, .istore 2) :: (38, .goto 9) :: cd_X11_readsClear_41
def cd_X11_readsClear_0 : List (Nat × Instr) := (0, .aload 0) :: (1, .invokevirtual 118) :: (4, .aload 0) :: (5, .invokevirtual 143) :: (8, .istore 1) :: cd_X11_readsClear_9
def cd_X11_readsClear : List (Nat × Instr) := cd_X11_readsClear_0
set_option maxRecDepth 100000 in
theorem at_X11_readsClear_41 : ev_at cd_X11_readsClear 41 = cd_X11_readsClear_41 := rfl
set_option maxRecDepth 100000 in
theorem at_X11_readsClear_9 : ev_at cd_X11_readsClear 9 = cd_X11_readsClear_9 := rfl
set_option maxRecDepth 100000 in
theorem at_X11_readsClear_0 : ev_at cd_X11_readsClear 0 = cd_X11_readsClear_0 := rfl
abbrev tb_X11_readsEven (r : Nat) : ev_Tb := (ev_lu fl_X11, ev_lu (ca_X11 r), ev_lu th_X11, ev_lu ko_X11, ev_lu kl_X11, 4, false)
def cd_X11_readsEven_95 : List (Nat × Instr) := (95, .aload 0) :: (96, .invokevirtual 118) :: (99, .return_) :: []
def cd_X11_readsEven_89 : List (Nat × Instr) := (89, .iinc 3 1) :: (92, .goto 53) :: cd_X11_readsEven_95
def cd_X11_readsEven_53 : List (Nat × Instr) := (53, .iload 3) :: (54, .aload 0) :: (55, .getfield 9) :: (58, .iconst 0) :: (59, .iaload) :: (60, .if_icmp .ge 95) :: (63, .aload 0) :: (64, .getfield 62) :: (67, .ifCond .ne 95) :: (70, .aload 0) :: (71, .iload 3) :: (72, .iload 1) :: (73, .invokevirtual 201) :: (76, .ifCond .eq 89) :: (79, .aload 0) :: (80, .iload 3) :: (81, .bipush 23) :: (83, .iload 1) :: (84, .iadd) :: (85, .iload 2) :: (86, .invokevirtual 149) :: cd_X11_readsEven_89
def cd_X11_readsEven_50 : List (Nat × Instr) := (50, .istore 2) :: (51, .iconst 0) :: (52, .istore 3) :: cd_X11_readsEven_53
def cd_X11_readsEven_45 : List (Nat × Instr) := (45, .aload 0) :: (46, .iload 1) :: (47, .invokevirtual 198) :: cd_X11_readsEven_50
def cd_X11_readsEven_31 : List (Nat × Instr) := (31, .invokevirtual 146) :: (34, .aload 0) :: (35, .getfield 62) :: (38, .ifCond .le 45) :: (41, .iconst 0) :: (42, .goto 50) :: cd_X11_readsEven_45
def cd_X11_readsEven_30 : List (Nat × Instr) := (30, .iconst 0) :: cd_X11_readsEven_31
def cd_X11_readsEven_0 : List (Nat × Instr) := (0, .aload 0) :: (1, .invokevirtual 118) :: (4, .aload 0) :: (5, .invokevirtual 143) :: (8, .istore 1) :: (9, .aload 0) :: (10, .aload 0) :: (11, .getfield 62) :: (14, .ifCond .ne 30) :: (17, .aload 0) :: (18, .iload 1) :: (19, .invokevirtual 189) :: (22, .iconst 2) :: (23, .if_icmp .ge 30) :: (26, .iconst 1) :: (27, .goto 31) :: cd_X11_readsEven_30
def cd_X11_readsEven : List (Nat × Instr) := cd_X11_readsEven_0
set_option maxRecDepth 100000 in
theorem at_X11_readsEven_95 : ev_at cd_X11_readsEven 95 = cd_X11_readsEven_95 := rfl
set_option maxRecDepth 100000 in
theorem at_X11_readsEven_89 : ev_at cd_X11_readsEven 89 = cd_X11_readsEven_89 := rfl
set_option maxRecDepth 100000 in
theorem at_X11_readsEven_53 : ev_at cd_X11_readsEven 53 = cd_X11_readsEven_53 := rfl
set_option maxRecDepth 100000 in
theorem at_X11_readsEven_50 : ev_at cd_X11_readsEven 50 = cd_X11_readsEven_50 := rfl
set_option maxRecDepth 100000 in
theorem at_X11_readsEven_45 : ev_at cd_X11_readsEven 45 = cd_X11_readsEven_45 := rfl
set_option maxRecDepth 100000 in
theorem at_X11_readsEven_31 : ev_at cd_X11_readsEven 31 = cd_X11_readsEven_31 := rfl
set_option maxRecDepth 100000 in
theorem at_X11_readsEven_30 : ev_at cd_X11_readsEven 30 = cd_X11_readsEven_30 := rfl
set_option maxRecDepth 100000 in
theorem at_X11_readsEven_0 : ev_at cd_X11_readsEven 0 = cd_X11_readsEven_0 := rfl
abbrev tb_X11_readsCopy (r : Nat) : ev_Tb := (ev_lu fl_X11, ev_lu (ca_X11 r), ev_lu th_X11, ev_lu ko_X11, ev_lu kl_X11, 4, false)
def cd_X11_readsCopy_82 : List (Nat × Instr) := (82, .aload 0) :: (83, .invokevirtual 118) :: (86, .return_) :: []
def cd_X11_readsCopy_45 : List (Nat × Instr) := (45, .iload 3) :: (46, .bipush 10) :: (48, .if_icmp .ge 82) :: (51, .aload 0) :: (52, .getfield 62) :: (55, .ifCond .ne 82) :: (58, .aload 0) :: (59, .iload 2) :: (60, .bipush 13) :: (62, .iload 3) :: (63, .iadd) :: (64, .aload 0) :: (65, .iload 1) :: (66, .bipush 13) :: (68, .iload 3) :: (69, .iadd) :: (70, .invokevirtual 121) :: (73, .invokevirtual 149) :: (76, .iinc 3 1) :: (79, .goto 45) :: cd_X11_readsCopy_82
def cd_X11_readsCopy_40 : List (Nat × Instr) := (40, .invokevirtual 133) :: (43, .iconst 0) :: (44, .istore 3) :: cd_X11_readsCopy_45
def cd_X11_readsCopy_39 : List (Nat × Instr) := (39, .iconst 0) :: cd_X11_readsCopy_40
def cd_X11_readsCopy_35 : List (Nat × Instr) := (35, .iconst 1) :: (36, .goto 40) :: cd_X11_readsCopy_39
def cd_X11_readsCopy_0 : List (Nat × Instr) := (0, .aload 0) :: (1, .invokevirtual 118) :: (4, .aload 0) :: (5, .invokevirtual 162) :: (8, .istore 1) :: (9, .aload 0) :: (10, .invokevirtual 137) :: (13, .istore 2) :: (14, .aload 0) :: (15, .aload 0) :: (16, .getfield 62) :: (19, .ifCond .ne 39) :: (22, .aload 0) :: (23, .iload 2) :: (24, .invokevirtual 140) :: (27, .ifCond .eq 35) :: (30, .iload 1) :: (31, .iload 2) :: (32, .if_icmp .ne 39) :: cd_X11_readsCopy_35
def cd_X11_readsCopy : List (Nat × Instr) := cd_X11_readsCopy_0
set_option maxRecDepth 100000 in
theorem at_X11_readsCopy_82 : ev_at cd_X11_readsCopy 82 = cd_X11_readsCopy_82 := rfl
set_option maxRecDepth 100000 in
theorem at_X11_readsCopy_45 : ev_at cd_X11_readsCopy 45 = cd_X11_readsCopy_45 := rfl
set_option maxRecDepth 100000 in
theorem at_X11_readsCopy_40 : ev_at cd_X11_readsCopy 40 = cd_X11_readsCopy_40 := rfl
set_option maxRecDepth 100000 in
theorem at_X11_readsCopy_39 : ev_at cd_X11_readsCopy 39 = cd_X11_readsCopy_39 := rfl
set_option maxRecDepth 100000 in
theorem at_X11_readsCopy_35 : ev_at cd_X11_readsCopy 35 = cd_X11_readsCopy_35 := rfl
set_option maxRecDepth 100000 in
theorem at_X11_readsCopy_0 : ev_at cd_X11_readsCopy 0 = cd_X11_readsCopy_0 := rfl
abbrev tb_X11_readsItems (r : Nat) : ev_Tb := (ev_lu fl_X11, ev_lu (ca_X11 r), ev_lu th_X11, ev_lu ko_X11, ev_lu kl_X11, 1, false)
def cd_X11_readsItems_30 : List (Nat × Instr) := (30, .return_) :: []
def cd_X11_readsItems_0 : List (Nat × Instr) := (0, .aload 0) :: (1, .invokevirtual 118) :: (4, .aload 0) :: (5, .invokevirtual 205) :: (8, .aload 0) :: (9, .iconst 4) :: (10, .invokevirtual 101) :: (13, .ifCond .ne 0) :: (16, .aload 0) :: (17, .bipush 6) :: (19, .invokevirtual 101) :: (22, .ifCond .ne 30) :: (25, .aload 0) :: (26, .iconst 1) :: (27, .invokevirtual 98) :: cd_X11_readsItems_30
def cd_X11_readsItems : List (Nat × Instr) := cd_X11_readsItems_0
set_option maxRecDepth 100000 in
theorem at_X11_readsItems_30 : ev_at cd_X11_readsItems 30 = cd_X11_readsItems_30 := rfl
set_option maxRecDepth 100000 in
theorem at_X11_readsItems_0 : ev_at cd_X11_readsItems 0 = cd_X11_readsItems_0 := rfl
abbrev tb_X11_readsRepeat (r : Nat) : ev_Tb := (ev_lu fl_X11, ev_lu (ca_X11 r), ev_lu th_X11, ev_lu ko_X11, ev_lu kl_X11, 4, false)
def cd_X11_readsRepeat_86 : List (Nat × Instr) := (86, .aload 0) :: (87, .dup) :: (88, .getfield 208) :: (91, .iconst 1) :: (92, .isub) :: (93, .putfield 208) :: (96, .aload 0) :: (97, .invokevirtual 118) :: (100, .return_) :: []
def cd_X11_readsRepeat_59 : List (Nat × Instr) := (59, .iload 3) :: (60, .iload 1) :: (61, .if_icmp .ge 86) :: (64, .aload 0) :: (65, .getfield 62) :: (68, .ifCond .ne 86) :: (71, .aload 0) :: (72, .iload 2) :: (73, .putfield 76) :: (76, .aload 0) :: (77, .invokevirtual 211) :: (80, .iinc 3 1) :: (83, .goto 59) :: cd_X11_readsRepeat_86
def cd_X11_readsRepeat_42 : List (Nat × Instr) := (42, .aload 0) :: (43, .getfield 76) :: (46, .istore 2) :: (47, .aload 0) :: (48, .dup) :: (49, .getfield 208) :: (52, .iconst 1) :: (53, .iadd) :: (54, .putfield 208) :: (57, .iconst 0) :: (58, .istore 3) :: cd_X11_readsRepeat_59
def cd_X11_readsRepeat_14 : List (Nat × Instr) := (14, .invokevirtual 146) :: (17, .aload 0) :: (18, .invokevirtual 118) :: (21, .aload 0) :: (22, .iconst 1) :: (23, .bipush 9) :: (25, .invokevirtual 153) :: (28, .istore 1) :: (29, .aload 0) :: (30, .iconst 5) :: (31, .invokevirtual 101) :: (34, .ifCond .ne 42) :: (37, .aload 0) :: (38, .iconst 1) :: (39, .invokevirtual 98) :: cd_X11_readsRepeat_42
def cd_X11_readsRepeat_13 : List (Nat × Instr) := (13, .iconst 0) :: cd_X11_readsRepeat_14
def cd_X11_readsRepeat_0 : List (Nat × Instr) := (0, .aload 0) :: (1, .aload 0) :: (2, .getfield 208) :: (5, .iconst 2) :: (6, .if_icmp .ne 13) :: (9, .iconst 1) :: (10, .goto 14) :: cd_X11_readsRepeat_13
def cd_X11_readsRepeat : List (Nat × Instr) := cd_X11_readsRepeat_0
set_option maxRecDepth 100000 in
theorem at_X11_readsRepeat_86 : ev_at cd_X11_readsRepeat 86 = cd_X11_readsRepeat_86 := rfl
set_option maxRecDepth 100000 in
theorem at_X11_readsRepeat_59 : ev_at cd_X11_readsRepeat 59 = cd_X11_readsRepeat_59 := rfl
set_option maxRecDepth 100000 in
theorem at_X11_readsRepeat_42 : ev_at cd_X11_readsRepeat 42 = cd_X11_readsRepeat_42 := rfl
set_option maxRecDepth 100000 in
theorem at_X11_readsRepeat_14 : ev_at cd_X11_readsRepeat 14 = cd_X11_readsRepeat_14 := rfl
set_option maxRecDepth 100000 in
theorem at_X11_readsRepeat_13 : ev_at cd_X11_readsRepeat 13 = cd_X11_readsRepeat_13 := rfl
set_option maxRecDepth 100000 in
theorem at_X11_readsRepeat_0 : ev_at cd_X11_readsRepeat 0 = cd_X11_readsRepeat_0 := rfl
abbrev tb_X11_readsItem (r : Nat) : ev_Tb := (ev_lu fl_X11, ev_lu (ca_X11 r), ev_lu th_X11, ev_lu ko_X11, ev_lu kl_X11, 1, false)
def cd_X11_readsItem_116 : List (Nat × Instr) := (116, .return_) :: []
def cd_X11_readsItem_112 : List (Nat × Instr) := (112, .aload 0) :: (113, .invokevirtual 253) :: cd_X11_readsItem_116
def cd_X11_readsItem_96 : List (Nat × Instr) := (96, .aload 0) :: (97, .ldc 248) :: (99, .invokevirtual 216) :: (102, .ifCond .eq 112) :: (105, .aload 0) :: (106, .invokevirtual 250) :: (109, .goto 116) :: cd_X11_readsItem_112
def cd_X11_readsItem_80 : List (Nat × Instr) := (80, .aload 0) :: (81, .ldc 243) :: (83, .invokevirtual 216) :: (86, .ifCond .eq 96) :: (89, .aload 0) :: (90, .invokevirtual 245) :: (93, .goto 116) :: cd_X11_readsItem_96
def cd_X11_readsItem_64 : List (Nat × Instr) := (64, .aload 0) :: (65, .ldc 238) :: (67, .invokevirtual 216) :: (70, .ifCond .eq 80) :: (73, .aload 0) :: (74, .invokevirtual 240) :: (77, .goto 116) :: cd_X11_readsItem_80
def cd_X11_readsItem_48 : List (Nat × Instr) := (48, .aload 0) :: (49, .ldc 233) :: (51, .invokevirtual 216) :: (54, .ifCond .eq 64) :: (57, .aload 0) :: (58, .invokevirtual 235) :: (61, .goto 116) :: cd_X11_readsItem_64
def cd_X11_readsItem_32 : List (Nat × Instr) := (32, .aload 0) :: (33, .ldc 228) :: (35, .invokevirtual 216) :: (38, .ifCond .eq 48) :: (41, .aload 0) :: (42, .invokevirtual 230) :: (45, .goto 116) :: cd_X11_readsItem_48
def cd_X11_readsItem_16 : List (Nat × Instr) := (16, .aload 0) :: (17, .ldc 223) :: (19, .invokevirtual 216) :: (22, .ifCond .eq 32) :: (25, .aload 0) :: (26, .invokevirtual 225) :: (29, .goto 116) :: cd_X11_readsItem_32
def cd_X11_readsItem_0 : List (Nat × Instr) := (0, .aload 0) :: (1, .ldc 214) :: (3, .invokevirtual 216) :: (6, .ifCond .eq 16) :: (9, .aload 0) :: (10, .invokevirtual 220) :: (13, .goto 116) :: cd_X11_readsItem_16
def cd_X11_readsItem : List (Nat × Instr) := cd_X11_readsItem_0
set_option maxRecDepth 100000 in
theorem at_X11_readsItem_116 : ev_at cd_X11_readsItem 116 = cd_X11_readsItem_116 := rfl
set_option maxRecDepth 100000 in
theorem at_X11_readsItem_112 : ev_at cd_X11_readsItem 112 = cd_X11_readsItem_112 := rfl
set_option maxRecDepth 100000 in
theorem at_X11_readsItem_96 : ev_at cd_X11_readsItem 96 = cd_X11_readsItem_96 := rfl
set_option maxRecDepth 100000 in
theorem at_X11_readsItem_80 : ev_at cd_X11_readsItem 80 = cd_X11_readsItem_80 := rfl
set_option maxRecDepth 100000 in
theorem at_X11_readsItem_64 : ev_at cd_X11_readsItem 64 = cd_X11_readsItem_64 := rfl
set_option maxRecDepth 100000 in
theorem at_X11_readsItem_48 : ev_at cd_X11_readsItem 48 = cd_X11_readsItem_48 := rfl
set_option maxRecDepth 100000 in
theorem at_X11_readsItem_32 : ev_at cd_X11_readsItem 32 = cd_X11_readsItem_32 := rfl
set_option maxRecDepth 100000 in
theorem at_X11_readsItem_16 : ev_at cd_X11_readsItem 16 = cd_X11_readsItem_16 := rfl
set_option maxRecDepth 100000 in
theorem at_X11_readsItem_0 : ev_at cd_X11_readsItem 0 = cd_X11_readsItem_0 := rfl
abbrev tb_X11_readsMore (r : Nat) : ev_Tb := (ev_lu fl_X11, ev_lu (ca_X11 r), ev_lu th_X11, ev_lu ko_X11, ev_lu kl_X11, 1, false)
def cd_X11_readsMore_192 : List (Nat × Instr) := (192, .return_) :: []
def cd_X11_readsMore_187 : List (Nat × Instr) := (187, .aload 0) :: (188, .iconst 1) :: (189, .invokevirtual 98) :: cd_X11_readsMore_192
def cd_X11_readsMore_170 : List (Nat × Instr) := (170, .aload 0) :: (171, .ldc_w 306) :: (174, .invokevirtual 216) :: (177, .ifCond .eq 187) :: (180, .aload 0) :: (181, .invokevirtual 308) :: (184, .goto 192) :: cd_X11_readsMore_187
def cd_X11_readsMore_153 : List (Nat × Instr) := (153, .aload 0) :: (154, .ldc_w 301) :: (157, .invokevirtual 216) :: (160, .ifCond .eq 170) :: (163, .aload 0) :: (164, .invokevirtual 303) :: (167, .goto 192) :: cd_X11_readsMore_170
def cd_X11_readsMore_136 : List (Nat × Instr) := (136, .aload 0) :: (137, .ldc_w 296) :: (140, .invokevirtual 216) :: (143, .ifCond .eq 153) :: (146, .aload 0) :: (147, .invokevirtual 298) :: (150, .goto 192) :: cd_X11_readsMore_153
def cd_X11_readsMore_119 : List (Nat × Instr) := (119, .aload 0) :: (120, .ldc_w 291) :: (123, .invokevirtual 216) :: (126, .ifCond .eq 136) :: (129, .aload 0) :: (130, .invokevirtual 293) :: (133, .goto 192) :: cd_X11_readsMore_136
def cd_X11_readsMore_102 : List (Nat × Instr) := (102, .aload 0) :: (103, .ldc_w 286) :: (106, .invokevirtual 216) :: (109, .ifCond .eq 119) :: (112, .aload 0) :: (113, .invokevirtual 288) :: (116, .goto 192) :: cd_X11_readsMore_119
def cd_X11_readsMore_85 : List (Nat × Instr) := (85, .aload 0) :: (86, .ldc_w 281) :: (89, .invokevirtual 216) :: (92, .ifCond .eq 102) :: (95, .aload 0) :: (96, .invokevirtual 283) :: (99, .goto 192) :: cd_X11_readsMore_102
def cd_X11_readsMore_68 : List (Nat × Instr) := (68, .aload 0) :: (69, .ldc_w 276) :: (72, .invokevirtual 216) :: (75, .ifCond .eq 85) :: (78, .aload 0) :: (79, .invokevirtual 278) :: (82, .goto 192) :: cd_X11_readsMore_85
def cd_X11_readsMore_51 : List (Nat × Instr) := (51, .aload 0) :: (52, .ldc_w 271) :: (55, .invokevirtual 216) :: (58, .ifCond .eq 68) :: (61, .aload 0) :: (62, .invokevirtual 273) :: (65, .goto 192) :: cd_X11_readsMore_68
def cd_X11_readsMore_34 : List (Nat × Instr) := (34, .aload 0) :: (35, .ldc_w 266) :: (38, .invokevirtual 216) :: (41, .ifCond .eq 51) :: (44, .aload 0) :: (45, .invokevirtual 268) :: (48, .goto 192) :: cd_X11_readsMore_51
def cd_X11_readsMore_17 : List (Nat × Instr) := (17, .aload 0) :: (18, .ldc_w 261) :: (21, .invokevirtual 216) :: (24, .ifCond .eq 34) :: (27, .aload 0) :: (28, .invokevirtual 263) :: (31, .goto 192) :: cd_X11_readsMore_34
def cd_X11_readsMore_0 : List (Nat × Instr) := (0, .aload 0) :: (1, .ldc_w 256) :: (4, .invokevirtual 216) :: (7, .ifCond .eq 17) :: (10, .aload 0) :: (11, .invokevirtual 258) :: (14, .goto 192) :: cd_X11_readsMore_17
def cd_X11_readsMore : List (Nat × Instr) := cd_X11_readsMore_0
set_option maxRecDepth 100000 in
theorem at_X11_readsMore_192 : ev_at cd_X11_readsMore 192 = cd_X11_readsMore_192 := rfl
set_option maxRecDepth 100000 in
theorem at_X11_readsMore_187 : ev_at cd_X11_readsMore 187 = cd_X11_readsMore_187 := rfl
set_option maxRecDepth 100000 in
theorem at_X11_readsMore_170 : ev_at cd_X11_readsMore 170 = cd_X11_readsMore_170 := rfl
set_option maxRecDepth 100000 in
theorem at_X11_readsMore_153 : ev_at cd_X11_readsMore 153 = cd_X11_readsMore_153 := rfl
set_option maxRecDepth 100000 in
theorem at_X11_readsMore_136 : ev_at cd_X11_readsMore 136 = cd_X11_readsMore_136 := rfl
set_option maxRecDepth 100000 in
theorem at_X11_readsMore_119 : ev_at cd_X11_readsMore 119 = cd_X11_readsMore_119 := rfl
set_option maxRecDepth 100000 in
theorem at_X11_readsMore_102 : ev_at cd_X11_readsMore 102 = cd_X11_readsMore_102 := rfl
set_option maxRecDepth 100000 in
theorem at_X11_readsMore_85 : ev_at cd_X11_readsMore 85 = cd_X11_readsMore_85 := rfl
set_option maxRecDepth 100000 in
theorem at_X11_readsMore_68 : ev_at cd_X11_readsMore 68 = cd_X11_readsMore_68 := rfl
set_option maxRecDepth 100000 in
theorem at_X11_readsMore_51 : ev_at cd_X11_readsMore 51 = cd_X11_readsMore_51 := rfl
set_option maxRecDepth 100000 in
theorem at_X11_readsMore_34 : ev_at cd_X11_readsMore 34 = cd_X11_readsMore_34 := rfl
set_option maxRecDepth 100000 in
theorem at_X11_readsMore_17 : ev_at cd_X11_readsMore 17 = cd_X11_readsMore_17 := rfl
set_option maxRecDepth 100000 in
theorem at_X11_readsMore_0 : ev_at cd_X11_readsMore 0 = cd_X11_readsMore_0 := rfl
abbrev tb_X11_readsText (r : Nat) : ev_Tb := (ev_lu fl_X11, ev_lu (ca_X11 r), ev_lu th_X11, ev_lu ko_X11, ev_lu kl_X11, 1, false)
def cd_X11_readsText_82 : List (Nat × Instr) := (82, .return_) :: []
def cd_X11_readsText_69 : List (Nat × Instr) := (69, .aload 0) :: (70, .iconst 1) :: (71, .invokevirtual 101) :: (74, .ifCond .ne 82) :: (77, .aload 0) :: (78, .iconst 1) :: (79, .invokevirtual 98) :: cd_X11_readsText_82
def cd_X11_readsText_50 : List (Nat × Instr) := (50, .aload 0) :: (51, .iconst 4) :: (52, .invokevirtual 101) :: (55, .ifCond .eq 69) :: (58, .aload 0) :: (59, .invokevirtual 118) :: (62, .aload 0) :: (63, .invokevirtual 205) :: (66, .goto 50) :: cd_X11_readsText_69
def cd_X11_readsText_19 : List (Nat × Instr) := (19, .aload 0) :: (20, .invokevirtual 118) :: (23, .aload 0) :: (24, .getfield 9) :: (27, .iconst 2) :: (28, .aload 0) :: (29, .iconst 0) :: (30, .sipush 900) :: (33, .invokevirtual 153) :: (36, .iastore) :: (37, .aload 0) :: (38, .getfield 9) :: (41, .iconst 3) :: (42, .aload 0) :: (43, .iconst 0) :: (44, .bipush 10) :: (46, .invokevirtual 153) :: (49, .iastore) :: cd_X11_readsText_50
def cd_X11_readsText_0 : List (Nat × Instr) := (0, .aload 0) :: (1, .invokevirtual 118) :: (4, .aload 0) :: (5, .ldc_w 311) :: (8, .invokevirtual 216) :: (11, .ifCond .ne 19) :: (14, .aload 0) :: (15, .iconst 1) :: (16, .invokevirtual 98) :: cd_X11_readsText_19
def cd_X11_readsText : List (Nat × Instr) := cd_X11_readsText_0
set_option maxRecDepth 100000 in
theorem at_X11_readsText_82 : ev_at cd_X11_readsText 82 = cd_X11_readsText_82 := rfl
set_option maxRecDepth 100000 in
theorem at_X11_readsText_69 : ev_at cd_X11_readsText 69 = cd_X11_readsText_69 := rfl
set_option maxRecDepth 100000 in
theorem at_X11_readsText_50 : ev_at cd_X11_readsText 50 = cd_X11_readsText_50 := rfl
set_option maxRecDepth 100000 in
theorem at_X11_readsText_19 : ev_at cd_X11_readsText 19 = cd_X11_readsText_19 := rfl
set_option maxRecDepth 100000 in
theorem at_X11_readsText_0 : ev_at cd_X11_readsText 0 = cd_X11_readsText_0 := rfl
abbrev tb_X11_parseSetup (r : Nat) : ev_Tb := (ev_lu fl_X11, ev_lu (ca_X11 r), ev_lu th_X11, ev_lu ko_X11, ev_lu kl_X11, 3, false)
def cd_X11_parseSetup_98 : List (Nat × Instr) := (98, .aload 0) :: (99, .iconst 1) :: (100, .putfield 47) :: (103, .aload 0) :: (104, .iconst 0) :: (105, .putfield 322) :: (108, .aload 0) :: (109, .getfield 22) :: (112, .iconst 0) :: (113, .iconst 0) :: (114, .bastore) :: (115, .aload 0) :: (116, .getfield 22) :: (119, .iconst 1) :: (120, .iconst 0) :: (121, .bastore) :: (122, .aload 0) :: (123, .getfield 9) :: (126, .iconst 1) :: (127, .iaload) :: (128, .ireturn) :: []
def cd_X11_parseSetup_76 : List (Nat × Instr) := (76, .aload 0) :: (77, .invokevirtual 316) :: (80, .aload 0) :: (81, .getfield 62) :: (84, .ifCond .le 98) :: (87, .aload 0) :: (88, .iconst 2) :: (89, .putfield 40) :: (92, .aload 0) :: (93, .iconst 0) :: (94, .invokevirtual 319) :: (97, .ireturn) :: cd_X11_parseSetup_98
def cd_X11_parseSetup_56 : List (Nat × Instr) := (56, .iload 2) :: (57, .sipush 1042) :: (60, .if_icmp .ge 76) :: (63, .aload 0) :: (64, .getfield 9) :: (67, .iload 2) :: (68, .iconst 0) :: (69, .iastore) :: (70, .iinc 2 1) :: (73, .goto 56) :: cd_X11_parseSetup_76
def cd_X11_parseSetup_20 : List (Nat × Instr) := (20, .aload 0) :: (21, .iload 1) :: (22, .putfield 69) :: (25, .aload 0) :: (26, .iconst 0) :: (27, .putfield 76) :: (30, .aload 0) :: (31, .iconst 0) :: (32, .putfield 55) :: (35, .aload 0) :: (36, .iconst 0) :: (37, .putfield 62) :: (40, .aload 0) :: (41, .iconst (-1)) :: (42, .putfield 30) :: (45, .aload 0) :: (46, .iconst 0) :: (47, .putfield 208) :: (50, .aload 0) :: (51, .invokevirtual 313) :: (54, .iconst 0) :: (55, .istore 2) :: cd_X11_parseSetup_56
def cd_X11_parseSetup_0 : List (Nat × Instr) := (0, .aload 0) :: (1, .iload 1) :: (2, .iconst 0) :: (3, .aload 0) :: (4, .getfield 55) :: (7, .invokestatic 72) :: (10, .iconst 1) :: (11, .iconst 1) :: (12, .invokevirtual 43) :: (15, .ifCond .ne 20) :: (18, .iconst 0) :: (19, .ireturn) :: cd_X11_parseSetup_20
def cd_X11_parseSetup : List (Nat × Instr) := cd_X11_parseSetup_0
set_option maxRecDepth 100000 in
theorem at_X11_parseSetup_98 : ev_at cd_X11_parseSetup 98 = cd_X11_parseSetup_98 := rfl
set_option maxRecDepth 100000 in
theorem at_X11_parseSetup_76 : ev_at cd_X11_parseSetup 76 = cd_X11_parseSetup_76 := rfl
set_option maxRecDepth 100000 in
theorem at_X11_parseSetup_56 : ev_at cd_X11_parseSetup 56 = cd_X11_parseSetup_56 := rfl
set_option maxRecDepth 100000 in
theorem at_X11_parseSetup_20 : ev_at cd_X11_parseSetup 20 = cd_X11_parseSetup_20 := rfl
set_option maxRecDepth 100000 in
theorem at_X11_parseSetup_0 : ev_at cd_X11_parseSetup 0 = cd_X11_parseSetup_0 := rfl
abbrev tb_X11_of (r : Nat) : ev_Tb := (ev_lu fl_X11, ev_lu (ca_X11 r), ev_lu th_X11, ev_lu ko_X11, ev_lu kl_X11, 3, false)
def cd_X11_of_0 : List (Nat × Instr) := (0, .aload 0) :: (1, .getfield 9) :: (4, .bipush 8) :: (6, .bipush 59) :: (8, .iload 1) :: (9, .imul) :: (10, .iadd) :: (11, .iload 2) :: (12, .iadd) :: (13, .iaload) :: (14, .ireturn) :: []
def cd_X11_of : List (Nat × Instr) := cd_X11_of_0
set_option maxRecDepth 100000 in
theorem at_X11_of_0 : ev_at cd_X11_of 0 = cd_X11_of_0 := rfl
abbrev tb_X11_puts (r : Nat) : ev_Tb := (ev_lu fl_X11, ev_lu (ca_X11 r), ev_lu th_X11, ev_lu ko_X11, ev_lu kl_X11, 4, false)
def cd_X11_puts_0 : List (Nat × Instr) := (0, .aload 0) :: (1, .getfield 9) :: (4, .bipush 8) :: (6, .bipush 59) :: (8, .iload 1) :: (9, .imul) :: (10, .iadd) :: (11, .iload 2) :: (12, .iadd) :: (13, .iload 3) :: (14, .iastore) :: (15, .return_) :: []
def cd_X11_puts : List (Nat × Instr) := cd_X11_puts_0
set_option maxRecDepth 100000 in
theorem at_X11_puts_0 : ev_at cd_X11_puts 0 = cd_X11_puts_0 := rfl
abbrev tb_X11_ofCake (r : Nat) : ev_Tb := (ev_lu fl_X11, ev_lu (ca_X11 r), ev_lu th_X11, ev_lu ko_X11, ev_lu kl_X11, 3, false)
def cd_X11_ofCake_0 : List (Nat × Instr) := (0, .aload 0) :: (1, .getfield 9) :: (4, .sipush 952) :: (7, .bipush 9) :: (9, .iload 1) :: (10, .imul) :: (11, .iadd) :: (12, .iload 2) :: (13, .iadd) :: (14, .iaload) :: (15, .ireturn) :: []
def cd_X11_ofCake : List (Nat × Instr) := cd_X11_ofCake_0
set_option maxRecDepth 100000 in
theorem at_X11_ofCake_0 : ev_at cd_X11_ofCake 0 = cd_X11_ofCake_0 := rfl
abbrev tb_X11_putsCake (r : Nat) : ev_Tb := (ev_lu fl_X11, ev_lu (ca_X11 r), ev_lu th_X11, ev_lu ko_X11, ev_lu kl_X11, 4, false)
def cd_X11_putsCake_0 : List (Nat × Instr) := (0, .aload 0) :: (1, .getfield 9) :: (4, .sipush 952) :: (7, .bipush 9) :: (9, .iload 1) :: (10, .imul) :: (11, .iadd) :: (12, .iload 2) :: (13, .iadd) :: (14, .iload 3) :: (15, .iastore) :: (16, .return_) :: []
def cd_X11_putsCake : List (Nat × Instr) := cd_X11_putsCake_0
set_option maxRecDepth 100000 in
theorem at_X11_putsCake_0 : ev_at cd_X11_putsCake 0 = cd_X11_putsCake_0 := rfl
abbrev tb_X11_isTasting (r : Nat) : ev_Tb := (ev_lu fl_X11, ev_lu (ca_X11 r), ev_lu th_X11, ev_lu ko_X11, ev_lu kl_X11, 2, true)
def cd_X11_isTasting_14 : List (Nat × Instr) := (14, .ireturn) :: []
def cd_X11_isTasting_13 : List (Nat × Instr) := (13, .iconst 0) :: cd_X11_isTasting_14
def cd_X11_isTasting_0 : List (Nat × Instr) := (0, .aload 0) :: (1, .iload 1) :: (2, .iconst 1) :: (3, .invokevirtual 121) :: (6, .ifCond .le 13) :: (9, .iconst 1) :: (10, .goto 14) :: cd_X11_isTasting_13
def cd_X11_isTasting : List (Nat × Instr) := cd_X11_isTasting_0
set_option maxRecDepth 100000 in
theorem at_X11_isTasting_14 : ev_at cd_X11_isTasting 14 = cd_X11_isTasting_14 := rfl
set_option maxRecDepth 100000 in
theorem at_X11_isTasting_13 : ev_at cd_X11_isTasting 13 = cd_X11_isTasting_13 := rfl
set_option maxRecDepth 100000 in
theorem at_X11_isTasting_0 : ev_at cd_X11_isTasting 0 = cd_X11_isTasting_0 := rfl
abbrev tb_X11_cooks (r : Nat) : ev_Tb := (ev_lu fl_X11, ev_lu (ca_X11 r), ev_lu th_X11, ev_lu ko_X11, ev_lu kl_X11, 5, true)
def cd_X11_cooks_30 : List (Nat × Instr) := (30, .iconst 0) :: (31, .ireturn) :: []
def cd_X11_cooks_24 : List (Nat × Instr) := (24, .iinc 4 1) :: (27, .goto 3) :: cd_X11_cooks_30
def cd_X11_cooks_3 : List (Nat × Instr) := (3, .iload 4) :: (5, .iload 2) :: (6, .if_icmp .ge 30) :: (9, .aload 0) :: (10, .iload 1) :: (11, .iconst 2) :: (12, .iload 4) :: (14, .iadd) :: (15, .invokevirtual 195) :: (18, .iload 3) :: (19, .if_icmp .ne 24) :: (22, .iconst 1) :: (23, .ireturn) :: cd_X11_cooks_24
def cd_X11_cooks_0 : List (Nat × Instr) := (0, .iconst 0) :: (1, .istore 4) :: cd_X11_cooks_3
def cd_X11_cooks : List (Nat × Instr) := cd_X11_cooks_0
set_option maxRecDepth 100000 in
theorem at_X11_cooks_30 : ev_at cd_X11_cooks 30 = cd_X11_cooks_30 := rfl
set_option maxRecDepth 100000 in
theorem at_X11_cooks_24 : ev_at cd_X11_cooks 24 = cd_X11_cooks_24 := rfl
set_option maxRecDepth 100000 in
theorem at_X11_cooks_3 : ev_at cd_X11_cooks 3 = cd_X11_cooks_3 := rfl
set_option maxRecDepth 100000 in
theorem at_X11_cooks_0 : ev_at cd_X11_cooks 0 = cd_X11_cooks_0 := rfl
abbrev tb_X11_conflictOf (r : Nat) : ev_Tb := (ev_lu fl_X11, ev_lu (ca_X11 r), ev_lu th_X11, ev_lu ko_X11, ev_lu kl_X11, 8, false)
def cd_X11_conflictOf_135 : List (Nat × Instr) := (135, .ireturn) :: []
def cd_X11_conflictOf_134 : List (Nat × Instr) := (134, .iconst 0) :: cd_X11_conflictOf_135
def cd_X11_conflictOf_117 : List (Nat × Instr) := (117, .aload 0) :: (118, .iload 1) :: (119, .bipush 33) :: (121, .iload 2) :: (122, .iadd) :: (123, .invokevirtual 121) :: (126, .iconst 1) :: (127, .if_icmp .ne 134) :: (130, .iconst 4) :: (131, .goto 135) :: cd_X11_conflictOf_134
def cd_X11_conflictOf_108 : List (Nat × Instr) := (108, .iload 5) :: (110, .ifCond .eq 117) :: (113, .iconst 3) :: (114, .goto 135) :: cd_X11_conflictOf_117
def cd_X11_conflictOf_101 : List (Nat × Instr) := (101, .iload 4) :: (103, .ifCond .eq 108) :: (106, .iconst 2) :: (107, .ireturn) :: cd_X11_conflictOf_108
def cd_X11_conflictOf_92 : List (Nat × Instr) := (92, .ior) :: (93, .istore 5) :: (95, .iinc 6 1) :: (98, .goto 28) :: cd_X11_conflictOf_101
def cd_X11_conflictOf_91 : List (Nat × Instr) := (91, .iconst 0) :: cd_X11_conflictOf_92
def cd_X11_conflictOf_68 : List (Nat × Instr) := (68, .ior) :: (69, .istore 4) :: (71, .iload 5) :: (73, .aload 0) :: (74, .iload 1) :: (75, .bipush 43) :: (77, .iload 7) :: (79, .iadd) :: (80, .invokevirtual 121) :: (83, .iconst 1) :: (84, .if_icmp .ne 91) :: (87, .iconst 1) :: (88, .goto 92) :: cd_X11_conflictOf_91
def cd_X11_conflictOf_67 : List (Nat × Instr) := (67, .iconst 0) :: cd_X11_conflictOf_68
def cd_X11_conflictOf_28 : List (Nat × Instr) := (28, .iload 6) :: (30, .iload 3) :: (31, .if_icmp .ge 101) :: (34, .aload 0) :: (35, .iload 2) :: (36, .iconst 2) :: (37, .iload 6) :: (39, .iadd) :: (40, .invokevirtual 195) :: (43, .istore 7) :: (45, .iload 4) :: (47, .aload 0) :: (48, .iload 7) :: (50, .iconst 0) :: (51, .invokevirtual 121) :: (54, .aload 0) :: (55, .iload 1) :: (56, .iconst 0) :: (57, .invokevirtual 121) :: (60, .if_icmp .ne 67) :: (63, .iconst 1) :: (64, .goto 68) :: cd_X11_conflictOf_67
def cd_X11_conflictOf_19 : List (Nat × Instr) := (19, .iconst 0) :: (20, .istore 4) :: (22, .iconst 0) :: (23, .istore 5) :: (25, .iconst 0) :: (26, .istore 6) :: cd_X11_conflictOf_28
def cd_X11_conflictOf_0 : List (Nat × Instr) := (0, .aload 0) :: (1, .iload 2) :: (2, .iconst 1) :: (3, .invokevirtual 195) :: (6, .istore 3) :: (7, .aload 0) :: (8, .iload 2) :: (9, .iload 3) :: (10, .iload 1) :: (11, .invokevirtual 156) :: (14, .ifCond .eq 19) :: (17, .iconst 1) :: (18, .ireturn) :: cd_X11_conflictOf_19
def cd_X11_conflictOf : List (Nat × Instr) := cd_X11_conflictOf_0
set_option maxRecDepth 100000 in
theorem at_X11_conflictOf_135 : ev_at cd_X11_conflictOf 135 = cd_X11_conflictOf_135 := rfl
set_option maxRecDepth 100000 in
theorem at_X11_conflictOf_134 : ev_at cd_X11_conflictOf 134 = cd_X11_conflictOf_134 := rfl
set_option maxRecDepth 100000 in
theorem at_X11_conflictOf_117 : ev_at cd_X11_conflictOf 117 = cd_X11_conflictOf_117 := rfl
set_option maxRecDepth 100000 in
theorem at_X11_conflictOf_108 : ev_at cd_X11_conflictOf 108 = cd_X11_conflictOf_108 := rfl
set_option maxRecDepth 100000 in
theorem at_X11_conflictOf_101 : ev_at cd_X11_conflictOf 101 = cd_X11_conflictOf_101 := rfl
set_option maxRecDepth 100000 in
theorem at_X11_conflictOf_92 : ev_at cd_X11_conflictOf 92 = cd_X11_conflictOf_92 := rfl
set_option maxRecDepth 100000 in
theorem at_X11_conflictOf_91 : ev_at cd_X11_conflictOf 91 = cd_X11_conflictOf_91 := rfl
set_option maxRecDepth 100000 in
theorem at_X11_conflictOf_68 : ev_at cd_X11_conflictOf 68 = cd_X11_conflictOf_68 := rfl
set_option maxRecDepth 100000 in
theorem at_X11_conflictOf_67 : ev_at cd_X11_conflictOf 67 = cd_X11_conflictOf_67 := rfl
set_option maxRecDepth 100000 in
theorem at_X11_conflictOf_28 : ev_at cd_X11_conflictOf 28 = cd_X11_conflictOf_28 := rfl
set_option maxRecDepth 100000 in
theorem at_X11_conflictOf_19 : ev_at cd_X11_conflictOf 19 = cd_X11_conflictOf_19 := rfl
set_option maxRecDepth 100000 in
theorem at_X11_conflictOf_0 : ev_at cd_X11_conflictOf 0 = cd_X11_conflictOf_0 := rfl
abbrev tb_X11_seatOf (r : Nat) : ev_Tb := (ev_lu fl_X11, ev_lu (ca_X11 r), ev_lu th_X11, ev_lu ko_X11, ev_lu kl_X11, 4, false)
def cd_X11_seatOf_33 : List (Nat × Instr) := (33, .iconst (-1)) :: (34, .ireturn) :: []
def cd_X11_seatOf_27 : List (Nat × Instr) := (27, .iinc 3 1) :: (30, .goto 2) :: cd_X11_seatOf_33
def cd_X11_seatOf_2 : List (Nat × Instr) := (2, .iload 3) :: (3, .aload 0) :: (4, .iload 2) :: (5, .iconst 5) :: (6, .invokevirtual 195) :: (9, .if_icmp .ge 33) :: (12, .aload 0) :: (13, .iload 2) :: (14, .bipush 6) :: (16, .iload 3) :: (17, .iadd) :: (18, .invokevirtual 195) :: (21, .iload 1) :: (22, .if_icmp .ne 27) :: (25, .iload 3) :: (26, .ireturn) :: cd_X11_seatOf_27
def cd_X11_seatOf_0 : List (Nat × Instr) := (0, .iconst 0) :: (1, .istore 3) :: cd_X11_seatOf_2
def cd_X11_seatOf : List (Nat × Instr) := cd_X11_seatOf_0
set_option maxRecDepth 100000 in
theorem at_X11_seatOf_33 : ev_at cd_X11_seatOf 33 = cd_X11_seatOf_33 := rfl
set_option maxRecDepth 100000 in
theorem at_X11_seatOf_27 : ev_at cd_X11_seatOf 27 = cd_X11_seatOf_27 := rfl
set_option maxRecDepth 100000 in
theorem at_X11_seatOf_2 : ev_at cd_X11_seatOf 2 = cd_X11_seatOf_2 := rfl
set_option maxRecDepth 100000 in
theorem at_X11_seatOf_0 : ev_at cd_X11_seatOf 0 = cd_X11_seatOf_0 := rfl
abbrev tb_X11_load (r : Nat) : ev_Tb := (ev_lu fl_X11, ev_lu (ca_X11 r), ev_lu th_X11, ev_lu ko_X11, ev_lu kl_X11, 4, false)
def cd_X11_load_41 : List (Nat × Instr) := (41, .iload 2) :: (42, .ireturn) :: []
def cd_X11_load_30 : List (Nat × Instr) := (30, .invokestatic 325) :: (33, .iadd) :: (34, .istore 2) :: (35, .iinc 3 1) :: (38, .goto 4) :: cd_X11_load_41
def cd_X11_load_29 : List (Nat × Instr) := (29, .iconst 0) :: cd_X11_load_30
def cd_X11_load_4 : List (Nat × Instr) := (4, .iload 3) :: (5, .aload 0) :: (6, .getfield 9) :: (9, .iconst 1) :: (10, .iaload) :: (11, .if_icmp .ge 41) :: (14, .iload 2) :: (15, .aload 0) :: (16, .iload 1) :: (17, .iload 3) :: (18, .invokevirtual 180) :: (21, .iconst (-1)) :: (22, .if_icmp .eq 29) :: (25, .iconst 1) :: (26, .goto 30) :: cd_X11_load_29
def cd_X11_load_0 : List (Nat × Instr) := (0, .iconst 0) :: (1, .istore 2) :: (2, .iconst 0) :: (3, .istore 3) :: cd_X11_load_4
def cd_X11_load : List (Nat × Instr) := cd_X11_load_0
set_option maxRecDepth 100000 in
theorem at_X11_load_41 : ev_at cd_X11_load 41 = cd_X11_load_41 := rfl
set_option maxRecDepth 100000 in
theorem at_X11_load_30 : ev_at cd_X11_load 30 = cd_X11_load_30 := rfl
set_option maxRecDepth 100000 in
theorem at_X11_load_29 : ev_at cd_X11_load 29 = cd_X11_load_29 := rfl
set_option maxRecDepth 100000 in
theorem at_X11_load_4 : ev_at cd_X11_load 4 = cd_X11_load_4 := rfl
set_option maxRecDepth 100000 in
theorem at_X11_load_0 : ev_at cd_X11_load 0 = cd_X11_load_0 := rfl
abbrev tb_X11_why (r : Nat) : ev_Tb := (ev_lu fl_X11, ev_lu (ca_X11 r), ev_lu th_X11, ev_lu ko_X11, ev_lu kl_X11, 3, false)
def cd_X11_why_64 : List (Nat × Instr) := (64, .ireturn) :: []
def cd_X11_why_63 : List (Nat × Instr) := (63, .iconst 0) :: cd_X11_why_64
def cd_X11_why_45 : List (Nat × Instr) := (45, .aload 0) :: (46, .iload 1) :: (47, .invokevirtual 332) :: (50, .aload 0) :: (51, .iload 1) :: (52, .iconst 1) :: (53, .invokevirtual 121) :: (56, .if_icmp .lt 63) :: (59, .iconst 5) :: (60, .goto 64) :: cd_X11_why_63
def cd_X11_why_33 : List (Nat × Instr) := (33, .aload 0) :: (34, .iload 2) :: (35, .iconst 5) :: (36, .invokevirtual 195) :: (39, .iconst 3) :: (40, .if_icmp .ne 45) :: (43, .iconst 4) :: (44, .ireturn) :: cd_X11_why_45
def cd_X11_why_22 : List (Nat × Instr) := (22, .aload 0) :: (23, .iload 1) :: (24, .iload 2) :: (25, .invokevirtual 329) :: (28, .ifCond .eq 33) :: (31, .iconst 3) :: (32, .ireturn) :: cd_X11_why_33
def cd_X11_why_10 : List (Nat × Instr) := (10, .aload 0) :: (11, .iload 1) :: (12, .iload 2) :: (13, .invokevirtual 180) :: (16, .iconst (-1)) :: (17, .if_icmp .eq 22) :: (20, .iconst 2) :: (21, .ireturn) :: cd_X11_why_22
def cd_X11_why_0 : List (Nat × Instr) := (0, .aload 0) :: (1, .iload 1) :: (2, .invokevirtual 140) :: (5, .ifCond .ne 10) :: (8, .iconst 1) :: (9, .ireturn) :: cd_X11_why_10
def cd_X11_why : List (Nat × Instr) := cd_X11_why_0
set_option maxRecDepth 100000 in
theorem at_X11_why_64 : ev_at cd_X11_why 64 = cd_X11_why_64 := rfl
set_option maxRecDepth 100000 in
theorem at_X11_why_63 : ev_at cd_X11_why 63 = cd_X11_why_63 := rfl
set_option maxRecDepth 100000 in
theorem at_X11_why_45 : ev_at cd_X11_why 45 = cd_X11_why_45 := rfl
set_option maxRecDepth 100000 in
theorem at_X11_why_33 : ev_at cd_X11_why 33 = cd_X11_why_33 := rfl
set_option maxRecDepth 100000 in
theorem at_X11_why_22 : ev_at cd_X11_why 22 = cd_X11_why_22 := rfl
set_option maxRecDepth 100000 in
theorem at_X11_why_10 : ev_at cd_X11_why 10 = cd_X11_why_10 := rfl
set_option maxRecDepth 100000 in
theorem at_X11_why_0 : ev_at cd_X11_why 0 = cd_X11_why_0 := rfl
abbrev tb_X11_seats (r : Nat) : ev_Tb := (ev_lu fl_X11, ev_lu (ca_X11 r), ev_lu th_X11, ev_lu ko_X11, ev_lu kl_X11, 4, false)
def cd_X11_seats_0 : List (Nat × Instr) := (0, .aload 0) :: (1, .iload 2) :: (2, .iconst 5) :: (3, .invokevirtual 195) :: (6, .istore 3) :: (7, .aload 0) :: (8, .iload 2) :: (9, .bipush 6) :: (11, .iload 3) :: (12, .iadd) :: (13, .iload 1) :: (14, .invokevirtual 159) :: (17, .aload 0) :: (18, .iload 2) :: (19, .iconst 5) :: (20, .iload 3) :: (21, .iconst 1) :: (22, .iadd) :: (23, .invokevirtual 159) :: (26, .iload 3) :: (27, .iconst 1) :: (28, .iadd) :: (29, .ireturn) :: []
def cd_X11_seats : List (Nat × Instr) := cd_X11_seats_0
set_option maxRecDepth 100000 in
theorem at_X11_seats_0 : ev_at cd_X11_seats 0 = cd_X11_seats_0 := rfl
abbrev tb_X11_leaves (r : Nat) : ev_Tb := (ev_lu fl_X11, ev_lu (ca_X11 r), ev_lu th_X11, ev_lu ko_X11, ev_lu kl_X11, 5, false)
def cd_X11_leaves_51 : List (Nat × Instr) := (51, .aload 0) :: (52, .iload 2) :: (53, .iconst 5) :: (54, .iload 3) :: (55, .invokevirtual 159) :: (58, .aload 0) :: (59, .iload 1) :: (60, .bipush 23) :: (62, .iload 2) :: (63, .iadd) :: (64, .iconst 0) :: (65, .invokevirtual 149) :: (68, .iload 3) :: (69, .ireturn) :: []
def cd_X11_leaves_17 : List (Nat × Instr) := (17, .iload 4) :: (19, .iload 3) :: (20, .if_icmp .ge 51) :: (23, .aload 0) :: (24, .iload 2) :: (25, .bipush 6) :: (27, .iload 4) :: (29, .iadd) :: (30, .aload 0) :: (31, .iload 2) :: (32, .bipush 6) :: (34, .iload 4) :: (36, .iadd) :: (37, .iconst 1) :: (38, .iadd) :: (39, .invokevirtual 195) :: (42, .invokevirtual 159) :: (45, .iinc 4 1) :: (48, .goto 17) :: cd_X11_leaves_51
def cd_X11_leaves_0 : List (Nat × Instr) := (0, .aload 0) :: (1, .iload 2) :: (2, .iconst 5) :: (3, .invokevirtual 195) :: (6, .iconst 1) :: (7, .isub) :: (8, .istore 3) :: (9, .aload 0) :: (10, .iload 1) :: (11, .iload 2) :: (12, .invokevirtual 180) :: (15, .istore 4) :: cd_X11_leaves_17
def cd_X11_leaves : List (Nat × Instr) := cd_X11_leaves_0
set_option maxRecDepth 100000 in
theorem at_X11_leaves_51 : ev_at cd_X11_leaves 51 = cd_X11_leaves_51 := rfl
set_option maxRecDepth 100000 in
theorem at_X11_leaves_17 : ev_at cd_X11_leaves 17 = cd_X11_leaves_17 := rfl
set_option maxRecDepth 100000 in
theorem at_X11_leaves_0 : ev_at cd_X11_leaves 0 = cd_X11_leaves_0 := rfl
abbrev tb_X11_wish (r : Nat) : ev_Tb := (ev_lu fl_X11, ev_lu (ca_X11 r), ev_lu th_X11, ev_lu ko_X11, ev_lu kl_X11, 3, false)
def cd_X11_wish_0 : List (Nat × Instr) := (0, .bipush 10) :: (2, .aload 0) :: (3, .iload 1) :: (4, .bipush 13) :: (6, .iload 2) :: (7, .iadd) :: (8, .invokevirtual 121) :: (11, .imul) :: (12, .aload 0) :: (13, .iload 1) :: (14, .iconst 2) :: (15, .aload 0) :: (16, .iload 2) :: (17, .iconst 0) :: (18, .invokevirtual 195) :: (21, .iadd) :: (22, .invokevirtual 121) :: (25, .iadd) :: (26, .ireturn) :: []
def cd_X11_wish : List (Nat × Instr) := cd_X11_wish_0
set_option maxRecDepth 100000 in
theorem at_X11_wish_0 : ev_at cd_X11_wish 0 = cd_X11_wish_0 := rfl
abbrev tb_X11_isBetter (r : Nat) : ev_Tb := (ev_lu fl_X11, ev_lu (ca_X11 r), ev_lu th_X11, ev_lu ko_X11, ev_lu kl_X11, 5, true)
def cd_X11_isBetter_51 : List (Nat × Instr) := (51, .ireturn) :: []
def cd_X11_isBetter_50 : List (Nat × Instr) := (50, .iconst 0) :: cd_X11_isBetter_51
def cd_X11_isBetter_33 : List (Nat × Instr) := (33, .aload 0) :: (34, .iload 1) :: (35, .invokevirtual 332) :: (38, .aload 0) :: (39, .iload 2) :: (40, .invokevirtual 332) :: (43, .if_icmp .ge 50) :: (46, .iconst 1) :: (47, .goto 51) :: cd_X11_isBetter_50
def cd_X11_isBetter_29 : List (Nat × Instr) := (29, .iconst 0) :: (30, .goto 51) :: cd_X11_isBetter_33
def cd_X11_isBetter_0 : List (Nat × Instr) := (0, .aload 0) :: (1, .iload 1) :: (2, .iload 3) :: (3, .invokevirtual 335) :: (6, .aload 0) :: (7, .iload 2) :: (8, .iload 3) :: (9, .invokevirtual 335) :: (12, .isub) :: (13, .istore 4) :: (15, .iload 4) :: (17, .ifCond .eq 33) :: (20, .iload 4) :: (22, .ifCond .le 29) :: (25, .iconst 1) :: (26, .goto 51) :: cd_X11_isBetter_29
def cd_X11_isBetter : List (Nat × Instr) := cd_X11_isBetter_0
set_option maxRecDepth 100000 in
theorem at_X11_isBetter_51 : ev_at cd_X11_isBetter 51 = cd_X11_isBetter_51 := rfl
set_option maxRecDepth 100000 in
theorem at_X11_isBetter_50 : ev_at cd_X11_isBetter 50 = cd_X11_isBetter_50 := rfl
set_option maxRecDepth 100000 in
theorem at_X11_isBetter_33 : ev_at cd_X11_isBetter 33 = cd_X11_isBetter_33 := rfl
set_option maxRecDepth 100000 in
theorem at_X11_isBetter_29 : ev_at cd_X11_isBetter 29 = cd_X11_isBetter_29 := rfl
set_option maxRecDepth 100000 in
theorem at_X11_isBetter_0 : ev_at cd_X11_isBetter 0 = cd_X11_isBetter_0 := rfl
abbrev tb_X11_best (r : Nat) : ev_Tb := (ev_lu fl_X11, ev_lu (ca_X11 r), ev_lu th_X11, ev_lu ko_X11, ev_lu kl_X11, 4, false)
def cd_X11_best_46 : List (Nat × Instr) := (46, .iload 2) :: (47, .ireturn) :: []
def cd_X11_best_40 : List (Nat × Instr) := (40, .iinc 3 1) :: (43, .goto 4) :: cd_X11_best_46
def cd_X11_best_38 : List (Nat × Instr) := (38, .iload 3) :: (39, .istore 2) :: cd_X11_best_40
def cd_X11_best_4 : List (Nat × Instr) := (4, .iload 3) :: (5, .aload 0) :: (6, .getfield 9) :: (9, .iconst 0) :: (10, .iaload) :: (11, .if_icmp .ge 46) :: (14, .aload 0) :: (15, .iload 3) :: (16, .iload 1) :: (17, .invokevirtual 171) :: (20, .ifCond .ne 40) :: (23, .iload 2) :: (24, .iconst (-1)) :: (25, .if_icmp .eq 38) :: (28, .aload 0) :: (29, .iload 3) :: (30, .iload 2) :: (31, .iload 1) :: (32, .invokevirtual 338) :: (35, .ifCond .eq 40) :: cd_X11_best_38
def cd_X11_best_0 : List (Nat × Instr) := (0, .iconst (-1)) :: (1, .istore 2) :: (2, .iconst 0) :: (3, .istore 3) :: cd_X11_best_4
def cd_X11_best : List (Nat × Instr) := cd_X11_best_0
set_option maxRecDepth 100000 in
theorem at_X11_best_46 : ev_at cd_X11_best 46 = cd_X11_best_46 := rfl
set_option maxRecDepth 100000 in
theorem at_X11_best_40 : ev_at cd_X11_best 40 = cd_X11_best_40 := rfl
set_option maxRecDepth 100000 in
theorem at_X11_best_38 : ev_at cd_X11_best 38 = cd_X11_best_38 := rfl
set_option maxRecDepth 100000 in
theorem at_X11_best_4 : ev_at cd_X11_best 4 = cd_X11_best_4 := rfl
set_option maxRecDepth 100000 in
theorem at_X11_best_0 : ev_at cd_X11_best 0 = cd_X11_best_0 := rfl
abbrev tb_X11_neediest (r : Nat) : ev_Tb := (ev_lu fl_X11, ev_lu (ca_X11 r), ev_lu th_X11, ev_lu ko_X11, ev_lu kl_X11, 3, false)
def cd_X11_neediest_64 : List (Nat × Instr) := (64, .iload 1) :: (65, .ireturn) :: []
def cd_X11_neediest_58 : List (Nat × Instr) := (58, .iinc 2 1) :: (61, .goto 4) :: cd_X11_neediest_64
def cd_X11_neediest_56 : List (Nat × Instr) := (56, .iload 2) :: (57, .istore 1) :: cd_X11_neediest_58
def cd_X11_neediest_36 : List (Nat × Instr) := (36, .iload 1) :: (37, .iconst (-1)) :: (38, .if_icmp .eq 56) :: (41, .aload 0) :: (42, .iload 2) :: (43, .iconst 5) :: (44, .invokevirtual 195) :: (47, .aload 0) :: (48, .iload 1) :: (49, .iconst 5) :: (50, .invokevirtual 195) :: (53, .if_icmp .ge 58) :: cd_X11_neediest_56
def cd_X11_neediest_4 : List (Nat × Instr) := (4, .iload 2) :: (5, .aload 0) :: (6, .getfield 9) :: (9, .iconst 1) :: (10, .iaload) :: (11, .if_icmp .ge 64) :: (14, .aload 0) :: (15, .getfield 34) :: (18, .iload 2) :: (19, .baload) :: (20, .ifCond .ne 58) :: (23, .aload 0) :: (24, .iload 2) :: (25, .iconst 5) :: (26, .invokevirtual 195) :: (29, .iconst 3) :: (30, .if_icmp .ne 36) :: (33, .goto 58) :: cd_X11_neediest_36
def cd_X11_neediest_0 : List (Nat × Instr) := (0, .iconst (-1)) :: (1, .istore 1) :: (2, .iconst 0) :: (3, .istore 2) :: cd_X11_neediest_4
def cd_X11_neediest : List (Nat × Instr) := cd_X11_neediest_0
set_option maxRecDepth 100000 in
theorem at_X11_neediest_64 : ev_at cd_X11_neediest 64 = cd_X11_neediest_64 := rfl
set_option maxRecDepth 100000 in
theorem at_X11_neediest_58 : ev_at cd_X11_neediest 58 = cd_X11_neediest_58 := rfl
set_option maxRecDepth 100000 in
theorem at_X11_neediest_56 : ev_at cd_X11_neediest 56 = cd_X11_neediest_56 := rfl
set_option maxRecDepth 100000 in
theorem at_X11_neediest_36 : ev_at cd_X11_neediest 36 = cd_X11_neediest_36 := rfl
set_option maxRecDepth 100000 in
theorem at_X11_neediest_4 : ev_at cd_X11_neediest 4 = cd_X11_neediest_4 := rfl
set_option maxRecDepth 100000 in
theorem at_X11_neediest_0 : ev_at cd_X11_neediest 0 = cd_X11_neediest_0 := rfl
abbrev tb_X11_fills (r : Nat) : ev_Tb := (ev_lu fl_X11, ev_lu (ca_X11 r), ev_lu th_X11, ev_lu ko_X11, ev_lu kl_X11, 5, false)
def cd_X11_fills_93 : List (Nat × Instr) := (93, .aload 0) :: (94, .getfield 9) :: (97, .iconst 4) :: (98, .iaload) :: (99, .iload 1) :: (100, .isub) :: (101, .ireturn) :: []
def cd_X11_fills_85 : List (Nat × Instr) := (85, .aload 0) :: (86, .invokevirtual 341) :: (89, .istore 2) :: (90, .goto 33) :: cd_X11_fills_93
def cd_X11_fills_70 : List (Nat × Instr) := (70, .aload 0) :: (71, .iload 2) :: (72, .invokevirtual 347) :: (75, .ifCond .ne 85) :: (78, .aload 0) :: (79, .getfield 34) :: (82, .iload 2) :: (83, .iconst 1) :: (84, .bastore) :: cd_X11_fills_85
def cd_X11_fills_33 : List (Nat × Instr) := (33, .iload 2) :: (34, .iconst (-1)) :: (35, .if_icmp .eq 93) :: (38, .aload 0) :: (39, .iload 2) :: (40, .invokevirtual 344) :: (43, .istore 3) :: (44, .iload 3) :: (45, .iconst (-1)) :: (46, .if_icmp .eq 70) :: (49, .aload 0) :: (50, .iload 3) :: (51, .iload 2) :: (52, .invokevirtual 174) :: (55, .istore 4) :: (57, .aload 0) :: (58, .getfield 9) :: (61, .iconst 4) :: (62, .dup2) :: (63, .iaload) :: (64, .iconst 1) :: (65, .iadd) :: (66, .iastore) :: (67, .goto 85) :: cd_X11_fills_70
def cd_X11_fills_28 : List (Nat × Instr) := (28, .aload 0) :: (29, .invokevirtual 341) :: (32, .istore 2) :: cd_X11_fills_33
def cd_X11_fills_9 : List (Nat × Instr) := (9, .iload 2) :: (10, .bipush 10) :: (12, .if_icmp .ge 28) :: (15, .aload 0) :: (16, .getfield 34) :: (19, .iload 2) :: (20, .iconst 0) :: (21, .bastore) :: (22, .iinc 2 1) :: (25, .goto 9) :: cd_X11_fills_28
def cd_X11_fills_0 : List (Nat × Instr) := (0, .aload 0) :: (1, .getfield 9) :: (4, .iconst 4) :: (5, .iaload) :: (6, .istore 1) :: (7, .iconst 0) :: (8, .istore 2) :: cd_X11_fills_9
def cd_X11_fills : List (Nat × Instr) := cd_X11_fills_0
set_option maxRecDepth 100000 in
theorem at_X11_fills_93 : ev_at cd_X11_fills 93 = cd_X11_fills_93 := rfl
set_option maxRecDepth 100000 in
theorem at_X11_fills_85 : ev_at cd_X11_fills 85 = cd_X11_fills_85 := rfl
set_option maxRecDepth 100000 in
theorem at_X11_fills_70 : ev_at cd_X11_fills 70 = cd_X11_fills_70 := rfl
set_option maxRecDepth 100000 in
theorem at_X11_fills_33 : ev_at cd_X11_fills 33 = cd_X11_fills_33 := rfl
set_option maxRecDepth 100000 in
theorem at_X11_fills_28 : ev_at cd_X11_fills 28 = cd_X11_fills_28 := rfl
set_option maxRecDepth 100000 in
theorem at_X11_fills_9 : ev_at cd_X11_fills 9 = cd_X11_fills_9 := rfl
set_option maxRecDepth 100000 in
theorem at_X11_fills_0 : ev_at cd_X11_fills 0 = cd_X11_fills_0 := rfl
abbrev tb_X11_moves (r : Nat) : ev_Tb := (ev_lu fl_X11, ev_lu (ca_X11 r), ev_lu th_X11, ev_lu ko_X11, ev_lu kl_X11, 3, true)
def cd_X11_moves_39 : List (Nat × Instr) := (39, .iconst 0) :: (40, .ireturn) :: []
def cd_X11_moves_33 : List (Nat × Instr) := (33, .iinc 2 1) :: (36, .goto 2) :: cd_X11_moves_39
def cd_X11_moves_2 : List (Nat × Instr) := (2, .iload 2) :: (3, .aload 0) :: (4, .getfield 9) :: (7, .iconst 0) :: (8, .iaload) :: (9, .if_icmp .ge 39) :: (12, .aload 0) :: (13, .iload 2) :: (14, .iload 1) :: (15, .invokevirtual 171) :: (18, .iconst 5) :: (19, .if_icmp .ne 33) :: (22, .aload 0) :: (23, .iload 2) :: (24, .iload 1) :: (25, .invokevirtual 350) :: (28, .ifCond .eq 33) :: (31, .iconst 1) :: (32, .ireturn) :: cd_X11_moves_33
def cd_X11_moves_0 : List (Nat × Instr) := (0, .iconst 0) :: (1, .istore 2) :: cd_X11_moves_2
def cd_X11_moves : List (Nat × Instr) := cd_X11_moves_0
set_option maxRecDepth 100000 in
theorem at_X11_moves_39 : ev_at cd_X11_moves 39 = cd_X11_moves_39 := rfl
set_option maxRecDepth 100000 in
theorem at_X11_moves_33 : ev_at cd_X11_moves 33 = cd_X11_moves_33 := rfl
set_option maxRecDepth 100000 in
theorem at_X11_moves_2 : ev_at cd_X11_moves 2 = cd_X11_moves_2 := rfl
set_option maxRecDepth 100000 in
theorem at_X11_moves_0 : ev_at cd_X11_moves 0 = cd_X11_moves_0 := rfl
abbrev tb_X11_movesFor (r : Nat) : ev_Tb := (ev_lu fl_X11, ev_lu (ca_X11 r), ev_lu th_X11, ev_lu ko_X11, ev_lu kl_X11, 6, true)
def cd_X11_movesFor_112 : List (Nat × Instr) := (112, .iconst 0) :: (113, .ireturn) :: []
def cd_X11_movesFor_106 : List (Nat × Instr) := (106, .iinc 3 1) :: (109, .goto 2) :: cd_X11_movesFor_112
def cd_X11_movesFor_59 : List (Nat × Instr) := (59, .aload 0) :: (60, .iload 1) :: (61, .iload 3) :: (62, .invokevirtual 186) :: (65, .istore 5) :: (67, .aload 0) :: (68, .iload 4) :: (70, .iload 3) :: (71, .invokevirtual 174) :: (74, .istore 5) :: (76, .aload 0) :: (77, .iload 1) :: (78, .iload 2) :: (79, .invokevirtual 174) :: (82, .istore 5) :: (84, .aload 0) :: (85, .getfield 9) :: (88, .iconst 4) :: (89, .dup2) :: (90, .iaload) :: (91, .iconst 2) :: (92, .iadd) :: (93, .iastore) :: (94, .aload 0) :: (95, .getfield 9) :: (98, .iconst 5) :: (99, .dup2) :: (100, .iaload) :: (101, .iconst 1) :: (102, .iadd) :: (103, .iastore) :: (104, .iconst 1) :: (105, .ireturn) :: cd_X11_movesFor_106
def cd_X11_movesFor_42 : List (Nat × Instr) := (42, .aload 0) :: (43, .iload 1) :: (44, .iload 3) :: (45, .invokevirtual 353) :: (48, .istore 4) :: (50, .iload 4) :: (52, .iconst (-1)) :: (53, .if_icmp .ne 59) :: (56, .goto 106) :: cd_X11_movesFor_59
def cd_X11_movesFor_2 : List (Nat × Instr) := (2, .iload 3) :: (3, .aload 0) :: (4, .getfield 9) :: (7, .iconst 1) :: (8, .iaload) :: (9, .if_icmp .ge 112) :: (12, .iload 3) :: (13, .iload 2) :: (14, .if_icmp .eq 106) :: (17, .aload 0) :: (18, .iload 1) :: (19, .iload 3) :: (20, .invokevirtual 180) :: (23, .iconst (-1)) :: (24, .if_icmp .eq 106) :: (27, .aload 0) :: (28, .iload 1) :: (29, .bipush 23) :: (31, .iload 3) :: (32, .iadd) :: (33, .invokevirtual 121) :: (36, .ifCond .eq 42) :: (39, .goto 106) :: cd_X11_movesFor_42
def cd_X11_movesFor_0 : List (Nat × Instr) := (0, .iconst 0) :: (1, .istore 3) :: cd_X11_movesFor_2
def cd_X11_movesFor : List (Nat × Instr) := cd_X11_movesFor_0
set_option maxRecDepth 100000 in
theorem at_X11_movesFor_112 : ev_at cd_X11_movesFor 112 = cd_X11_movesFor_112 := rfl
set_option maxRecDepth 100000 in
theorem at_X11_movesFor_106 : ev_at cd_X11_movesFor 106 = cd_X11_movesFor_106 := rfl
set_option maxRecDepth 100000 in
theorem at_X11_movesFor_59 : ev_at cd_X11_movesFor 59 = cd_X11_movesFor_59 := rfl
set_option maxRecDepth 100000 in
theorem at_X11_movesFor_42 : ev_at cd_X11_movesFor 42 = cd_X11_movesFor_42 := rfl
set_option maxRecDepth 100000 in
theorem at_X11_movesFor_2 : ev_at cd_X11_movesFor 2 = cd_X11_movesFor_2 := rfl
set_option maxRecDepth 100000 in
theorem at_X11_movesFor_0 : ev_at cd_X11_movesFor 0 = cd_X11_movesFor_0 := rfl
abbrev tb_X11_other (r : Nat) : ev_Tb := (ev_lu fl_X11, ev_lu (ca_X11 r), ev_lu th_X11, ev_lu ko_X11, ev_lu kl_X11, 7, false)
def cd_X11_other_97 : List (Nat × Instr) := (97, .aload 0) :: (98, .iload 2) :: (99, .bipush 6) :: (101, .iload 3) :: (102, .iadd) :: (103, .iload 1) :: (104, .invokevirtual 159) :: (107, .aload 0) :: (108, .iload 2) :: (109, .iconst 5) :: (110, .iload 5) :: (112, .iconst 1) :: (113, .iadd) :: (114, .invokevirtual 159) :: (117, .iload 4) :: (119, .ireturn) :: []
def cd_X11_other_63 : List (Nat × Instr) := (63, .iload 6) :: (65, .iload 3) :: (66, .if_icmp .le 97) :: (69, .aload 0) :: (70, .iload 2) :: (71, .bipush 6) :: (73, .iload 6) :: (75, .iadd) :: (76, .aload 0) :: (77, .iload 2) :: (78, .bipush 6) :: (80, .iload 6) :: (82, .iadd) :: (83, .iconst 1) :: (84, .isub) :: (85, .invokevirtual 195) :: (88, .invokevirtual 159) :: (91, .iinc 6 (-1)) :: (94, .goto 63) :: cd_X11_other_97
def cd_X11_other_59 : List (Nat × Instr) := (59, .iload 5) :: (61, .istore 6) :: cd_X11_other_63
def cd_X11_other_53 : List (Nat × Instr) := (53, .iinc 6 (-1)) :: (56, .goto 28) :: cd_X11_other_59
def cd_X11_other_28 : List (Nat × Instr) := (28, .iload 6) :: (30, .ifCond .lt 59) :: (33, .iload 6) :: (35, .iload 1) :: (36, .if_icmp .eq 53) :: (39, .aload 0) :: (40, .iload 6) :: (42, .iload 2) :: (43, .invokevirtual 171) :: (46, .ifCond .ne 53) :: (49, .iload 6) :: (51, .istore 4) :: cd_X11_other_53
def cd_X11_other_0 : List (Nat × Instr) := (0, .aload 0) :: (1, .iload 1) :: (2, .iload 2) :: (3, .invokevirtual 180) :: (6, .istore 3) :: (7, .iconst (-1)) :: (8, .istore 4) :: (10, .aload 0) :: (11, .iload 1) :: (12, .iload 2) :: (13, .invokevirtual 186) :: (16, .istore 5) :: (18, .aload 0) :: (19, .getfield 9) :: (22, .iconst 0) :: (23, .iaload) :: (24, .iconst 1) :: (25, .isub) :: (26, .istore 6) :: cd_X11_other_28
def cd_X11_other : List (Nat × Instr) := cd_X11_other_0
set_option maxRecDepth 100000 in
theorem at_X11_other_97 : ev_at cd_X11_other 97 = cd_X11_other_97 := rfl
set_option maxRecDepth 100000 in
theorem at_X11_other_63 : ev_at cd_X11_other 63 = cd_X11_other_63 := rfl
set_option maxRecDepth 100000 in
theorem at_X11_other_59 : ev_at cd_X11_other 59 = cd_X11_other_59 := rfl
set_option maxRecDepth 100000 in
theorem at_X11_other_53 : ev_at cd_X11_other 53 = cd_X11_other_53 := rfl
set_option maxRecDepth 100000 in
theorem at_X11_other_28 : ev_at cd_X11_other 28 = cd_X11_other_28 := rfl
set_option maxRecDepth 100000 in
theorem at_X11_other_0 : ev_at cd_X11_other 0 = cd_X11_other_0 := rfl
abbrev tb_X11_lacks (r : Nat) : ev_Tb := (ev_lu fl_X11, ev_lu (ca_X11 r), ev_lu th_X11, ev_lu ko_X11, ev_lu kl_X11, 3, false)
def cd_X11_lacks_31 : List (Nat × Instr) := (31, .iload 1) :: (32, .ireturn) :: []
def cd_X11_lacks_4 : List (Nat × Instr) := (4, .iload 2) :: (5, .aload 0) :: (6, .getfield 9) :: (9, .iconst 1) :: (10, .iaload) :: (11, .if_icmp .ge 31) :: (14, .iload 1) :: (15, .iconst 3) :: (16, .aload 0) :: (17, .iload 2) :: (18, .iconst 5) :: (19, .invokevirtual 195) :: (22, .isub) :: (23, .iadd) :: (24, .istore 1) :: (25, .iinc 2 1) :: (28, .goto 4) :: cd_X11_lacks_31
def cd_X11_lacks_0 : List (Nat × Instr) := (0, .iconst 0) :: (1, .istore 1) :: (2, .iconst 0) :: (3, .istore 2) :: cd_X11_lacks_4
def cd_X11_lacks : List (Nat × Instr) := cd_X11_lacks_0
set_option maxRecDepth 100000 in
theorem at_X11_lacks_31 : ev_at cd_X11_lacks 31 = cd_X11_lacks_31 := rfl
set_option maxRecDepth 100000 in
theorem at_X11_lacks_4 : ev_at cd_X11_lacks 4 = cd_X11_lacks_4 := rfl
set_option maxRecDepth 100000 in
theorem at_X11_lacks_0 : ev_at cd_X11_lacks 0 = cd_X11_lacks_0 := rfl
abbrev tb_X11_scores (r : Nat) : ev_Tb := (ev_lu fl_X11, ev_lu (ca_X11 r), ev_lu th_X11, ev_lu ko_X11, ev_lu kl_X11, 4, false)
def cd_X11_scores_43 : List (Nat × Instr) := (43, .iload 2) :: (44, .ireturn) :: []
def cd_X11_scores_32 : List (Nat × Instr) := (32, .invokestatic 325) :: (35, .iadd) :: (36, .istore 2) :: (37, .iinc 3 1) :: (40, .goto 4) :: cd_X11_scores_43
def cd_X11_scores_31 : List (Nat × Instr) := (31, .iconst 0) :: cd_X11_scores_32
def cd_X11_scores_4 : List (Nat × Instr) := (4, .iload 3) :: (5, .aload 0) :: (6, .getfield 9) :: (9, .iconst 0) :: (10, .iaload) :: (11, .if_icmp .ge 43) :: (14, .iload 2) :: (15, .aload 0) :: (16, .iload 3) :: (17, .bipush 23) :: (19, .iload 1) :: (20, .iadd) :: (21, .invokevirtual 121) :: (24, .ifCond .eq 31) :: (27, .iconst 1) :: (28, .goto 32) :: cd_X11_scores_31
def cd_X11_scores_0 : List (Nat × Instr) := (0, .iconst 0) :: (1, .istore 2) :: (2, .iconst 0) :: (3, .istore 3) :: cd_X11_scores_4
def cd_X11_scores : List (Nat × Instr) := cd_X11_scores_0
set_option maxRecDepth 100000 in
theorem at_X11_scores_43 : ev_at cd_X11_scores 43 = cd_X11_scores_43 := rfl
set_option maxRecDepth 100000 in
theorem at_X11_scores_32 : ev_at cd_X11_scores 32 = cd_X11_scores_32 := rfl
set_option maxRecDepth 100000 in
theorem at_X11_scores_31 : ev_at cd_X11_scores 31 = cd_X11_scores_31 := rfl
set_option maxRecDepth 100000 in
theorem at_X11_scores_4 : ev_at cd_X11_scores 4 = cd_X11_scores_4 := rfl
set_option maxRecDepth 100000 in
theorem at_X11_scores_0 : ev_at cd_X11_scores 0 = cd_X11_scores_0 := rfl
abbrev tb_X11_scoresBy (r : Nat) : ev_Tb := (ev_lu fl_X11, ev_lu (ca_X11 r), ev_lu th_X11, ev_lu ko_X11, ev_lu kl_X11, 4, false)
def cd_X11_scoresBy_43 : List (Nat × Instr) := (43, .iload 2) :: (44, .ireturn) :: []
def cd_X11_scoresBy_32 : List (Nat × Instr) := (32, .invokestatic 325) :: (35, .iadd) :: (36, .istore 2) :: (37, .iinc 3 1) :: (40, .goto 4) :: cd_X11_scoresBy_43
def cd_X11_scoresBy_31 : List (Nat × Instr) := (31, .iconst 0) :: cd_X11_scoresBy_32
def cd_X11_scoresBy_4 : List (Nat × Instr) := (4, .iload 3) :: (5, .aload 0) :: (6, .getfield 9) :: (9, .iconst 1) :: (10, .iaload) :: (11, .if_icmp .ge 43) :: (14, .iload 2) :: (15, .aload 0) :: (16, .iload 1) :: (17, .bipush 23) :: (19, .iload 3) :: (20, .iadd) :: (21, .invokevirtual 121) :: (24, .ifCond .eq 31) :: (27, .iconst 1) :: (28, .goto 32) :: cd_X11_scoresBy_31
def cd_X11_scoresBy_0 : List (Nat × Instr) := (0, .iconst 0) :: (1, .istore 2) :: (2, .iconst 0) :: (3, .istore 3) :: cd_X11_scoresBy_4
def cd_X11_scoresBy : List (Nat × Instr) := cd_X11_scoresBy_0
set_option maxRecDepth 100000 in
theorem at_X11_scoresBy_43 : ev_at cd_X11_scoresBy 43 = cd_X11_scoresBy_43 := rfl
set_option maxRecDepth 100000 in
theorem at_X11_scoresBy_32 : ev_at cd_X11_scoresBy 32 = cd_X11_scoresBy_32 := rfl
set_option maxRecDepth 100000 in
theorem at_X11_scoresBy_31 : ev_at cd_X11_scoresBy 31 = cd_X11_scoresBy_31 := rfl
set_option maxRecDepth 100000 in
theorem at_X11_scoresBy_4 : ev_at cd_X11_scoresBy 4 = cd_X11_scoresBy_4 := rfl
set_option maxRecDepth 100000 in
theorem at_X11_scoresBy_0 : ev_at cd_X11_scoresBy 0 = cd_X11_scoresBy_0 := rfl
abbrev tb_X11_sumBy (r : Nat) : ev_Tb := (ev_lu fl_X11, ev_lu (ca_X11 r), ev_lu th_X11, ev_lu ko_X11, ev_lu kl_X11, 4, false)
def cd_X11_sumBy_32 : List (Nat × Instr) := (32, .iload 2) :: (33, .ireturn) :: []
def cd_X11_sumBy_4 : List (Nat × Instr) := (4, .iload 3) :: (5, .aload 0) :: (6, .getfield 9) :: (9, .iconst 1) :: (10, .iaload) :: (11, .if_icmp .ge 32) :: (14, .iload 2) :: (15, .aload 0) :: (16, .iload 1) :: (17, .bipush 23) :: (19, .iload 3) :: (20, .iadd) :: (21, .invokevirtual 121) :: (24, .iadd) :: (25, .istore 2) :: (26, .iinc 3 1) :: (29, .goto 4) :: cd_X11_sumBy_32
def cd_X11_sumBy_0 : List (Nat × Instr) := (0, .iconst 0) :: (1, .istore 2) :: (2, .iconst 0) :: (3, .istore 3) :: cd_X11_sumBy_4
def cd_X11_sumBy : List (Nat × Instr) := cd_X11_sumBy_0
set_option maxRecDepth 100000 in
theorem at_X11_sumBy_32 : ev_at cd_X11_sumBy 32 = cd_X11_sumBy_32 := rfl
set_option maxRecDepth 100000 in
theorem at_X11_sumBy_4 : ev_at cd_X11_sumBy 4 = cd_X11_sumBy_4 := rfl
set_option maxRecDepth 100000 in
theorem at_X11_sumBy_0 : ev_at cd_X11_sumBy 0 = cd_X11_sumBy_0 := rfl
abbrev tb_X11_allScores (r : Nat) : ev_Tb := (ev_lu fl_X11, ev_lu (ca_X11 r), ev_lu th_X11, ev_lu ko_X11, ev_lu kl_X11, 3, false)
def cd_X11_allScores_28 : List (Nat × Instr) := (28, .iload 1) :: (29, .ireturn) :: []
def cd_X11_allScores_4 : List (Nat × Instr) := (4, .iload 2) :: (5, .aload 0) :: (6, .getfield 9) :: (9, .iconst 0) :: (10, .iaload) :: (11, .if_icmp .ge 28) :: (14, .iload 1) :: (15, .aload 0) :: (16, .iload 2) :: (17, .invokevirtual 356) :: (20, .iadd) :: (21, .istore 1) :: (22, .iinc 2 1) :: (25, .goto 4) :: cd_X11_allScores_28
def cd_X11_allScores_0 : List (Nat × Instr) := (0, .iconst 0) :: (1, .istore 1) :: (2, .iconst 0) :: (3, .istore 2) :: cd_X11_allScores_4
def cd_X11_allScores : List (Nat × Instr) := cd_X11_allScores_0
set_option maxRecDepth 100000 in
theorem at_X11_allScores_28 : ev_at cd_X11_allScores 28 = cd_X11_allScores_28 := rfl
set_option maxRecDepth 100000 in
theorem at_X11_allScores_4 : ev_at cd_X11_allScores 4 = cd_X11_allScores_4 := rfl
set_option maxRecDepth 100000 in
theorem at_X11_allScores_0 : ev_at cd_X11_allScores 0 = cd_X11_allScores_0 := rfl
abbrev tb_X11_allSum (r : Nat) : ev_Tb := (ev_lu fl_X11, ev_lu (ca_X11 r), ev_lu th_X11, ev_lu ko_X11, ev_lu kl_X11, 3, false)
def cd_X11_allSum_28 : List (Nat × Instr) := (28, .iload 1) :: (29, .ireturn) :: []
def cd_X11_allSum_4 : List (Nat × Instr) := (4, .iload 2) :: (5, .aload 0) :: (6, .getfield 9) :: (9, .iconst 0) :: (10, .iaload) :: (11, .if_icmp .ge 28) :: (14, .iload 1) :: (15, .aload 0) :: (16, .iload 2) :: (17, .invokevirtual 359) :: (20, .iadd) :: (21, .istore 1) :: (22, .iinc 2 1) :: (25, .goto 4) :: cd_X11_allSum_28
def cd_X11_allSum_0 : List (Nat × Instr) := (0, .iconst 0) :: (1, .istore 1) :: (2, .iconst 0) :: (3, .istore 2) :: cd_X11_allSum_4
def cd_X11_allSum : List (Nat × Instr) := cd_X11_allSum_0
set_option maxRecDepth 100000 in
theorem at_X11_allSum_28 : ev_at cd_X11_allSum 28 = cd_X11_allSum_28 := rfl
set_option maxRecDepth 100000 in
theorem at_X11_allSum_4 : ev_at cd_X11_allSum 4 = cd_X11_allSum_4 := rfl
set_option maxRecDepth 100000 in
theorem at_X11_allSum_0 : ev_at cd_X11_allSum 0 = cd_X11_allSum_0 := rfl
abbrev tb_X11_mean (r : Nat) : ev_Tb := (ev_lu fl_X11, ev_lu (ca_X11 r), ev_lu th_X11, ev_lu ko_X11, ev_lu kl_X11, 2, false)
def cd_X11_mean_0 : List (Nat × Instr) := (0, .bipush 100) :: (2, .aload 0) :: (3, .iload 1) :: (4, .invokevirtual 359) :: (7, .imul) :: (8, .aload 0) :: (9, .iload 1) :: (10, .invokevirtual 356) :: (13, .idiv) :: (14, .ireturn) :: []
def cd_X11_mean : List (Nat × Instr) := cd_X11_mean_0
set_option maxRecDepth 100000 in
theorem at_X11_mean_0 : ev_at cd_X11_mean 0 = cd_X11_mean_0 := rfl
abbrev tb_X11_adjusted (r : Nat) : ev_Tb := (ev_lu fl_X11, ev_lu (ca_X11 r), ev_lu th_X11, ev_lu ko_X11, ev_lu kl_X11, 3, false)
def cd_X11_adjusted_0 : List (Nat × Instr) := (0, .bipush 100) :: (2, .aload 0) :: (3, .iload 1) :: (4, .bipush 23) :: (6, .iload 2) :: (7, .iadd) :: (8, .invokevirtual 121) :: (11, .imul) :: (12, .aload 0) :: (13, .iload 1) :: (14, .invokevirtual 362) :: (17, .isub) :: (18, .bipush 100) :: (20, .aload 0) :: (21, .invokevirtual 365) :: (24, .imul) :: (25, .aload 0) :: (26, .invokevirtual 368) :: (29, .idiv) :: (30, .iadd) :: (31, .ireturn) :: []
def cd_X11_adjusted : List (Nat × Instr) := cd_X11_adjusted_0
set_option maxRecDepth 100000 in
theorem at_X11_adjusted_0 : ev_at cd_X11_adjusted 0 = cd_X11_adjusted_0 := rfl
abbrev tb_X11_isScored (r : Nat) : ev_Tb := (ev_lu fl_X11, ev_lu (ca_X11 r), ev_lu th_X11, ev_lu ko_X11, ev_lu kl_X11, 3, true)
def cd_X11_isScored_17 : List (Nat × Instr) := (17, .ireturn) :: []
def cd_X11_isScored_16 : List (Nat × Instr) := (16, .iconst 0) :: cd_X11_isScored_17
def cd_X11_isScored_0 : List (Nat × Instr) := (0, .aload 0) :: (1, .iload 1) :: (2, .bipush 23) :: (4, .iload 2) :: (5, .iadd) :: (6, .invokevirtual 121) :: (9, .ifCond .eq 16) :: (12, .iconst 1) :: (13, .goto 17) :: cd_X11_isScored_16
def cd_X11_isScored : List (Nat × Instr) := cd_X11_isScored_0
set_option maxRecDepth 100000 in
theorem at_X11_isScored_17 : ev_at cd_X11_isScored 17 = cd_X11_isScored_17 := rfl
set_option maxRecDepth 100000 in
theorem at_X11_isScored_16 : ev_at cd_X11_isScored 16 = cd_X11_isScored_16 := rfl
set_option maxRecDepth 100000 in
theorem at_X11_isScored_0 : ev_at cd_X11_isScored 0 = cd_X11_isScored_0 := rfl
abbrev tb_X11_total (r : Nat) : ev_Tb := (ev_lu fl_X11, ev_lu (ca_X11 r), ev_lu th_X11, ev_lu ko_X11, ev_lu kl_X11, 5, false)
def cd_X11_total_59 : List (Nat × Instr) := (59, .ireturn) :: []
def cd_X11_total_56 : List (Nat × Instr) := (56, .iload 3) :: (57, .iload 2) :: (58, .idiv) :: cd_X11_total_59
def cd_X11_total_48 : List (Nat × Instr) := (48, .iload 2) :: (49, .ifCond .ne 56) :: (52, .iconst 0) :: (53, .goto 59) :: cd_X11_total_56
def cd_X11_total_42 : List (Nat × Instr) := (42, .iinc 4 1) :: (45, .goto 11) :: cd_X11_total_48
def cd_X11_total_11 : List (Nat × Instr) := (11, .iload 4) :: (13, .aload 0) :: (14, .getfield 9) :: (17, .iconst 0) :: (18, .iaload) :: (19, .if_icmp .ge 48) :: (22, .aload 0) :: (23, .iload 4) :: (25, .iload 1) :: (26, .invokevirtual 201) :: (29, .ifCond .eq 42) :: (32, .iload 3) :: (33, .aload 0) :: (34, .iload 4) :: (36, .iload 1) :: (37, .invokevirtual 371) :: (40, .iadd) :: (41, .istore 3) :: cd_X11_total_42
def cd_X11_total_0 : List (Nat × Instr) := (0, .aload 0) :: (1, .iload 1) :: (2, .invokevirtual 189) :: (5, .istore 2) :: (6, .iconst 0) :: (7, .istore 3) :: (8, .iconst 0) :: (9, .istore 4) :: cd_X11_total_11
def cd_X11_total : List (Nat × Instr) := cd_X11_total_0
set_option maxRecDepth 100000 in
theorem at_X11_total_59 : ev_at cd_X11_total 59 = cd_X11_total_59 := rfl
set_option maxRecDepth 100000 in
theorem at_X11_total_56 : ev_at cd_X11_total 56 = cd_X11_total_56 := rfl
set_option maxRecDepth 100000 in
theorem at_X11_total_48 : ev_at cd_X11_total 48 = cd_X11_total_48 := rfl
set_option maxRecDepth 100000 in
theorem at_X11_total_42 : ev_at cd_X11_total 42 = cd_X11_total_42 := rfl
set_option maxRecDepth 100000 in
theorem at_X11_total_11 : ev_at cd_X11_total 11 = cd_X11_total_11 := rfl
set_option maxRecDepth 100000 in
theorem at_X11_total_0 : ev_at cd_X11_total 0 = cd_X11_total_0 := rfl
abbrev tb_X11_spread (r : Nat) : ev_Tb := (ev_lu fl_X11, ev_lu (ca_X11 r), ev_lu th_X11, ev_lu ko_X11, ev_lu kl_X11, 7, false)
def cd_X11_spread_86 : List (Nat × Instr) := (86, .iload 4) :: (88, .iload 3) :: (89, .isub) :: (90, .ireturn) :: []
def cd_X11_spread_80 : List (Nat × Instr) := (80, .iinc 5 1) :: (83, .goto 10) :: cd_X11_spread_86
def cd_X11_spread_75 : List (Nat × Instr) := (75, .istore 4) :: (77, .iinc 2 1) :: cd_X11_spread_80
def cd_X11_spread_68 : List (Nat × Instr) := (68, .iload 4) :: (70, .iload 6) :: (72, .invokestatic 379) :: cd_X11_spread_75
def cd_X11_spread_58 : List (Nat × Instr) := (58, .istore 3) :: (59, .iload 2) :: (60, .ifCond .ne 68) :: (63, .iload 6) :: (65, .goto 75) :: cd_X11_spread_68
def cd_X11_spread_52 : List (Nat × Instr) := (52, .iload 3) :: (53, .iload 6) :: (55, .invokestatic 374) :: cd_X11_spread_58
def cd_X11_spread_34 : List (Nat × Instr) := (34, .aload 0) :: (35, .iload 5) :: (37, .iload 1) :: (38, .invokevirtual 371) :: (41, .istore 6) :: (43, .iload 2) :: (44, .ifCond .ne 52) :: (47, .iload 6) :: (49, .goto 58) :: cd_X11_spread_52
def cd_X11_spread_10 : List (Nat × Instr) := (10, .iload 5) :: (12, .aload 0) :: (13, .getfield 9) :: (16, .iconst 0) :: (17, .iaload) :: (18, .if_icmp .ge 86) :: (21, .aload 0) :: (22, .iload 5) :: (24, .iload 1) :: (25, .invokevirtual 201) :: (28, .ifCond .ne 34) :: (31, .goto 80) :: cd_X11_spread_34
def cd_X11_spread_0 : List (Nat × Instr) := (0, .iconst 0) :: (1, .istore 2) :: (2, .iconst 0) :: (3, .istore 3) :: (4, .iconst 0) :: (5, .istore 4) :: (7, .iconst 0) :: (8, .istore 5) :: cd_X11_spread_10
def cd_X11_spread : List (Nat × Instr) := cd_X11_spread_0
set_option maxRecDepth 100000 in
theorem at_X11_spread_86 : ev_at cd_X11_spread 86 = cd_X11_spread_86 := rfl
set_option maxRecDepth 100000 in
theorem at_X11_spread_80 : ev_at cd_X11_spread 80 = cd_X11_spread_80 := rfl
set_option maxRecDepth 100000 in
theorem at_X11_spread_75 : ev_at cd_X11_spread 75 = cd_X11_spread_75 := rfl
set_option maxRecDepth 100000 in
theorem at_X11_spread_68 : ev_at cd_X11_spread 68 = cd_X11_spread_68 := rfl
set_option maxRecDepth 100000 in
theorem at_X11_spread_58 : ev_at cd_X11_spread 58 = cd_X11_spread_58 := rfl
set_option maxRecDepth 100000 in
theorem at_X11_spread_52 : ev_at cd_X11_spread 52 = cd_X11_spread_52 := rfl
set_option maxRecDepth 100000 in
theorem at_X11_spread_34 : ev_at cd_X11_spread 34 = cd_X11_spread_34 := rfl
set_option maxRecDepth 100000 in
theorem at_X11_spread_10 : ev_at cd_X11_spread 10 = cd_X11_spread_10 := rfl
set_option maxRecDepth 100000 in
theorem at_X11_spread_0 : ev_at cd_X11_spread 0 = cd_X11_spread_0 := rfl
abbrev tb_X11_mustTalk (r : Nat) : ev_Tb := (ev_lu fl_X11, ev_lu (ca_X11 r), ev_lu th_X11, ev_lu ko_X11, ev_lu kl_X11, 2, true)
def cd_X11_mustTalk_19 : List (Nat × Instr) := (19, .ireturn) :: []
def cd_X11_mustTalk_18 : List (Nat × Instr) := (18, .iconst 0) :: cd_X11_mustTalk_19
def cd_X11_mustTalk_0 : List (Nat × Instr) := (0, .aload 0) :: (1, .iload 1) :: (2, .invokevirtual 382) :: (5, .aload 0) :: (6, .getfield 9) :: (9, .iconst 2) :: (10, .iaload) :: (11, .if_icmp .le 18) :: (14, .iconst 1) :: (15, .goto 19) :: cd_X11_mustTalk_18
def cd_X11_mustTalk : List (Nat × Instr) := cd_X11_mustTalk_0
set_option maxRecDepth 100000 in
theorem at_X11_mustTalk_19 : ev_at cd_X11_mustTalk 19 = cd_X11_mustTalk_19 := rfl
set_option maxRecDepth 100000 in
theorem at_X11_mustTalk_18 : ev_at cd_X11_mustTalk 18 = cd_X11_mustTalk_18 := rfl
set_option maxRecDepth 100000 in
theorem at_X11_mustTalk_0 : ev_at cd_X11_mustTalk 0 = cd_X11_mustTalk_0 := rfl
abbrev tb_X11_middle (r : Nat) : ev_Tb := (ev_lu fl_X11, ev_lu (ca_X11 r), ev_lu th_X11, ev_lu ko_X11, ev_lu kl_X11, 6, false)
def cd_X11_middle_92 : List (Nat × Instr) := (92, .iconst 0) :: (93, .ireturn) :: []
def cd_X11_middle_86 : List (Nat × Instr) := (86, .iinc 3 1) :: (89, .goto 12) :: cd_X11_middle_92
def cd_X11_middle_78 : List (Nat × Instr) := (78, .iload 4) :: (80, .iload 2) :: (81, .if_icmp .le 86) :: (84, .iload 3) :: (85, .ireturn) :: cd_X11_middle_86
def cd_X11_middle_66 : List (Nat × Instr) := (66, .invokestatic 325) :: (69, .iadd) :: (70, .istore 4) :: (72, .iinc 5 1) :: (75, .goto 24) :: cd_X11_middle_78
def cd_X11_middle_65 : List (Nat × Instr) := (65, .iconst 0) :: cd_X11_middle_66
def cd_X11_middle_24 : List (Nat × Instr) := (24, .iload 5) :: (26, .aload 0) :: (27, .getfield 9) :: (30, .iconst 0) :: (31, .iaload) :: (32, .if_icmp .ge 78) :: (35, .iload 4) :: (37, .aload 0) :: (38, .iload 5) :: (40, .iload 1) :: (41, .invokevirtual 201) :: (44, .ifCond .eq 65) :: (47, .aload 0) :: (48, .iload 5) :: (50, .bipush 23) :: (52, .iload 1) :: (53, .iadd) :: (54, .invokevirtual 121) :: (57, .iload 3) :: (58, .if_icmp .gt 65) :: (61, .iconst 1) :: (62, .goto 66) :: cd_X11_middle_65
def cd_X11_middle_12 : List (Nat × Instr) := (12, .iload 3) :: (13, .bipush 9) :: (15, .if_icmp .gt 92) :: (18, .iconst 0) :: (19, .istore 4) :: (21, .iconst 0) :: (22, .istore 5) :: cd_X11_middle_24
def cd_X11_middle_0 : List (Nat × Instr) := (0, .aload 0) :: (1, .iload 1) :: (2, .invokevirtual 189) :: (5, .iconst 1) :: (6, .isub) :: (7, .iconst 2) :: (8, .idiv) :: (9, .istore 2) :: (10, .iconst 1) :: (11, .istore 3) :: cd_X11_middle_12
def cd_X11_middle : List (Nat × Instr) := cd_X11_middle_0
set_option maxRecDepth 100000 in
theorem at_X11_middle_92 : ev_at cd_X11_middle 92 = cd_X11_middle_92 := rfl
set_option maxRecDepth 100000 in
theorem at_X11_middle_86 : ev_at cd_X11_middle 86 = cd_X11_middle_86 := rfl
set_option maxRecDepth 100000 in
theorem at_X11_middle_78 : ev_at cd_X11_middle 78 = cd_X11_middle_78 := rfl
set_option maxRecDepth 100000 in
theorem at_X11_middle_66 : ev_at cd_X11_middle 66 = cd_X11_middle_66 := rfl
set_option maxRecDepth 100000 in
theorem at_X11_middle_65 : ev_at cd_X11_middle 65 = cd_X11_middle_65 := rfl
set_option maxRecDepth 100000 in
theorem at_X11_middle_24 : ev_at cd_X11_middle 24 = cd_X11_middle_24 := rfl
set_option maxRecDepth 100000 in
theorem at_X11_middle_12 : ev_at cd_X11_middle 12 = cd_X11_middle_12 := rfl
set_option maxRecDepth 100000 in
theorem at_X11_middle_0 : ev_at cd_X11_middle 0 = cd_X11_middle_0 := rfl
abbrev tb_X11_talks (r : Nat) : ev_Tb := (ev_lu fl_X11, ev_lu (ca_X11 r), ev_lu th_X11, ev_lu ko_X11, ev_lu kl_X11, 6, false)
def cd_X11_talks_89 : List (Nat × Instr) := (89, .aload 0) :: (90, .getfield 9) :: (93, .bipush 6) :: (95, .dup2) :: (96, .iaload) :: (97, .iconst 1) :: (98, .iadd) :: (99, .iastore) :: (100, .aload 0) :: (101, .getfield 9) :: (104, .bipush 7) :: (106, .dup2) :: (107, .iaload) :: (108, .iload 3) :: (109, .iadd) :: (110, .iastore) :: (111, .iload 3) :: (112, .ireturn) :: []
def cd_X11_talks_83 : List (Nat × Instr) := (83, .iinc 4 1) :: (86, .goto 11) :: cd_X11_talks_89
def cd_X11_talks_77 : List (Nat × Instr) := (77, .invokevirtual 149) :: (80, .iinc 3 1) :: cd_X11_talks_83
def cd_X11_talks_73 : List (Nat × Instr) := (73, .iload 5) :: (75, .iconst 1) :: (76, .isub) :: cd_X11_talks_77
def cd_X11_talks_53 : List (Nat × Instr) := (53, .aload 0) :: (54, .iload 4) :: (56, .bipush 23) :: (58, .iload 1) :: (59, .iadd) :: (60, .iload 5) :: (62, .iload 2) :: (63, .if_icmp .ge 73) :: (66, .iload 5) :: (68, .iconst 1) :: (69, .iadd) :: (70, .goto 77) :: cd_X11_talks_73
def cd_X11_talks_11 : List (Nat × Instr) := (11, .iload 4) :: (13, .aload 0) :: (14, .getfield 9) :: (17, .iconst 0) :: (18, .iaload) :: (19, .if_icmp .ge 89) :: (22, .aload 0) :: (23, .iload 4) :: (25, .bipush 23) :: (27, .iload 1) :: (28, .iadd) :: (29, .invokevirtual 121) :: (32, .istore 5) :: (34, .iload 5) :: (36, .ifCond .eq 83) :: (39, .iload 5) :: (41, .iload 2) :: (42, .isub) :: (43, .invokestatic 385) :: (46, .iconst 1) :: (47, .if_icmp .gt 53) :: (50, .goto 83) :: cd_X11_talks_53
def cd_X11_talks_0 : List (Nat × Instr) := (0, .aload 0) :: (1, .iload 1) :: (2, .invokevirtual 198) :: (5, .istore 2) :: (6, .iconst 0) :: (7, .istore 3) :: (8, .iconst 0) :: (9, .istore 4) :: cd_X11_talks_11
def cd_X11_talks : List (Nat × Instr) := cd_X11_talks_0
set_option maxRecDepth 100000 in
theorem at_X11_talks_89 : ev_at cd_X11_talks 89 = cd_X11_talks_89 := rfl
set_option maxRecDepth 100000 in
theorem at_X11_talks_83 : ev_at cd_X11_talks 83 = cd_X11_talks_83 := rfl
set_option maxRecDepth 100000 in
theorem at_X11_talks_77 : ev_at cd_X11_talks 77 = cd_X11_talks_77 := rfl
set_option maxRecDepth 100000 in
theorem at_X11_talks_73 : ev_at cd_X11_talks 73 = cd_X11_talks_73 := rfl
set_option maxRecDepth 100000 in
theorem at_X11_talks_53 : ev_at cd_X11_talks 53 = cd_X11_talks_53 := rfl
set_option maxRecDepth 100000 in
theorem at_X11_talks_11 : ev_at cd_X11_talks 11 = cd_X11_talks_11 := rfl
set_option maxRecDepth 100000 in
theorem at_X11_talks_0 : ev_at cd_X11_talks 0 = cd_X11_talks_0 := rfl
abbrev tb_X11_isAhead (r : Nat) : ev_Tb := (ev_lu fl_X11, ev_lu (ca_X11 r), ev_lu th_X11, ev_lu ko_X11, ev_lu kl_X11, 5, true)
def cd_X11_isAhead_74 : List (Nat × Instr) := (74, .ireturn) :: []
def cd_X11_isAhead_73 : List (Nat × Instr) := (73, .iconst 0) :: cd_X11_isAhead_74
def cd_X11_isAhead_64 : List (Nat × Instr) := (64, .iload 1) :: (65, .iload 2) :: (66, .if_icmp .ge 73) :: (69, .iconst 1) :: (70, .goto 74) :: cd_X11_isAhead_73
def cd_X11_isAhead_60 : List (Nat × Instr) := (60, .iconst 0) :: (61, .goto 74) :: cd_X11_isAhead_64
def cd_X11_isAhead_33 : List (Nat × Instr) := (33, .aload 0) :: (34, .iload 1) :: (35, .invokevirtual 388) :: (38, .aload 0) :: (39, .iload 2) :: (40, .invokevirtual 388) :: (43, .isub) :: (44, .istore 4) :: (46, .iload 4) :: (48, .ifCond .eq 64) :: (51, .iload 4) :: (53, .ifCond .le 60) :: (56, .iconst 1) :: (57, .goto 74) :: cd_X11_isAhead_60
def cd_X11_isAhead_28 : List (Nat × Instr) := (28, .if_icmp .eq 33) :: (31, .iload 3) :: (32, .ireturn) :: cd_X11_isAhead_33
def cd_X11_isAhead_27 : List (Nat × Instr) := (27, .iconst 0) :: cd_X11_isAhead_28
def cd_X11_isAhead_13 : List (Nat × Instr) := (13, .istore 3) :: (14, .iload 3) :: (15, .aload 0) :: (16, .iload 2) :: (17, .invokevirtual 189) :: (20, .ifCond .le 27) :: (23, .iconst 1) :: (24, .goto 28) :: cd_X11_isAhead_27
def cd_X11_isAhead_12 : List (Nat × Instr) := (12, .iconst 0) :: cd_X11_isAhead_13
def cd_X11_isAhead_0 : List (Nat × Instr) := (0, .aload 0) :: (1, .iload 1) :: (2, .invokevirtual 189) :: (5, .ifCond .le 12) :: (8, .iconst 1) :: (9, .goto 13) :: cd_X11_isAhead_12
def cd_X11_isAhead : List (Nat × Instr) := cd_X11_isAhead_0
set_option maxRecDepth 100000 in
theorem at_X11_isAhead_74 : ev_at cd_X11_isAhead 74 = cd_X11_isAhead_74 := rfl
set_option maxRecDepth 100000 in
theorem at_X11_isAhead_73 : ev_at cd_X11_isAhead 73 = cd_X11_isAhead_73 := rfl
set_option maxRecDepth 100000 in
theorem at_X11_isAhead_64 : ev_at cd_X11_isAhead 64 = cd_X11_isAhead_64 := rfl
set_option maxRecDepth 100000 in
theorem at_X11_isAhead_60 : ev_at cd_X11_isAhead 60 = cd_X11_isAhead_60 := rfl
set_option maxRecDepth 100000 in
theorem at_X11_isAhead_33 : ev_at cd_X11_isAhead 33 = cd_X11_isAhead_33 := rfl
set_option maxRecDepth 100000 in
theorem at_X11_isAhead_28 : ev_at cd_X11_isAhead 28 = cd_X11_isAhead_28 := rfl
set_option maxRecDepth 100000 in
theorem at_X11_isAhead_27 : ev_at cd_X11_isAhead 27 = cd_X11_isAhead_27 := rfl
set_option maxRecDepth 100000 in
theorem at_X11_isAhead_13 : ev_at cd_X11_isAhead 13 = cd_X11_isAhead_13 := rfl
set_option maxRecDepth 100000 in
theorem at_X11_isAhead_12 : ev_at cd_X11_isAhead 12 = cd_X11_isAhead_12 := rfl
set_option maxRecDepth 100000 in
theorem at_X11_isAhead_0 : ev_at cd_X11_isAhead 0 = cd_X11_isAhead_0 := rfl
abbrev tb_X11_rank (r : Nat) : ev_Tb := (ev_lu fl_X11, ev_lu (ca_X11 r), ev_lu th_X11, ev_lu ko_X11, ev_lu kl_X11, 4, false)
def cd_X11_rank_45 : List (Nat × Instr) := (45, .iload 2) :: (46, .ireturn) :: []
def cd_X11_rank_34 : List (Nat × Instr) := (34, .invokestatic 325) :: (37, .iadd) :: (38, .istore 2) :: (39, .iinc 3 1) :: (42, .goto 4) :: cd_X11_rank_45
def cd_X11_rank_33 : List (Nat × Instr) := (33, .iconst 0) :: cd_X11_rank_34
def cd_X11_rank_4 : List (Nat × Instr) := (4, .iload 3) :: (5, .aload 0) :: (6, .getfield 9) :: (9, .iconst 1) :: (10, .iaload) :: (11, .if_icmp .ge 45) :: (14, .iload 2) :: (15, .iload 3) :: (16, .iload 1) :: (17, .if_icmp .eq 33) :: (20, .aload 0) :: (21, .iload 3) :: (22, .iload 1) :: (23, .invokevirtual 391) :: (26, .ifCond .eq 33) :: (29, .iconst 1) :: (30, .goto 34) :: cd_X11_rank_33
def cd_X11_rank_0 : List (Nat × Instr) := (0, .iconst 0) :: (1, .istore 2) :: (2, .iconst 0) :: (3, .istore 3) :: cd_X11_rank_4
def cd_X11_rank : List (Nat × Instr) := cd_X11_rank_0
set_option maxRecDepth 100000 in
theorem at_X11_rank_45 : ev_at cd_X11_rank 45 = cd_X11_rank_45 := rfl
set_option maxRecDepth 100000 in
theorem at_X11_rank_34 : ev_at cd_X11_rank 34 = cd_X11_rank_34 := rfl
set_option maxRecDepth 100000 in
theorem at_X11_rank_33 : ev_at cd_X11_rank 33 = cd_X11_rank_33 := rfl
set_option maxRecDepth 100000 in
theorem at_X11_rank_4 : ev_at cd_X11_rank 4 = cd_X11_rank_4 := rfl
set_option maxRecDepth 100000 in
theorem at_X11_rank_0 : ev_at cd_X11_rank 0 = cd_X11_rank_0 := rfl
abbrev tb_X11_isPancake (r : Nat) : ev_Tb := (ev_lu fl_X11, ev_lu (ca_X11 r), ev_lu th_X11, ev_lu ko_X11, ev_lu kl_X11, 2, true)
def cd_X11_isPancake_28 : List (Nat × Instr) := (28, .ireturn) :: []
def cd_X11_isPancake_27 : List (Nat × Instr) := (27, .iconst 0) :: cd_X11_isPancake_28
def cd_X11_isPancake_0 : List (Nat × Instr) := (0, .aload 0) :: (1, .getfield 47) :: (4, .ifCond .eq 27) :: (7, .iload 1) :: (8, .iconst 0) :: (9, .aload 0) :: (10, .getfield 9) :: (13, .iconst 1) :: (14, .iaload) :: (15, .iconst 1) :: (16, .isub) :: (17, .invokestatic 72) :: (20, .ifCond .eq 27) :: (23, .iconst 1) :: (24, .goto 28) :: cd_X11_isPancake_27
def cd_X11_isPancake : List (Nat × Instr) := cd_X11_isPancake_0
set_option maxRecDepth 100000 in
theorem at_X11_isPancake_28 : ev_at cd_X11_isPancake 28 = cd_X11_isPancake_28 := rfl
set_option maxRecDepth 100000 in
theorem at_X11_isPancake_27 : ev_at cd_X11_isPancake 27 = cd_X11_isPancake_27 := rfl
set_option maxRecDepth 100000 in
theorem at_X11_isPancake_0 : ev_at cd_X11_isPancake 0 = cd_X11_isPancake_0 := rfl
abbrev tb_X11_isPerson (r : Nat) : ev_Tb := (ev_lu fl_X11, ev_lu (ca_X11 r), ev_lu th_X11, ev_lu ko_X11, ev_lu kl_X11, 2, true)
def cd_X11_isPerson_28 : List (Nat × Instr) := (28, .ireturn) :: []
def cd_X11_isPerson_27 : List (Nat × Instr) := (27, .iconst 0) :: cd_X11_isPerson_28
def cd_X11_isPerson_0 : List (Nat × Instr) := (0, .aload 0) :: (1, .getfield 47) :: (4, .ifCond .eq 27) :: (7, .iload 1) :: (8, .iconst 0) :: (9, .aload 0) :: (10, .getfield 9) :: (13, .iconst 0) :: (14, .iaload) :: (15, .iconst 1) :: (16, .isub) :: (17, .invokestatic 72) :: (20, .ifCond .eq 27) :: (23, .iconst 1) :: (24, .goto 28) :: cd_X11_isPerson_27
def cd_X11_isPerson : List (Nat × Instr) := cd_X11_isPerson_0
set_option maxRecDepth 100000 in
theorem at_X11_isPerson_28 : ev_at cd_X11_isPerson 28 = cd_X11_isPerson_28 := rfl
set_option maxRecDepth 100000 in
theorem at_X11_isPerson_27 : ev_at cd_X11_isPerson 27 = cd_X11_isPerson_27 := rfl
set_option maxRecDepth 100000 in
theorem at_X11_isPerson_0 : ev_at cd_X11_isPerson 0 = cd_X11_isPerson_0 := rfl
abbrev tb_X11_mayPancake (r : Nat) : ev_Tb := (ev_lu fl_X11, ev_lu (ca_X11 r), ev_lu th_X11, ev_lu ko_X11, ev_lu kl_X11, 2, true)
def cd_X11_mayPancake_0 : List (Nat × Instr) := (0, .aload 0) :: (1, .aload 0) :: (2, .getfield 47) :: (5, .aload 0) :: (6, .iload 1) :: (7, .invokevirtual 394) :: (10, .invokevirtual 397) :: (13, .ireturn) :: []
def cd_X11_mayPancake : List (Nat × Instr) := cd_X11_mayPancake_0
set_option maxRecDepth 100000 in
theorem at_X11_mayPancake_0 : ev_at cd_X11_mayPancake 0 = cd_X11_mayPancake_0 := rfl
abbrev tb_X11_mayPerson (r : Nat) : ev_Tb := (ev_lu fl_X11, ev_lu (ca_X11 r), ev_lu th_X11, ev_lu ko_X11, ev_lu kl_X11, 2, true)
def cd_X11_mayPerson_0 : List (Nat × Instr) := (0, .aload 0) :: (1, .aload 0) :: (2, .getfield 47) :: (5, .aload 0) :: (6, .iload 1) :: (7, .invokevirtual 401) :: (10, .invokevirtual 397) :: (13, .ireturn) :: []
def cd_X11_mayPerson : List (Nat × Instr) := cd_X11_mayPerson_0
set_option maxRecDepth 100000 in
theorem at_X11_mayPerson_0 : ev_at cd_X11_mayPerson 0 = cd_X11_mayPerson_0 := rfl
abbrev tb_X11_areBoth (r : Nat) : ev_Tb := (ev_lu fl_X11, ev_lu (ca_X11 r), ev_lu th_X11, ev_lu ko_X11, ev_lu kl_X11, 3, true)
def cd_X11_areBoth_21 : List (Nat × Instr) := (21, .ireturn) :: []
def cd_X11_areBoth_20 : List (Nat × Instr) := (20, .iconst 0) :: cd_X11_areBoth_21
def cd_X11_areBoth_0 : List (Nat × Instr) := (0, .aload 0) :: (1, .iload 1) :: (2, .invokevirtual 401) :: (5, .ifCond .eq 20) :: (8, .aload 0) :: (9, .iload 2) :: (10, .invokevirtual 394) :: (13, .ifCond .eq 20) :: (16, .iconst 1) :: (17, .goto 21) :: cd_X11_areBoth_20
def cd_X11_areBoth : List (Nat × Instr) := cd_X11_areBoth_0
set_option maxRecDepth 100000 in
theorem at_X11_areBoth_21 : ev_at cd_X11_areBoth 21 = cd_X11_areBoth_21 := rfl
set_option maxRecDepth 100000 in
theorem at_X11_areBoth_20 : ev_at cd_X11_areBoth 20 = cd_X11_areBoth_20 := rfl
set_option maxRecDepth 100000 in
theorem at_X11_areBoth_0 : ev_at cd_X11_areBoth 0 = cd_X11_areBoth_0 := rfl
abbrev tb_X11_mayBoth (r : Nat) : ev_Tb := (ev_lu fl_X11, ev_lu (ca_X11 r), ev_lu th_X11, ev_lu ko_X11, ev_lu kl_X11, 3, true)
def cd_X11_mayBoth_0 : List (Nat × Instr) := (0, .aload 0) :: (1, .aload 0) :: (2, .getfield 47) :: (5, .aload 0) :: (6, .iload 1) :: (7, .iload 2) :: (8, .invokevirtual 404) :: (11, .invokevirtual 397) :: (14, .ireturn) :: []
def cd_X11_mayBoth : List (Nat × Instr) := cd_X11_mayBoth_0
set_option maxRecDepth 100000 in
theorem at_X11_mayBoth_0 : ev_at cd_X11_mayBoth 0 = cd_X11_mayBoth_0 := rfl
abbrev tb_X11_look (r : Nat) : ev_Tb := (ev_lu fl_X11, ev_lu (ca_X11 r), ev_lu th_X11, ev_lu ko_X11, ev_lu kl_X11, 2, false)
def cd_X11_look_17 : List (Nat × Instr) := (17, .ireturn) :: []
def cd_X11_look_16 : List (Nat × Instr) := (16, .iconst 0) :: cd_X11_look_17
def cd_X11_look_0 : List (Nat × Instr) := (0, .aload 0) :: (1, .invokevirtual 407) :: (4, .ifCond .eq 16) :: (7, .aload 0) :: (8, .getfield 9) :: (11, .iload 1) :: (12, .iaload) :: (13, .goto 17) :: cd_X11_look_16
def cd_X11_look : List (Nat × Instr) := cd_X11_look_0
set_option maxRecDepth 100000 in
theorem at_X11_look_17 : ev_at cd_X11_look 17 = cd_X11_look_17 := rfl
set_option maxRecDepth 100000 in
theorem at_X11_look_16 : ev_at cd_X11_look 16 = cd_X11_look_16 := rfl
set_option maxRecDepth 100000 in
theorem at_X11_look_0 : ev_at cd_X11_look 0 = cd_X11_look_0 := rfl
abbrev tb_X11_lookCake (r : Nat) : ev_Tb := (ev_lu fl_X11, ev_lu (ca_X11 r), ev_lu th_X11, ev_lu ko_X11, ev_lu kl_X11, 3, false)
def cd_X11_lookCake_18 : List (Nat × Instr) := (18, .ireturn) :: []
def cd_X11_lookCake_17 : List (Nat × Instr) := (17, .iconst 0) :: cd_X11_lookCake_18
def cd_X11_lookCake_0 : List (Nat × Instr) := (0, .aload 0) :: (1, .iload 1) :: (2, .invokevirtual 411) :: (5, .ifCond .eq 17) :: (8, .aload 0) :: (9, .iload 1) :: (10, .iload 2) :: (11, .invokevirtual 195) :: (14, .goto 18) :: cd_X11_lookCake_17
def cd_X11_lookCake : List (Nat × Instr) := cd_X11_lookCake_0
set_option maxRecDepth 100000 in
theorem at_X11_lookCake_18 : ev_at cd_X11_lookCake 18 = cd_X11_lookCake_18 := rfl
set_option maxRecDepth 100000 in
theorem at_X11_lookCake_17 : ev_at cd_X11_lookCake 17 = cd_X11_lookCake_17 := rfl
set_option maxRecDepth 100000 in
theorem at_X11_lookCake_0 : ev_at cd_X11_lookCake 0 = cd_X11_lookCake_0 := rfl
abbrev tb_X11_lookPerson (r : Nat) : ev_Tb := (ev_lu fl_X11, ev_lu (ca_X11 r), ev_lu th_X11, ev_lu ko_X11, ev_lu kl_X11, 3, false)
def cd_X11_lookPerson_18 : List (Nat × Instr) := (18, .ireturn) :: []
def cd_X11_lookPerson_17 : List (Nat × Instr) := (17, .iconst 0) :: cd_X11_lookPerson_18
def cd_X11_lookPerson_0 : List (Nat × Instr) := (0, .aload 0) :: (1, .iload 1) :: (2, .invokevirtual 414) :: (5, .ifCond .eq 17) :: (8, .aload 0) :: (9, .iload 1) :: (10, .iload 2) :: (11, .invokevirtual 121) :: (14, .goto 18) :: cd_X11_lookPerson_17
def cd_X11_lookPerson : List (Nat × Instr) := cd_X11_lookPerson_0
set_option maxRecDepth 100000 in
theorem at_X11_lookPerson_18 : ev_at cd_X11_lookPerson 18 = cd_X11_lookPerson_18 := rfl
set_option maxRecDepth 100000 in
theorem at_X11_lookPerson_17 : ev_at cd_X11_lookPerson 17 = cd_X11_lookPerson_17 := rfl
set_option maxRecDepth 100000 in
theorem at_X11_lookPerson_0 : ev_at cd_X11_lookPerson 0 = cd_X11_lookPerson_0 := rfl
abbrev tb_X11_pancakeCount (r : Nat) : ev_Tb := (ev_lu fl_X11, ev_lu (ca_X11 r), ev_lu th_X11, ev_lu ko_X11, ev_lu kl_X11, 1, false)
def cd_X11_pancakeCount_0 : List (Nat × Instr) := (0, .aload 0) :: (1, .iconst 1) :: (2, .invokevirtual 417) :: (5, .ireturn) :: []
def cd_X11_pancakeCount : List (Nat × Instr) := cd_X11_pancakeCount_0
set_option maxRecDepth 100000 in
theorem at_X11_pancakeCount_0 : ev_at cd_X11_pancakeCount 0 = cd_X11_pancakeCount_0 := rfl
abbrev tb_X11_topicOf (r : Nat) : ev_Tb := (ev_lu fl_X11, ev_lu (ca_X11 r), ev_lu th_X11, ev_lu ko_X11, ev_lu kl_X11, 2, false)
def cd_X11_topicOf_0 : List (Nat × Instr) := (0, .aload 0) :: (1, .iload 1) :: (2, .iconst 0) :: (3, .invokevirtual 420) :: (6, .ireturn) :: []
def cd_X11_topicOf : List (Nat × Instr) := cd_X11_topicOf_0
set_option maxRecDepth 100000 in
theorem at_X11_topicOf_0 : ev_at cd_X11_topicOf 0 = cd_X11_topicOf_0 := rfl
abbrev tb_X11_cookCount (r : Nat) : ev_Tb := (ev_lu fl_X11, ev_lu (ca_X11 r), ev_lu th_X11, ev_lu ko_X11, ev_lu kl_X11, 2, false)
def cd_X11_cookCount_0 : List (Nat × Instr) := (0, .aload 0) :: (1, .iload 1) :: (2, .iconst 1) :: (3, .invokevirtual 420) :: (6, .ireturn) :: []
def cd_X11_cookCount : List (Nat × Instr) := cd_X11_cookCount_0
set_option maxRecDepth 100000 in
theorem at_X11_cookCount_0 : ev_at cd_X11_cookCount 0 = cd_X11_cookCount_0 := rfl
abbrev tb_X11_lookAt (r : Nat) : ev_Tb := (ev_lu fl_X11, ev_lu (ca_X11 r), ev_lu th_X11, ev_lu ko_X11, ev_lu kl_X11, 6, false)
def cd_X11_lookAt_57 : List (Nat × Instr) := (57, .ireturn) :: []
def cd_X11_lookAt_56 : List (Nat × Instr) := (56, .iconst 0) :: cd_X11_lookAt_57
def cd_X11_lookAt_38 : List (Nat × Instr) := (38, .invokevirtual 397) :: (41, .ifCond .eq 56) :: (44, .aload 0) :: (45, .iload 1) :: (46, .iload 4) :: (48, .iload 2) :: (49, .iadd) :: (50, .invokevirtual 195) :: (53, .goto 57) :: cd_X11_lookAt_56
def cd_X11_lookAt_37 : List (Nat × Instr) := (37, .iconst 0) :: cd_X11_lookAt_38
def cd_X11_lookAt_0 : List (Nat × Instr) := (0, .aload 0) :: (1, .iload 1) :: (2, .invokevirtual 394) :: (5, .istore 5) :: (7, .aload 0) :: (8, .aload 0) :: (9, .getfield 47) :: (12, .iload 5) :: (14, .ifCond .eq 37) :: (17, .iload 2) :: (18, .iconst 0) :: (19, .aload 0) :: (20, .iload 1) :: (21, .iload 3) :: (22, .invokevirtual 195) :: (25, .iconst 1) :: (26, .isub) :: (27, .invokestatic 72) :: (30, .ifCond .eq 37) :: (33, .iconst 1) :: (34, .goto 38) :: cd_X11_lookAt_37
def cd_X11_lookAt : List (Nat × Instr) := cd_X11_lookAt_0
set_option maxRecDepth 100000 in
theorem at_X11_lookAt_57 : ev_at cd_X11_lookAt 57 = cd_X11_lookAt_57 := rfl
set_option maxRecDepth 100000 in
theorem at_X11_lookAt_56 : ev_at cd_X11_lookAt 56 = cd_X11_lookAt_56 := rfl
set_option maxRecDepth 100000 in
theorem at_X11_lookAt_38 : ev_at cd_X11_lookAt 38 = cd_X11_lookAt_38 := rfl
set_option maxRecDepth 100000 in
theorem at_X11_lookAt_37 : ev_at cd_X11_lookAt 37 = cd_X11_lookAt_37 := rfl
set_option maxRecDepth 100000 in
theorem at_X11_lookAt_0 : ev_at cd_X11_lookAt 0 = cd_X11_lookAt_0 := rfl
abbrev tb_X11_cookAt (r : Nat) : ev_Tb := (ev_lu fl_X11, ev_lu (ca_X11 r), ev_lu th_X11, ev_lu ko_X11, ev_lu kl_X11, 3, false)
def cd_X11_cookAt_0 : List (Nat × Instr) := (0, .aload 0) :: (1, .iload 1) :: (2, .iload 2) :: (3, .iconst 1) :: (4, .iconst 2) :: (5, .invokevirtual 423) :: (8, .ireturn) :: []
def cd_X11_cookAt : List (Nat × Instr) := cd_X11_cookAt_0
set_option maxRecDepth 100000 in
theorem at_X11_cookAt_0 : ev_at cd_X11_cookAt 0 = cd_X11_cookAt_0 := rfl
abbrev tb_X11_personCount (r : Nat) : ev_Tb := (ev_lu fl_X11, ev_lu (ca_X11 r), ev_lu th_X11, ev_lu ko_X11, ev_lu kl_X11, 1, false)
def cd_X11_personCount_0 : List (Nat × Instr) := (0, .aload 0) :: (1, .iconst 0) :: (2, .invokevirtual 417) :: (5, .ireturn) :: []
def cd_X11_personCount : List (Nat × Instr) := cd_X11_personCount_0
set_option maxRecDepth 100000 in
theorem at_X11_personCount_0 : ev_at cd_X11_personCount 0 = cd_X11_personCount_0 := rfl
abbrev tb_X11_nameLetter (r : Nat) : ev_Tb := (ev_lu fl_X11, ev_lu (ca_X11 r), ev_lu th_X11, ev_lu ko_X11, ev_lu kl_X11, 3, false)
def cd_X11_nameLetter_40 : List (Nat × Instr) := (40, .ireturn) :: []
def cd_X11_nameLetter_39 : List (Nat × Instr) := (39, .iconst (-1)) :: cd_X11_nameLetter_40
def cd_X11_nameLetter_10 : List (Nat × Instr) := (10, .iload 2) :: (11, .iconst 0) :: (12, .aload 0) :: (13, .iload 1) :: (14, .bipush 6) :: (16, .invokevirtual 121) :: (19, .iconst 1) :: (20, .isub) :: (21, .invokestatic 72) :: (24, .ifCond .eq 39) :: (27, .aload 0) :: (28, .iload 1) :: (29, .bipush 7) :: (31, .iload 2) :: (32, .iadd) :: (33, .invokevirtual 121) :: (36, .goto 40) :: cd_X11_nameLetter_39
def cd_X11_nameLetter_0 : List (Nat × Instr) := (0, .aload 0) :: (1, .iload 1) :: (2, .invokevirtual 414) :: (5, .ifCond .ne 10) :: (8, .iconst 0) :: (9, .ireturn) :: cd_X11_nameLetter_10
def cd_X11_nameLetter : List (Nat × Instr) := cd_X11_nameLetter_0
set_option maxRecDepth 100000 in
theorem at_X11_nameLetter_40 : ev_at cd_X11_nameLetter 40 = cd_X11_nameLetter_40 := rfl
set_option maxRecDepth 100000 in
theorem at_X11_nameLetter_39 : ev_at cd_X11_nameLetter 39 = cd_X11_nameLetter_39 := rfl
set_option maxRecDepth 100000 in
theorem at_X11_nameLetter_10 : ev_at cd_X11_nameLetter 10 = cd_X11_nameLetter_10 := rfl
set_option maxRecDepth 100000 in
theorem at_X11_nameLetter_0 : ev_at cd_X11_nameLetter 0 = cd_X11_nameLetter_0 := rfl
abbrev tb_X11_kitchenOf (r : Nat) : ev_Tb := (ev_lu fl_X11, ev_lu (ca_X11 r), ev_lu th_X11, ev_lu ko_X11, ev_lu kl_X11, 2, false)
def cd_X11_kitchenOf_0 : List (Nat × Instr) := (0, .aload 0) :: (1, .iload 1) :: (2, .iconst 0) :: (3, .invokevirtual 427) :: (6, .ireturn) :: []
def cd_X11_kitchenOf : List (Nat × Instr) := cd_X11_kitchenOf_0
set_option maxRecDepth 100000 in
theorem at_X11_kitchenOf_0 : ev_at cd_X11_kitchenOf 0 = cd_X11_kitchenOf_0 := rfl
abbrev tb_X11_isTaster (r : Nat) : ev_Tb := (ev_lu fl_X11, ev_lu (ca_X11 r), ev_lu th_X11, ev_lu ko_X11, ev_lu kl_X11, 2, true)
def cd_X11_isTaster_21 : List (Nat × Instr) := (21, .ireturn) :: []
def cd_X11_isTaster_20 : List (Nat × Instr) := (20, .iconst 0) :: cd_X11_isTaster_21
def cd_X11_isTaster_0 : List (Nat × Instr) := (0, .aload 0) :: (1, .iload 1) :: (2, .invokevirtual 414) :: (5, .ifCond .eq 20) :: (8, .aload 0) :: (9, .iload 1) :: (10, .invokevirtual 140) :: (13, .ifCond .eq 20) :: (16, .iconst 1) :: (17, .goto 21) :: cd_X11_isTaster_20
def cd_X11_isTaster : List (Nat × Instr) := cd_X11_isTaster_0
set_option maxRecDepth 100000 in
theorem at_X11_isTaster_21 : ev_at cd_X11_isTaster 21 = cd_X11_isTaster_21 := rfl
set_option maxRecDepth 100000 in
theorem at_X11_isTaster_20 : ev_at cd_X11_isTaster 20 = cd_X11_isTaster_20 := rfl
set_option maxRecDepth 100000 in
theorem at_X11_isTaster_0 : ev_at cd_X11_isTaster 0 = cd_X11_isTaster_0 := rfl
abbrev tb_X11_limitOf (r : Nat) : ev_Tb := (ev_lu fl_X11, ev_lu (ca_X11 r), ev_lu th_X11, ev_lu ko_X11, ev_lu kl_X11, 2, false)
def cd_X11_limitOf_0 : List (Nat × Instr) := (0, .aload 0) :: (1, .iload 1) :: (2, .iconst 1) :: (3, .invokevirtual 427) :: (6, .ireturn) :: []
def cd_X11_limitOf : List (Nat × Instr) := cd_X11_limitOf_0
set_option maxRecDepth 100000 in
theorem at_X11_limitOf_0 : ev_at cd_X11_limitOf 0 = cd_X11_limitOf_0 := rfl
abbrev tb_X11_tasteOf (r : Nat) : ev_Tb := (ev_lu fl_X11, ev_lu (ca_X11 r), ev_lu th_X11, ev_lu ko_X11, ev_lu kl_X11, 3, false)
def cd_X11_tasteOf_45 : List (Nat × Instr) := (45, .ireturn) :: []
def cd_X11_tasteOf_44 : List (Nat × Instr) := (44, .iconst 0) :: cd_X11_tasteOf_45
def cd_X11_tasteOf_27 : List (Nat × Instr) := (27, .invokevirtual 397) :: (30, .ifCond .eq 44) :: (33, .aload 0) :: (34, .iload 1) :: (35, .iconst 2) :: (36, .iload 2) :: (37, .iadd) :: (38, .invokevirtual 121) :: (41, .goto 45) :: cd_X11_tasteOf_44
def cd_X11_tasteOf_26 : List (Nat × Instr) := (26, .iconst 0) :: cd_X11_tasteOf_27
def cd_X11_tasteOf_0 : List (Nat × Instr) := (0, .aload 0) :: (1, .aload 0) :: (2, .getfield 47) :: (5, .aload 0) :: (6, .iload 1) :: (7, .invokevirtual 401) :: (10, .ifCond .eq 26) :: (13, .iload 2) :: (14, .iconst 0) :: (15, .iconst 3) :: (16, .invokestatic 72) :: (19, .ifCond .eq 26) :: (22, .iconst 1) :: (23, .goto 27) :: cd_X11_tasteOf_26
def cd_X11_tasteOf : List (Nat × Instr) := cd_X11_tasteOf_0
set_option maxRecDepth 100000 in
theorem at_X11_tasteOf_45 : ev_at cd_X11_tasteOf 45 = cd_X11_tasteOf_45 := rfl
set_option maxRecDepth 100000 in
theorem at_X11_tasteOf_44 : ev_at cd_X11_tasteOf 44 = cd_X11_tasteOf_44 := rfl
set_option maxRecDepth 100000 in
theorem at_X11_tasteOf_27 : ev_at cd_X11_tasteOf 27 = cd_X11_tasteOf_27 := rfl
set_option maxRecDepth 100000 in
theorem at_X11_tasteOf_26 : ev_at cd_X11_tasteOf 26 = cd_X11_tasteOf_26 := rfl
set_option maxRecDepth 100000 in
theorem at_X11_tasteOf_0 : ev_at cd_X11_tasteOf 0 = cd_X11_tasteOf_0 := rfl
abbrev tb_X11_bidOf (r : Nat) : ev_Tb := (ev_lu fl_X11, ev_lu (ca_X11 r), ev_lu th_X11, ev_lu ko_X11, ev_lu kl_X11, 3, false)
def cd_X11_bidOf_22 : List (Nat × Instr) := (22, .ireturn) :: []
def cd_X11_bidOf_21 : List (Nat × Instr) := (21, .iconst 0) :: cd_X11_bidOf_22
def cd_X11_bidOf_0 : List (Nat × Instr) := (0, .aload 0) :: (1, .iload 1) :: (2, .iload 2) :: (3, .invokevirtual 430) :: (6, .ifCond .eq 21) :: (9, .aload 0) :: (10, .iload 1) :: (11, .bipush 13) :: (13, .iload 2) :: (14, .iadd) :: (15, .invokevirtual 121) :: (18, .goto 22) :: cd_X11_bidOf_21
def cd_X11_bidOf : List (Nat × Instr) := cd_X11_bidOf_0
set_option maxRecDepth 100000 in
theorem at_X11_bidOf_22 : ev_at cd_X11_bidOf 22 = cd_X11_bidOf_22 := rfl
set_option maxRecDepth 100000 in
theorem at_X11_bidOf_21 : ev_at cd_X11_bidOf 21 = cd_X11_bidOf_21 := rfl
set_option maxRecDepth 100000 in
theorem at_X11_bidOf_0 : ev_at cd_X11_bidOf 0 = cd_X11_bidOf_0 := rfl
abbrev tb_X11_preference (r : Nat) : ev_Tb := (ev_lu fl_X11, ev_lu (ca_X11 r), ev_lu th_X11, ev_lu ko_X11, ev_lu kl_X11, 3, false)
def cd_X11_preference_19 : List (Nat × Instr) := (19, .ireturn) :: []
def cd_X11_preference_18 : List (Nat × Instr) := (18, .iconst 0) :: cd_X11_preference_19
def cd_X11_preference_0 : List (Nat × Instr) := (0, .aload 0) :: (1, .iload 1) :: (2, .iload 2) :: (3, .invokevirtual 430) :: (6, .ifCond .eq 18) :: (9, .aload 0) :: (10, .iload 1) :: (11, .iload 2) :: (12, .invokevirtual 335) :: (15, .goto 19) :: cd_X11_preference_18
def cd_X11_preference : List (Nat × Instr) := cd_X11_preference_0
set_option maxRecDepth 100000 in
theorem at_X11_preference_19 : ev_at cd_X11_preference 19 = cd_X11_preference_19 := rfl
set_option maxRecDepth 100000 in
theorem at_X11_preference_18 : ev_at cd_X11_preference 18 = cd_X11_preference_18 := rfl
set_option maxRecDepth 100000 in
theorem at_X11_preference_0 : ev_at cd_X11_preference 0 = cd_X11_preference_0 := rfl
abbrev tb_X11_conflict (r : Nat) : ev_Tb := (ev_lu fl_X11, ev_lu (ca_X11 r), ev_lu th_X11, ev_lu ko_X11, ev_lu kl_X11, 3, false)
def cd_X11_conflict_19 : List (Nat × Instr) := (19, .ireturn) :: []
def cd_X11_conflict_18 : List (Nat × Instr) := (18, .iconst 0) :: cd_X11_conflict_19
def cd_X11_conflict_0 : List (Nat × Instr) := (0, .aload 0) :: (1, .iload 1) :: (2, .iload 2) :: (3, .invokevirtual 430) :: (6, .ifCond .eq 18) :: (9, .aload 0) :: (10, .iload 1) :: (11, .iload 2) :: (12, .invokevirtual 329) :: (15, .goto 19) :: cd_X11_conflict_18
def cd_X11_conflict : List (Nat × Instr) := cd_X11_conflict_0
set_option maxRecDepth 100000 in
theorem at_X11_conflict_19 : ev_at cd_X11_conflict 19 = cd_X11_conflict_19 := rfl
set_option maxRecDepth 100000 in
theorem at_X11_conflict_18 : ev_at cd_X11_conflict 18 = cd_X11_conflict_18 := rfl
set_option maxRecDepth 100000 in
theorem at_X11_conflict_0 : ev_at cd_X11_conflict 0 = cd_X11_conflict_0 := rfl
abbrev tb_X11_favoriteOf (r : Nat) : ev_Tb := (ev_lu fl_X11, ev_lu (ca_X11 r), ev_lu th_X11, ev_lu ko_X11, ev_lu kl_X11, 4, false)
def cd_X11_favoriteOf_61 : List (Nat × Instr) := (61, .iload 2) :: (62, .ireturn) :: []
def cd_X11_favoriteOf_55 : List (Nat × Instr) := (55, .iinc 3 1) :: (58, .goto 14) :: cd_X11_favoriteOf_61
def cd_X11_favoriteOf_53 : List (Nat × Instr) := (53, .iload 3) :: (54, .istore 2) :: cd_X11_favoriteOf_55
def cd_X11_favoriteOf_14 : List (Nat × Instr) := (14, .iload 3) :: (15, .aload 0) :: (16, .getfield 9) :: (19, .iconst 1) :: (20, .iaload) :: (21, .if_icmp .ge 61) :: (24, .aload 0) :: (25, .iload 1) :: (26, .iload 3) :: (27, .invokevirtual 329) :: (30, .ifCond .ne 55) :: (33, .iload 2) :: (34, .iconst (-1)) :: (35, .if_icmp .eq 53) :: (38, .aload 0) :: (39, .iload 1) :: (40, .iload 3) :: (41, .invokevirtual 335) :: (44, .aload 0) :: (45, .iload 1) :: (46, .iload 2) :: (47, .invokevirtual 335) :: (50, .if_icmp .le 55) :: cd_X11_favoriteOf_53
def cd_X11_favoriteOf_10 : List (Nat × Instr) := (10, .iconst (-1)) :: (11, .istore 2) :: (12, .iconst 0) :: (13, .istore 3) :: cd_X11_favoriteOf_14
def cd_X11_favoriteOf_0 : List (Nat × Instr) := (0, .aload 0) :: (1, .iload 1) :: (2, .invokevirtual 414) :: (5, .ifCond .ne 10) :: (8, .iconst 0) :: (9, .ireturn) :: cd_X11_favoriteOf_10
def cd_X11_favoriteOf : List (Nat × Instr) := cd_X11_favoriteOf_0
set_option maxRecDepth 100000 in
theorem at_X11_favoriteOf_61 : ev_at cd_X11_favoriteOf 61 = cd_X11_favoriteOf_61 := rfl
set_option maxRecDepth 100000 in
theorem at_X11_favoriteOf_55 : ev_at cd_X11_favoriteOf 55 = cd_X11_favoriteOf_55 := rfl
set_option maxRecDepth 100000 in
theorem at_X11_favoriteOf_53 : ev_at cd_X11_favoriteOf 53 = cd_X11_favoriteOf_53 := rfl
set_option maxRecDepth 100000 in
theorem at_X11_favoriteOf_14 : ev_at cd_X11_favoriteOf 14 = cd_X11_favoriteOf_14 := rfl
set_option maxRecDepth 100000 in
theorem at_X11_favoriteOf_10 : ev_at cd_X11_favoriteOf 10 = cd_X11_favoriteOf_10 := rfl
set_option maxRecDepth 100000 in
theorem at_X11_favoriteOf_0 : ev_at cd_X11_favoriteOf 0 = cd_X11_favoriteOf_0 := rfl
abbrev tb_X11_conflictCount (r : Nat) : ev_Tb := (ev_lu fl_X11, ev_lu (ca_X11 r), ev_lu th_X11, ev_lu ko_X11, ev_lu kl_X11, 4, false)
def cd_X11_conflictCount_58 : List (Nat × Instr) := (58, .iload 2) :: (59, .ireturn) :: []
def cd_X11_conflictCount_47 : List (Nat × Instr) := (47, .invokestatic 325) :: (50, .iadd) :: (51, .istore 2) :: (52, .iinc 3 1) :: (55, .goto 14) :: cd_X11_conflictCount_58
def cd_X11_conflictCount_46 : List (Nat × Instr) := (46, .iconst 0) :: cd_X11_conflictCount_47
def cd_X11_conflictCount_14 : List (Nat × Instr) := (14, .iload 3) :: (15, .aload 0) :: (16, .getfield 9) :: (19, .iconst 0) :: (20, .iaload) :: (21, .if_icmp .ge 58) :: (24, .iload 2) :: (25, .aload 0) :: (26, .iload 3) :: (27, .invokevirtual 140) :: (30, .ifCond .eq 46) :: (33, .aload 0) :: (34, .iload 3) :: (35, .iload 1) :: (36, .invokevirtual 329) :: (39, .ifCond .eq 46) :: (42, .iconst 1) :: (43, .goto 47) :: cd_X11_conflictCount_46
def cd_X11_conflictCount_10 : List (Nat × Instr) := (10, .iconst 0) :: (11, .istore 2) :: (12, .iconst 0) :: (13, .istore 3) :: cd_X11_conflictCount_14
def cd_X11_conflictCount_0 : List (Nat × Instr) := (0, .aload 0) :: (1, .iload 1) :: (2, .invokevirtual 411) :: (5, .ifCond .ne 10) :: (8, .iconst 0) :: (9, .ireturn) :: cd_X11_conflictCount_10
def cd_X11_conflictCount : List (Nat × Instr) := cd_X11_conflictCount_0
set_option maxRecDepth 100000 in
theorem at_X11_conflictCount_58 : ev_at cd_X11_conflictCount 58 = cd_X11_conflictCount_58 := rfl
set_option maxRecDepth 100000 in
theorem at_X11_conflictCount_47 : ev_at cd_X11_conflictCount 47 = cd_X11_conflictCount_47 := rfl
set_option maxRecDepth 100000 in
theorem at_X11_conflictCount_46 : ev_at cd_X11_conflictCount 46 = cd_X11_conflictCount_46 := rfl
set_option maxRecDepth 100000 in
theorem at_X11_conflictCount_14 : ev_at cd_X11_conflictCount 14 = cd_X11_conflictCount_14 := rfl
set_option maxRecDepth 100000 in
theorem at_X11_conflictCount_10 : ev_at cd_X11_conflictCount 10 = cd_X11_conflictCount_10 := rfl
set_option maxRecDepth 100000 in
theorem at_X11_conflictCount_0 : ev_at cd_X11_conflictCount 0 = cd_X11_conflictCount_0 := rfl
abbrev tb_X11_seatCount (r : Nat) : ev_Tb := (ev_lu fl_X11, ev_lu (ca_X11 r), ev_lu th_X11, ev_lu ko_X11, ev_lu kl_X11, 2, false)
def cd_X11_seatCount_0 : List (Nat × Instr) := (0, .aload 0) :: (1, .iload 1) :: (2, .iconst 5) :: (3, .invokevirtual 420) :: (6, .ireturn) :: []
def cd_X11_seatCount : List (Nat × Instr) := cd_X11_seatCount_0
set_option maxRecDepth 100000 in
theorem at_X11_seatCount_0 : ev_at cd_X11_seatCount 0 = cd_X11_seatCount_0 := rfl
abbrev tb_X11_seatAt (r : Nat) : ev_Tb := (ev_lu fl_X11, ev_lu (ca_X11 r), ev_lu th_X11, ev_lu ko_X11, ev_lu kl_X11, 3, false)
def cd_X11_seatAt_0 : List (Nat × Instr) := (0, .aload 0) :: (1, .iload 1) :: (2, .iload 2) :: (3, .iconst 5) :: (4, .bipush 6) :: (6, .invokevirtual 423) :: (9, .ireturn) :: []
def cd_X11_seatAt : List (Nat × Instr) := cd_X11_seatAt_0
set_option maxRecDepth 100000 in
theorem at_X11_seatAt_0 : ev_at cd_X11_seatAt 0 = cd_X11_seatAt_0 := rfl
abbrev tb_X11_loadOf (r : Nat) : ev_Tb := (ev_lu fl_X11, ev_lu (ca_X11 r), ev_lu th_X11, ev_lu ko_X11, ev_lu kl_X11, 2, false)
def cd_X11_loadOf_17 : List (Nat × Instr) := (17, .ireturn) :: []
def cd_X11_loadOf_16 : List (Nat × Instr) := (16, .iconst 0) :: cd_X11_loadOf_17
def cd_X11_loadOf_0 : List (Nat × Instr) := (0, .aload 0) :: (1, .iload 1) :: (2, .invokevirtual 414) :: (5, .ifCond .eq 16) :: (8, .aload 0) :: (9, .iload 1) :: (10, .invokevirtual 332) :: (13, .goto 17) :: cd_X11_loadOf_16
def cd_X11_loadOf : List (Nat × Instr) := cd_X11_loadOf_0
set_option maxRecDepth 100000 in
theorem at_X11_loadOf_17 : ev_at cd_X11_loadOf 17 = cd_X11_loadOf_17 := rfl
set_option maxRecDepth 100000 in
theorem at_X11_loadOf_16 : ev_at cd_X11_loadOf 16 = cd_X11_loadOf_16 := rfl
set_option maxRecDepth 100000 in
theorem at_X11_loadOf_0 : ev_at cd_X11_loadOf 0 = cd_X11_loadOf_0 := rfl
abbrev tb_X11_refusal (r : Nat) : ev_Tb := (ev_lu fl_X11, ev_lu (ca_X11 r), ev_lu th_X11, ev_lu ko_X11, ev_lu kl_X11, 3, false)
def cd_X11_refusal_19 : List (Nat × Instr) := (19, .ireturn) :: []
def cd_X11_refusal_18 : List (Nat × Instr) := (18, .iconst 0) :: cd_X11_refusal_19
def cd_X11_refusal_0 : List (Nat × Instr) := (0, .aload 0) :: (1, .iload 1) :: (2, .iload 2) :: (3, .invokevirtual 430) :: (6, .ifCond .eq 18) :: (9, .aload 0) :: (10, .iload 1) :: (11, .iload 2) :: (12, .invokevirtual 171) :: (15, .goto 19) :: cd_X11_refusal_18
def cd_X11_refusal : List (Nat × Instr) := cd_X11_refusal_0
set_option maxRecDepth 100000 in
theorem at_X11_refusal_19 : ev_at cd_X11_refusal 19 = cd_X11_refusal_19 := rfl
set_option maxRecDepth 100000 in
theorem at_X11_refusal_18 : ev_at cd_X11_refusal 18 = cd_X11_refusal_18 := rfl
set_option maxRecDepth 100000 in
theorem at_X11_refusal_0 : ev_at cd_X11_refusal 0 = cd_X11_refusal_0 := rfl
abbrev tb_X11_bestTaster (r : Nat) : ev_Tb := (ev_lu fl_X11, ev_lu (ca_X11 r), ev_lu th_X11, ev_lu ko_X11, ev_lu kl_X11, 2, false)
def cd_X11_bestTaster_17 : List (Nat × Instr) := (17, .ireturn) :: []
def cd_X11_bestTaster_16 : List (Nat × Instr) := (16, .iconst 0) :: cd_X11_bestTaster_17
def cd_X11_bestTaster_0 : List (Nat × Instr) := (0, .aload 0) :: (1, .iload 1) :: (2, .invokevirtual 411) :: (5, .ifCond .eq 16) :: (8, .aload 0) :: (9, .iload 1) :: (10, .invokevirtual 344) :: (13, .goto 17) :: cd_X11_bestTaster_16
def cd_X11_bestTaster : List (Nat × Instr) := cd_X11_bestTaster_0
set_option maxRecDepth 100000 in
theorem at_X11_bestTaster_17 : ev_at cd_X11_bestTaster 17 = cd_X11_bestTaster_17 := rfl
set_option maxRecDepth 100000 in
theorem at_X11_bestTaster_16 : ev_at cd_X11_bestTaster 16 = cd_X11_bestTaster_16 := rfl
set_option maxRecDepth 100000 in
theorem at_X11_bestTaster_0 : ev_at cd_X11_bestTaster 0 = cd_X11_bestTaster_0 := rfl
abbrev tb_X11_lacking (r : Nat) : ev_Tb := (ev_lu fl_X11, ev_lu (ca_X11 r), ev_lu th_X11, ev_lu ko_X11, ev_lu kl_X11, 1, false)
def cd_X11_lacking_15 : List (Nat × Instr) := (15, .ireturn) :: []
def cd_X11_lacking_14 : List (Nat × Instr) := (14, .iconst 0) :: cd_X11_lacking_15
def cd_X11_lacking_0 : List (Nat × Instr) := (0, .aload 0) :: (1, .invokevirtual 407) :: (4, .ifCond .eq 14) :: (7, .aload 0) :: (8, .invokevirtual 433) :: (11, .goto 15) :: cd_X11_lacking_14
def cd_X11_lacking : List (Nat × Instr) := cd_X11_lacking_0
set_option maxRecDepth 100000 in
theorem at_X11_lacking_15 : ev_at cd_X11_lacking 15 = cd_X11_lacking_15 := rfl
set_option maxRecDepth 100000 in
theorem at_X11_lacking_14 : ev_at cd_X11_lacking 14 = cd_X11_lacking_14 := rfl
set_option maxRecDepth 100000 in
theorem at_X11_lacking_0 : ev_at cd_X11_lacking 0 = cd_X11_lacking_0 := rfl
abbrev tb_X11_lackingAfterFilling (r : Nat) : ev_Tb := (ev_lu fl_X11, ev_lu (ca_X11 r), ev_lu th_X11, ev_lu ko_X11, ev_lu kl_X11, 2, false)
def cd_X11_lackingAfterFilling_9 : List (Nat × Instr) := (9, .aload 0) :: (10, .invokevirtual 313) :: (13, .aload 0) :: (14, .invokevirtual 177) :: (17, .istore 1) :: (18, .aload 0) :: (19, .aload 0) :: (20, .invokevirtual 433) :: (23, .invokevirtual 319) :: (26, .ireturn) :: []
def cd_X11_lackingAfterFilling_0 : List (Nat × Instr) := (0, .aload 0) :: (1, .invokevirtual 407) :: (4, .ifCond .ne 9) :: (7, .iconst 0) :: (8, .ireturn) :: cd_X11_lackingAfterFilling_9
def cd_X11_lackingAfterFilling : List (Nat × Instr) := cd_X11_lackingAfterFilling_0
set_option maxRecDepth 100000 in
theorem at_X11_lackingAfterFilling_9 : ev_at cd_X11_lackingAfterFilling 9 = cd_X11_lackingAfterFilling_9 := rfl
set_option maxRecDepth 100000 in
theorem at_X11_lackingAfterFilling_0 : ev_at cd_X11_lackingAfterFilling 0 = cd_X11_lackingAfterFilling_0 := rfl
abbrev tb_X11_scoreOf (r : Nat) : ev_Tb := (ev_lu fl_X11, ev_lu (ca_X11 r), ev_lu th_X11, ev_lu ko_X11, ev_lu kl_X11, 3, false)
def cd_X11_scoreOf_22 : List (Nat × Instr) := (22, .ireturn) :: []
def cd_X11_scoreOf_21 : List (Nat × Instr) := (21, .iconst 0) :: cd_X11_scoreOf_22
def cd_X11_scoreOf_0 : List (Nat × Instr) := (0, .aload 0) :: (1, .iload 1) :: (2, .iload 2) :: (3, .invokevirtual 430) :: (6, .ifCond .eq 21) :: (9, .aload 0) :: (10, .iload 1) :: (11, .bipush 23) :: (13, .iload 2) :: (14, .iadd) :: (15, .invokevirtual 121) :: (18, .goto 22) :: cd_X11_scoreOf_21
def cd_X11_scoreOf : List (Nat × Instr) := cd_X11_scoreOf_0
set_option maxRecDepth 100000 in
theorem at_X11_scoreOf_22 : ev_at cd_X11_scoreOf 22 = cd_X11_scoreOf_22 := rfl
set_option maxRecDepth 100000 in
theorem at_X11_scoreOf_21 : ev_at cd_X11_scoreOf 21 = cd_X11_scoreOf_21 := rfl
set_option maxRecDepth 100000 in
theorem at_X11_scoreOf_0 : ev_at cd_X11_scoreOf 0 = cd_X11_scoreOf_0 := rfl
abbrev tb_X11_scoreCount (r : Nat) : ev_Tb := (ev_lu fl_X11, ev_lu (ca_X11 r), ev_lu th_X11, ev_lu ko_X11, ev_lu kl_X11, 2, false)
def cd_X11_scoreCount_17 : List (Nat × Instr) := (17, .ireturn) :: []
def cd_X11_scoreCount_16 : List (Nat × Instr) := (16, .iconst 0) :: cd_X11_scoreCount_17
def cd_X11_scoreCount_0 : List (Nat × Instr) := (0, .aload 0) :: (1, .iload 1) :: (2, .invokevirtual 411) :: (5, .ifCond .eq 16) :: (8, .aload 0) :: (9, .iload 1) :: (10, .invokevirtual 189) :: (13, .goto 17) :: cd_X11_scoreCount_16
def cd_X11_scoreCount : List (Nat × Instr) := cd_X11_scoreCount_0
set_option maxRecDepth 100000 in
theorem at_X11_scoreCount_17 : ev_at cd_X11_scoreCount 17 = cd_X11_scoreCount_17 := rfl
set_option maxRecDepth 100000 in
theorem at_X11_scoreCount_16 : ev_at cd_X11_scoreCount 16 = cd_X11_scoreCount_16 := rfl
set_option maxRecDepth 100000 in
theorem at_X11_scoreCount_0 : ev_at cd_X11_scoreCount 0 = cd_X11_scoreCount_0 := rfl
abbrev tb_X11_meanOf (r : Nat) : ev_Tb := (ev_lu fl_X11, ev_lu (ca_X11 r), ev_lu th_X11, ev_lu ko_X11, ev_lu kl_X11, 2, false)
def cd_X11_meanOf_27 : List (Nat × Instr) := (27, .ireturn) :: []
def cd_X11_meanOf_22 : List (Nat × Instr) := (22, .aload 0) :: (23, .iload 1) :: (24, .invokevirtual 362) :: cd_X11_meanOf_27
def cd_X11_meanOf_10 : List (Nat × Instr) := (10, .aload 0) :: (11, .iload 1) :: (12, .invokevirtual 356) :: (15, .ifCond .ne 22) :: (18, .iconst (-1)) :: (19, .goto 27) :: cd_X11_meanOf_22
def cd_X11_meanOf_0 : List (Nat × Instr) := (0, .aload 0) :: (1, .iload 1) :: (2, .invokevirtual 414) :: (5, .ifCond .ne 10) :: (8, .iconst 0) :: (9, .ireturn) :: cd_X11_meanOf_10
def cd_X11_meanOf : List (Nat × Instr) := cd_X11_meanOf_0
set_option maxRecDepth 100000 in
theorem at_X11_meanOf_27 : ev_at cd_X11_meanOf 27 = cd_X11_meanOf_27 := rfl
set_option maxRecDepth 100000 in
theorem at_X11_meanOf_22 : ev_at cd_X11_meanOf 22 = cd_X11_meanOf_22 := rfl
set_option maxRecDepth 100000 in
theorem at_X11_meanOf_10 : ev_at cd_X11_meanOf 10 = cd_X11_meanOf_10 := rfl
set_option maxRecDepth 100000 in
theorem at_X11_meanOf_0 : ev_at cd_X11_meanOf 0 = cd_X11_meanOf_0 := rfl
abbrev tb_X11_adjustedScore (r : Nat) : ev_Tb := (ev_lu fl_X11, ev_lu (ca_X11 r), ev_lu th_X11, ev_lu ko_X11, ev_lu kl_X11, 3, false)
def cd_X11_adjustedScore_30 : List (Nat × Instr) := (30, .ireturn) :: []
def cd_X11_adjustedScore_29 : List (Nat × Instr) := (29, .iconst (-1)) :: cd_X11_adjustedScore_30
def cd_X11_adjustedScore_11 : List (Nat × Instr) := (11, .aload 0) :: (12, .iload 1) :: (13, .iload 2) :: (14, .invokevirtual 201) :: (17, .ifCond .eq 29) :: (20, .aload 0) :: (21, .iload 1) :: (22, .iload 2) :: (23, .invokevirtual 371) :: (26, .goto 30) :: cd_X11_adjustedScore_29
def cd_X11_adjustedScore_0 : List (Nat × Instr) := (0, .aload 0) :: (1, .iload 1) :: (2, .iload 2) :: (3, .invokevirtual 430) :: (6, .ifCond .ne 11) :: (9, .iconst 0) :: (10, .ireturn) :: cd_X11_adjustedScore_11
def cd_X11_adjustedScore : List (Nat × Instr) := cd_X11_adjustedScore_0
set_option maxRecDepth 100000 in
theorem at_X11_adjustedScore_30 : ev_at cd_X11_adjustedScore 30 = cd_X11_adjustedScore_30 := rfl
set_option maxRecDepth 100000 in
theorem at_X11_adjustedScore_29 : ev_at cd_X11_adjustedScore 29 = cd_X11_adjustedScore_29 := rfl
set_option maxRecDepth 100000 in
theorem at_X11_adjustedScore_11 : ev_at cd_X11_adjustedScore 11 = cd_X11_adjustedScore_11 := rfl
set_option maxRecDepth 100000 in
theorem at_X11_adjustedScore_0 : ev_at cd_X11_adjustedScore 0 = cd_X11_adjustedScore_0 := rfl
abbrev tb_X11_harshest (r : Nat) : ev_Tb := (ev_lu fl_X11, ev_lu (ca_X11 r), ev_lu th_X11, ev_lu ko_X11, ev_lu kl_X11, 3, false)
def cd_X11_harshest_57 : List (Nat × Instr) := (57, .iload 1) :: (58, .ireturn) :: []
def cd_X11_harshest_51 : List (Nat × Instr) := (51, .iinc 2 1) :: (54, .goto 13) :: cd_X11_harshest_57
def cd_X11_harshest_49 : List (Nat × Instr) := (49, .iload 2) :: (50, .istore 1) :: cd_X11_harshest_51
def cd_X11_harshest_13 : List (Nat × Instr) := (13, .iload 2) :: (14, .aload 0) :: (15, .getfield 9) :: (18, .iconst 0) :: (19, .iaload) :: (20, .if_icmp .ge 57) :: (23, .aload 0) :: (24, .iload 2) :: (25, .invokevirtual 356) :: (28, .ifCond .le 51) :: (31, .iload 1) :: (32, .iconst (-1)) :: (33, .if_icmp .eq 49) :: (36, .aload 0) :: (37, .iload 2) :: (38, .invokevirtual 362) :: (41, .aload 0) :: (42, .iload 1) :: (43, .invokevirtual 362) :: (46, .if_icmp .ge 51) :: cd_X11_harshest_49
def cd_X11_harshest_9 : List (Nat × Instr) := (9, .iconst (-1)) :: (10, .istore 1) :: (11, .iconst 0) :: (12, .istore 2) :: cd_X11_harshest_13
def cd_X11_harshest_0 : List (Nat × Instr) := (0, .aload 0) :: (1, .invokevirtual 407) :: (4, .ifCond .ne 9) :: (7, .iconst 0) :: (8, .ireturn) :: cd_X11_harshest_9
def cd_X11_harshest : List (Nat × Instr) := cd_X11_harshest_0
set_option maxRecDepth 100000 in
theorem at_X11_harshest_57 : ev_at cd_X11_harshest 57 = cd_X11_harshest_57 := rfl
set_option maxRecDepth 100000 in
theorem at_X11_harshest_51 : ev_at cd_X11_harshest 51 = cd_X11_harshest_51 := rfl
set_option maxRecDepth 100000 in
theorem at_X11_harshest_49 : ev_at cd_X11_harshest 49 = cd_X11_harshest_49 := rfl
set_option maxRecDepth 100000 in
theorem at_X11_harshest_13 : ev_at cd_X11_harshest 13 = cd_X11_harshest_13 := rfl
set_option maxRecDepth 100000 in
theorem at_X11_harshest_9 : ev_at cd_X11_harshest 9 = cd_X11_harshest_9 := rfl
set_option maxRecDepth 100000 in
theorem at_X11_harshest_0 : ev_at cd_X11_harshest 0 = cd_X11_harshest_0 := rfl
abbrev tb_X11_disagreement (r : Nat) : ev_Tb := (ev_lu fl_X11, ev_lu (ca_X11 r), ev_lu th_X11, ev_lu ko_X11, ev_lu kl_X11, 4, false)
def cd_X11_disagreement_57 : List (Nat × Instr) := (57, .iload 2) :: (58, .ireturn) :: []
def cd_X11_disagreement_51 : List (Nat × Instr) := (51, .iinc 3 1) :: (54, .goto 14) :: cd_X11_disagreement_57
def cd_X11_disagreement_14 : List (Nat × Instr) := (14, .iload 3) :: (15, .aload 0) :: (16, .getfield 9) :: (19, .iconst 1) :: (20, .iaload) :: (21, .if_icmp .ge 57) :: (24, .aload 0) :: (25, .iload 1) :: (26, .iload 3) :: (27, .invokevirtual 201) :: (30, .ifCond .eq 51) :: (33, .iload 2) :: (34, .aload 0) :: (35, .iload 1) :: (36, .iload 3) :: (37, .invokevirtual 371) :: (40, .aload 0) :: (41, .iload 3) :: (42, .invokevirtual 388) :: (45, .isub) :: (46, .invokestatic 385) :: (49, .iadd) :: (50, .istore 2) :: cd_X11_disagreement_51
def cd_X11_disagreement_10 : List (Nat × Instr) := (10, .iconst 0) :: (11, .istore 2) :: (12, .iconst 0) :: (13, .istore 3) :: cd_X11_disagreement_14
def cd_X11_disagreement_0 : List (Nat × Instr) := (0, .aload 0) :: (1, .iload 1) :: (2, .invokevirtual 414) :: (5, .ifCond .ne 10) :: (8, .iconst 0) :: (9, .ireturn) :: cd_X11_disagreement_10
def cd_X11_disagreement : List (Nat × Instr) := cd_X11_disagreement_0
set_option maxRecDepth 100000 in
theorem at_X11_disagreement_57 : ev_at cd_X11_disagreement 57 = cd_X11_disagreement_57 := rfl
set_option maxRecDepth 100000 in
theorem at_X11_disagreement_51 : ev_at cd_X11_disagreement 51 = cd_X11_disagreement_51 := rfl
set_option maxRecDepth 100000 in
theorem at_X11_disagreement_14 : ev_at cd_X11_disagreement 14 = cd_X11_disagreement_14 := rfl
set_option maxRecDepth 100000 in
theorem at_X11_disagreement_10 : ev_at cd_X11_disagreement 10 = cd_X11_disagreement_10 := rfl
set_option maxRecDepth 100000 in
theorem at_X11_disagreement_0 : ev_at cd_X11_disagreement 0 = cd_X11_disagreement_0 := rfl
abbrev tb_X11_totalOf (r : Nat) : ev_Tb := (ev_lu fl_X11, ev_lu (ca_X11 r), ev_lu th_X11, ev_lu ko_X11, ev_lu kl_X11, 2, false)
def cd_X11_totalOf_17 : List (Nat × Instr) := (17, .ireturn) :: []
def cd_X11_totalOf_16 : List (Nat × Instr) := (16, .iconst 0) :: cd_X11_totalOf_17
def cd_X11_totalOf_0 : List (Nat × Instr) := (0, .aload 0) :: (1, .iload 1) :: (2, .invokevirtual 411) :: (5, .ifCond .eq 16) :: (8, .aload 0) :: (9, .iload 1) :: (10, .invokevirtual 388) :: (13, .goto 17) :: cd_X11_totalOf_16
def cd_X11_totalOf : List (Nat × Instr) := cd_X11_totalOf_0
set_option maxRecDepth 100000 in
theorem at_X11_totalOf_17 : ev_at cd_X11_totalOf 17 = cd_X11_totalOf_17 := rfl
set_option maxRecDepth 100000 in
theorem at_X11_totalOf_16 : ev_at cd_X11_totalOf 16 = cd_X11_totalOf_16 := rfl
set_option maxRecDepth 100000 in
theorem at_X11_totalOf_0 : ev_at cd_X11_totalOf 0 = cd_X11_totalOf_0 := rfl
abbrev tb_X11_spreadOf (r : Nat) : ev_Tb := (ev_lu fl_X11, ev_lu (ca_X11 r), ev_lu th_X11, ev_lu ko_X11, ev_lu kl_X11, 2, false)
def cd_X11_spreadOf_17 : List (Nat × Instr) := (17, .ireturn) :: []
def cd_X11_spreadOf_16 : List (Nat × Instr) := (16, .iconst 0) :: cd_X11_spreadOf_17
def cd_X11_spreadOf_0 : List (Nat × Instr) := (0, .aload 0) :: (1, .iload 1) :: (2, .invokevirtual 411) :: (5, .ifCond .eq 16) :: (8, .aload 0) :: (9, .iload 1) :: (10, .invokevirtual 382) :: (13, .goto 17) :: cd_X11_spreadOf_16
def cd_X11_spreadOf : List (Nat × Instr) := cd_X11_spreadOf_0
set_option maxRecDepth 100000 in
theorem at_X11_spreadOf_17 : ev_at cd_X11_spreadOf 17 = cd_X11_spreadOf_17 := rfl
set_option maxRecDepth 100000 in
theorem at_X11_spreadOf_16 : ev_at cd_X11_spreadOf 16 = cd_X11_spreadOf_16 := rfl
set_option maxRecDepth 100000 in
theorem at_X11_spreadOf_0 : ev_at cd_X11_spreadOf 0 = cd_X11_spreadOf_0 := rfl
abbrev tb_X11_needsTalk (r : Nat) : ev_Tb := (ev_lu fl_X11, ev_lu (ca_X11 r), ev_lu th_X11, ev_lu ko_X11, ev_lu kl_X11, 2, true)
def cd_X11_needsTalk_21 : List (Nat × Instr) := (21, .ireturn) :: []
def cd_X11_needsTalk_20 : List (Nat × Instr) := (20, .iconst 0) :: cd_X11_needsTalk_21
def cd_X11_needsTalk_0 : List (Nat × Instr) := (0, .aload 0) :: (1, .iload 1) :: (2, .invokevirtual 411) :: (5, .ifCond .eq 20) :: (8, .aload 0) :: (9, .iload 1) :: (10, .invokevirtual 436) :: (13, .ifCond .eq 20) :: (16, .iconst 1) :: (17, .goto 21) :: cd_X11_needsTalk_20
def cd_X11_needsTalk : List (Nat × Instr) := cd_X11_needsTalk_0
set_option maxRecDepth 100000 in
theorem at_X11_needsTalk_21 : ev_at cd_X11_needsTalk 21 = cd_X11_needsTalk_21 := rfl
set_option maxRecDepth 100000 in
theorem at_X11_needsTalk_20 : ev_at cd_X11_needsTalk 20 = cd_X11_needsTalk_20 := rfl
set_option maxRecDepth 100000 in
theorem at_X11_needsTalk_0 : ev_at cd_X11_needsTalk 0 = cd_X11_needsTalk_0 := rfl
abbrev tb_X11_spreadAfterTalk (r : Nat) : ev_Tb := (ev_lu fl_X11, ev_lu (ca_X11 r), ev_lu th_X11, ev_lu ko_X11, ev_lu kl_X11, 3, false)
def cd_X11_spreadAfterTalk_25 : List (Nat × Instr) := (25, .aload 0) :: (26, .invokevirtual 313) :: (29, .aload 0) :: (30, .iload 1) :: (31, .invokevirtual 192) :: (34, .istore 2) :: (35, .aload 0) :: (36, .aload 0) :: (37, .iload 1) :: (38, .invokevirtual 382) :: (41, .invokevirtual 319) :: (44, .ireturn) :: []
def cd_X11_spreadAfterTalk_10 : List (Nat × Instr) := (10, .aload 0) :: (11, .iload 1) :: (12, .invokevirtual 189) :: (15, .iconst 2) :: (16, .if_icmp .ge 25) :: (19, .aload 0) :: (20, .iload 1) :: (21, .invokevirtual 382) :: (24, .ireturn) :: cd_X11_spreadAfterTalk_25
def cd_X11_spreadAfterTalk_0 : List (Nat × Instr) := (0, .aload 0) :: (1, .iload 1) :: (2, .invokevirtual 411) :: (5, .ifCond .ne 10) :: (8, .iconst 0) :: (9, .ireturn) :: cd_X11_spreadAfterTalk_10
def cd_X11_spreadAfterTalk : List (Nat × Instr) := cd_X11_spreadAfterTalk_0
set_option maxRecDepth 100000 in
theorem at_X11_spreadAfterTalk_25 : ev_at cd_X11_spreadAfterTalk 25 = cd_X11_spreadAfterTalk_25 := rfl
set_option maxRecDepth 100000 in
theorem at_X11_spreadAfterTalk_10 : ev_at cd_X11_spreadAfterTalk 10 = cd_X11_spreadAfterTalk_10 := rfl
set_option maxRecDepth 100000 in
theorem at_X11_spreadAfterTalk_0 : ev_at cd_X11_spreadAfterTalk 0 = cd_X11_spreadAfterTalk_0 := rfl
abbrev tb_X11_rankOf (r : Nat) : ev_Tb := (ev_lu fl_X11, ev_lu (ca_X11 r), ev_lu th_X11, ev_lu ko_X11, ev_lu kl_X11, 2, false)
def cd_X11_rankOf_17 : List (Nat × Instr) := (17, .ireturn) :: []
def cd_X11_rankOf_16 : List (Nat × Instr) := (16, .iconst 0) :: cd_X11_rankOf_17
def cd_X11_rankOf_0 : List (Nat × Instr) := (0, .aload 0) :: (1, .iload 1) :: (2, .invokevirtual 411) :: (5, .ifCond .eq 16) :: (8, .aload 0) :: (9, .iload 1) :: (10, .invokevirtual 439) :: (13, .goto 17) :: cd_X11_rankOf_16
def cd_X11_rankOf : List (Nat × Instr) := cd_X11_rankOf_0
set_option maxRecDepth 100000 in
theorem at_X11_rankOf_17 : ev_at cd_X11_rankOf 17 = cd_X11_rankOf_17 := rfl
set_option maxRecDepth 100000 in
theorem at_X11_rankOf_16 : ev_at cd_X11_rankOf 16 = cd_X11_rankOf_16 := rfl
set_option maxRecDepth 100000 in
theorem at_X11_rankOf_0 : ev_at cd_X11_rankOf 0 = cd_X11_rankOf_0 := rfl
abbrev tb_X11_pancakeAt (r : Nat) : ev_Tb := (ev_lu fl_X11, ev_lu (ca_X11 r), ev_lu th_X11, ev_lu ko_X11, ev_lu kl_X11, 3, false)
def cd_X11_pancakeAt_27 : List (Nat × Instr) := (27, .iload 2) :: (28, .ireturn) :: []
def cd_X11_pancakeAt_12 : List (Nat × Instr) := (12, .aload 0) :: (13, .iload 2) :: (14, .invokevirtual 439) :: (17, .iload 1) :: (18, .if_icmp .eq 27) :: (21, .iinc 2 1) :: (24, .goto 12) :: cd_X11_pancakeAt_27
def cd_X11_pancakeAt_10 : List (Nat × Instr) := (10, .iconst 0) :: (11, .istore 2) :: cd_X11_pancakeAt_12
def cd_X11_pancakeAt_0 : List (Nat × Instr) := (0, .aload 0) :: (1, .iload 1) :: (2, .invokevirtual 411) :: (5, .ifCond .ne 10) :: (8, .iconst 0) :: (9, .ireturn) :: cd_X11_pancakeAt_10
def cd_X11_pancakeAt : List (Nat × Instr) := cd_X11_pancakeAt_0
set_option maxRecDepth 100000 in
theorem at_X11_pancakeAt_27 : ev_at cd_X11_pancakeAt 27 = cd_X11_pancakeAt_27 := rfl
set_option maxRecDepth 100000 in
theorem at_X11_pancakeAt_12 : ev_at cd_X11_pancakeAt 12 = cd_X11_pancakeAt_12 := rfl
set_option maxRecDepth 100000 in
theorem at_X11_pancakeAt_10 : ev_at cd_X11_pancakeAt 10 = cd_X11_pancakeAt_10 := rfl
set_option maxRecDepth 100000 in
theorem at_X11_pancakeAt_0 : ev_at cd_X11_pancakeAt 0 = cd_X11_pancakeAt_0 := rfl
abbrev tb_X11_isAccepted (r : Nat) : ev_Tb := (ev_lu fl_X11, ev_lu (ca_X11 r), ev_lu th_X11, ev_lu ko_X11, ev_lu kl_X11, 2, true)
def cd_X11_isAccepted_43 : List (Nat × Instr) := (43, .ireturn) :: []
def cd_X11_isAccepted_42 : List (Nat × Instr) := (42, .iconst 0) :: cd_X11_isAccepted_43
def cd_X11_isAccepted_0 : List (Nat × Instr) := (0, .aload 0) :: (1, .iload 1) :: (2, .invokevirtual 411) :: (5, .ifCond .eq 42) :: (8, .aload 0) :: (9, .iload 1) :: (10, .invokevirtual 439) :: (13, .aload 0) :: (14, .getfield 9) :: (17, .iconst 3) :: (18, .iaload) :: (19, .if_icmp .ge 42) :: (22, .aload 0) :: (23, .iload 1) :: (24, .invokevirtual 189) :: (27, .ifCond .le 42) :: (30, .aload 0) :: (31, .iload 1) :: (32, .invokevirtual 436) :: (35, .ifCond .ne 42) :: (38, .iconst 1) :: (39, .goto 43) :: cd_X11_isAccepted_42
def cd_X11_isAccepted : List (Nat × Instr) := cd_X11_isAccepted_0
set_option maxRecDepth 100000 in
theorem at_X11_isAccepted_43 : ev_at cd_X11_isAccepted 43 = cd_X11_isAccepted_43 := rfl
set_option maxRecDepth 100000 in
theorem at_X11_isAccepted_42 : ev_at cd_X11_isAccepted 42 = cd_X11_isAccepted_42 := rfl
set_option maxRecDepth 100000 in
theorem at_X11_isAccepted_0 : ev_at cd_X11_isAccepted 0 = cd_X11_isAccepted_0 := rfl
abbrev tb_X11_fillCount (r : Nat) : ev_Tb := (ev_lu fl_X11, ev_lu (ca_X11 r), ev_lu th_X11, ev_lu ko_X11, ev_lu kl_X11, 1, false)
def cd_X11_fillCount_0 : List (Nat × Instr) := (0, .aload 0) :: (1, .iconst 4) :: (2, .invokevirtual 417) :: (5, .ireturn) :: []
def cd_X11_fillCount : List (Nat × Instr) := cd_X11_fillCount_0
set_option maxRecDepth 100000 in
theorem at_X11_fillCount_0 : ev_at cd_X11_fillCount 0 = cd_X11_fillCount_0 := rfl
abbrev tb_X11_moveCount (r : Nat) : ev_Tb := (ev_lu fl_X11, ev_lu (ca_X11 r), ev_lu th_X11, ev_lu ko_X11, ev_lu kl_X11, 1, false)
def cd_X11_moveCount_0 : List (Nat × Instr) := (0, .aload 0) :: (1, .iconst 5) :: (2, .invokevirtual 417) :: (5, .ireturn) :: []
def cd_X11_moveCount : List (Nat × Instr) := cd_X11_moveCount_0
set_option maxRecDepth 100000 in
theorem at_X11_moveCount_0 : ev_at cd_X11_moveCount 0 = cd_X11_moveCount_0 := rfl
abbrev tb_X11_talkCount (r : Nat) : ev_Tb := (ev_lu fl_X11, ev_lu (ca_X11 r), ev_lu th_X11, ev_lu ko_X11, ev_lu kl_X11, 1, false)
def cd_X11_talkCount_0 : List (Nat × Instr) := (0, .aload 0) :: (1, .bipush 6) :: (3, .invokevirtual 417) :: (6, .ireturn) :: []
def cd_X11_talkCount : List (Nat × Instr) := cd_X11_talkCount_0
set_option maxRecDepth 100000 in
theorem at_X11_talkCount_0 : ev_at cd_X11_talkCount 0 = cd_X11_talkCount_0 := rfl
abbrev tb_X11_changeCount (r : Nat) : ev_Tb := (ev_lu fl_X11, ev_lu (ca_X11 r), ev_lu th_X11, ev_lu ko_X11, ev_lu kl_X11, 1, false)
def cd_X11_changeCount_0 : List (Nat × Instr) := (0, .aload 0) :: (1, .bipush 7) :: (3, .invokevirtual 417) :: (6, .ireturn) :: []
def cd_X11_changeCount : List (Nat × Instr) := cd_X11_changeCount_0
set_option maxRecDepth 100000 in
theorem at_X11_changeCount_0 : ev_at cd_X11_changeCount 0 = cd_X11_changeCount_0 := rfl
abbrev tb_X11_averageScore (r : Nat) : ev_Tb := (ev_lu fl_X11, ev_lu (ca_X11 r), ev_lu th_X11, ev_lu ko_X11, ev_lu kl_X11, 1, false)
def cd_X11_averageScore_16 : List (Nat × Instr) := (16, .aload 0) :: (17, .invokevirtual 365) :: (20, .i2d) :: (21, .aload 0) :: (22, .invokevirtual 368) :: (25, .i2d) :: (26, .ddiv) :: (27, .dreturn) :: []
def cd_X11_averageScore_14 : List (Nat × Instr) := (14, .dconst 0) :: (15, .dreturn) :: cd_X11_averageScore_16
def cd_X11_averageScore_0 : List (Nat × Instr) := (0, .aload 0) :: (1, .invokevirtual 407) :: (4, .ifCond .eq 14) :: (7, .aload 0) :: (8, .invokevirtual 368) :: (11, .ifCond .ne 16) :: cd_X11_averageScore_14
def cd_X11_averageScore : List (Nat × Instr) := cd_X11_averageScore_0
set_option maxRecDepth 100000 in
theorem at_X11_averageScore_16 : ev_at cd_X11_averageScore 16 = cd_X11_averageScore_16 := rfl
set_option maxRecDepth 100000 in
theorem at_X11_averageScore_14 : ev_at cd_X11_averageScore 14 = cd_X11_averageScore_14 := rfl
set_option maxRecDepth 100000 in
theorem at_X11_averageScore_0 : ev_at cd_X11_averageScore 0 = cd_X11_averageScore_0 := rfl
abbrev tb_X11_seatShare (r : Nat) : ev_Tb := (ev_lu fl_X11, ev_lu (ca_X11 r), ev_lu th_X11, ev_lu ko_X11, ev_lu kl_X11, 1, false)
def cd_X11_seatShare_18 : List (Nat × Instr) := (18, .iconst 3) :: (19, .aload 0) :: (20, .getfield 9) :: (23, .iconst 1) :: (24, .iaload) :: (25, .imul) :: (26, .aload 0) :: (27, .invokevirtual 433) :: (30, .isub) :: (31, .i2f) :: (32, .iconst 3) :: (33, .aload 0) :: (34, .getfield 9) :: (37, .iconst 1) :: (38, .iaload) :: (39, .imul) :: (40, .i2f) :: (41, .fdiv) :: (42, .freturn) :: []
def cd_X11_seatShare_16 : List (Nat × Instr) := (16, .fconst 0) :: (17, .freturn) :: cd_X11_seatShare_18
def cd_X11_seatShare_0 : List (Nat × Instr) := (0, .aload 0) :: (1, .invokevirtual 407) :: (4, .ifCond .eq 16) :: (7, .aload 0) :: (8, .getfield 9) :: (11, .iconst 1) :: (12, .iaload) :: (13, .ifCond .ne 18) :: cd_X11_seatShare_16
def cd_X11_seatShare : List (Nat × Instr) := cd_X11_seatShare_0
set_option maxRecDepth 100000 in
theorem at_X11_seatShare_18 : ev_at cd_X11_seatShare 18 = cd_X11_seatShare_18 := rfl
set_option maxRecDepth 100000 in
theorem at_X11_seatShare_16 : ev_at cd_X11_seatShare 16 = cd_X11_seatShare_16 := rfl
set_option maxRecDepth 100000 in
theorem at_X11_seatShare_0 : ev_at cd_X11_seatShare 0 = cd_X11_seatShare_0 := rfl
abbrev tb_X11_imbalance (r : Nat) : ev_Tb := (ev_lu fl_X11, ev_lu (ca_X11 r), ev_lu th_X11, ev_lu ko_X11, ev_lu kl_X11, 5, false)
def cd_X11_imbalance_102 : List (Nat × Instr) := (102, .iload 1) :: (103, .iload 2) :: (104, .iconst 3) :: (105, .aload 0) :: (106, .getfield 9) :: (109, .iconst 1) :: (110, .iaload) :: (111, .imul) :: (112, .isub) :: (113, .aload 0) :: (114, .invokevirtual 433) :: (117, .iadd) :: (118, .invokestatic 385) :: (121, .iadd) :: (122, .ireturn) :: []
def cd_X11_imbalance_96 : List (Nat × Instr) := (96, .iinc 3 1) :: (99, .goto 15) :: cd_X11_imbalance_102
def cd_X11_imbalance_69 : List (Nat × Instr) := (69, .iload 4) :: (71, .aload 0) :: (72, .getfield 9) :: (75, .iconst 1) :: (76, .iaload) :: (77, .if_icmp .ge 96) :: (80, .iload 1) :: (81, .aload 0) :: (82, .iload 3) :: (83, .iload 4) :: (85, .invokevirtual 442) :: (88, .iadd) :: (89, .istore 1) :: (90, .iinc 4 1) :: (93, .goto 69) :: cd_X11_imbalance_96
def cd_X11_imbalance_61 : List (Nat × Instr) := (61, .invokestatic 325) :: (64, .iadd) :: (65, .istore 1) :: (66, .iconst 0) :: (67, .istore 4) :: cd_X11_imbalance_69
def cd_X11_imbalance_60 : List (Nat × Instr) := (60, .iconst 0) :: cd_X11_imbalance_61
def cd_X11_imbalance_15 : List (Nat × Instr) := (15, .iload 3) :: (16, .aload 0) :: (17, .getfield 9) :: (20, .iconst 0) :: (21, .iaload) :: (22, .if_icmp .ge 102) :: (25, .iload 2) :: (26, .aload 0) :: (27, .iload 3) :: (28, .invokevirtual 332) :: (31, .iadd) :: (32, .istore 2) :: (33, .iload 1) :: (34, .aload 0) :: (35, .iload 3) :: (36, .invokevirtual 140) :: (39, .ifCond .eq 60) :: (42, .aload 0) :: (43, .iload 3) :: (44, .invokevirtual 332) :: (47, .aload 0) :: (48, .iload 3) :: (49, .iconst 1) :: (50, .invokevirtual 121) :: (53, .if_icmp .le 60) :: (56, .iconst 1) :: (57, .goto 61) :: cd_X11_imbalance_60
def cd_X11_imbalance_9 : List (Nat × Instr) := (9, .iconst 0) :: (10, .istore 1) :: (11, .iconst 0) :: (12, .istore 2) :: (13, .iconst 0) :: (14, .istore 3) :: cd_X11_imbalance_15
def cd_X11_imbalance_0 : List (Nat × Instr) := (0, .aload 0) :: (1, .invokevirtual 407) :: (4, .ifCond .ne 9) :: (7, .iconst 0) :: (8, .ireturn) :: cd_X11_imbalance_9
def cd_X11_imbalance : List (Nat × Instr) := cd_X11_imbalance_0
set_option maxRecDepth 100000 in
theorem at_X11_imbalance_102 : ev_at cd_X11_imbalance 102 = cd_X11_imbalance_102 := rfl
set_option maxRecDepth 100000 in
theorem at_X11_imbalance_96 : ev_at cd_X11_imbalance 96 = cd_X11_imbalance_96 := rfl
set_option maxRecDepth 100000 in
theorem at_X11_imbalance_69 : ev_at cd_X11_imbalance 69 = cd_X11_imbalance_69 := rfl
set_option maxRecDepth 100000 in
theorem at_X11_imbalance_61 : ev_at cd_X11_imbalance 61 = cd_X11_imbalance_61 := rfl
set_option maxRecDepth 100000 in
theorem at_X11_imbalance_60 : ev_at cd_X11_imbalance 60 = cd_X11_imbalance_60 := rfl
set_option maxRecDepth 100000 in
theorem at_X11_imbalance_15 : ev_at cd_X11_imbalance 15 = cd_X11_imbalance_15 := rfl
set_option maxRecDepth 100000 in
theorem at_X11_imbalance_9 : ev_at cd_X11_imbalance 9 = cd_X11_imbalance_9 := rfl
set_option maxRecDepth 100000 in
theorem at_X11_imbalance_0 : ev_at cd_X11_imbalance 0 = cd_X11_imbalance_0 := rfl
abbrev tb_X11_troubles (r : Nat) : ev_Tb := (ev_lu fl_X11, ev_lu (ca_X11 r), ev_lu th_X11, ev_lu ko_X11, ev_lu kl_X11, 4, false)
def cd_X11_troubles_55 : List (Nat × Instr) := (55, .invokestatic 325) :: (58, .iadd) :: (59, .ireturn) :: []
def cd_X11_troubles_54 : List (Nat × Instr) := (54, .iconst 0) :: cd_X11_troubles_55
def cd_X11_troubles_34 : List (Nat × Instr) := (34, .invokestatic 325) :: (37, .iload 3) :: (38, .ifCond .ne 54) :: (41, .aload 0) :: (42, .iload 1) :: (43, .iload 2) :: (44, .invokevirtual 201) :: (47, .ifCond .eq 54) :: (50, .iconst 1) :: (51, .goto 55) :: cd_X11_troubles_54
def cd_X11_troubles_33 : List (Nat × Instr) := (33, .iconst 0) :: cd_X11_troubles_34
def cd_X11_troubles_15 : List (Nat × Instr) := (15, .istore 3) :: (16, .iload 3) :: (17, .ifCond .eq 33) :: (20, .aload 0) :: (21, .iload 1) :: (22, .iload 2) :: (23, .invokevirtual 329) :: (26, .ifCond .eq 33) :: (29, .iconst 1) :: (30, .goto 34) :: cd_X11_troubles_33
def cd_X11_troubles_14 : List (Nat × Instr) := (14, .iconst 0) :: cd_X11_troubles_15
def cd_X11_troubles_0 : List (Nat × Instr) := (0, .aload 0) :: (1, .iload 1) :: (2, .iload 2) :: (3, .invokevirtual 180) :: (6, .iconst (-1)) :: (7, .if_icmp .eq 14) :: (10, .iconst 1) :: (11, .goto 15) :: cd_X11_troubles_14
def cd_X11_troubles : List (Nat × Instr) := cd_X11_troubles_0
set_option maxRecDepth 100000 in
theorem at_X11_troubles_55 : ev_at cd_X11_troubles 55 = cd_X11_troubles_55 := rfl
set_option maxRecDepth 100000 in
theorem at_X11_troubles_54 : ev_at cd_X11_troubles 54 = cd_X11_troubles_54 := rfl
set_option maxRecDepth 100000 in
theorem at_X11_troubles_34 : ev_at cd_X11_troubles 34 = cd_X11_troubles_34 := rfl
set_option maxRecDepth 100000 in
theorem at_X11_troubles_33 : ev_at cd_X11_troubles 33 = cd_X11_troubles_33 := rfl
set_option maxRecDepth 100000 in
theorem at_X11_troubles_15 : ev_at cd_X11_troubles 15 = cd_X11_troubles_15 := rfl
set_option maxRecDepth 100000 in
theorem at_X11_troubles_14 : ev_at cd_X11_troubles 14 = cd_X11_troubles_14 := rfl
set_option maxRecDepth 100000 in
theorem at_X11_troubles_0 : ev_at cd_X11_troubles 0 = cd_X11_troubles_0 := rfl
abbrev tb_X11_writesByte (r : Nat) : ev_Tb := (ev_lu fl_X11, ev_lu (ca_X11 r), ev_lu th_X11, ev_lu ko_X11, ev_lu kl_X11, 2, false)
def cd_X11_writesByte_0 : List (Nat × Instr) := (0, .aload 0) :: (1, .getfield 37) :: (4, .aload 0) :: (5, .getfield 445) :: (8, .iload 1) :: (9, .i2b) :: (10, .bastore) :: (11, .aload 0) :: (12, .dup) :: (13, .getfield 445) :: (16, .iconst 1) :: (17, .iadd) :: (18, .putfield 445) :: (21, .return_) :: []
def cd_X11_writesByte : List (Nat × Instr) := cd_X11_writesByte_0
set_option maxRecDepth 100000 in
theorem at_X11_writesByte_0 : ev_at cd_X11_writesByte 0 = cd_X11_writesByte_0 := rfl
abbrev tb_X11_writesNumber (r : Nat) : ev_Tb := (ev_lu fl_X11, ev_lu (ca_X11 r), ev_lu th_X11, ev_lu ko_X11, ev_lu kl_X11, 4, false)
def cd_X11_writesNumber_58 : List (Nat × Instr) := (58, .return_) :: []
def cd_X11_writesNumber_33 : List (Nat × Instr) := (33, .iload 3) :: (34, .ifCond .le 58) :: (37, .aload 0) :: (38, .bipush 48) :: (40, .iload 2) :: (41, .iload 3) :: (42, .idiv) :: (43, .bipush 10) :: (45, .irem) :: (46, .iadd) :: (47, .invokevirtual 448) :: (50, .iload 3) :: (51, .bipush 10) :: (53, .idiv) :: (54, .istore 3) :: (55, .goto 33) :: cd_X11_writesNumber_58
def cd_X11_writesNumber_17 : List (Nat × Instr) := (17, .iload 2) :: (18, .iload 3) :: (19, .idiv) :: (20, .bipush 9) :: (22, .if_icmp .le 33) :: (25, .iload 3) :: (26, .bipush 10) :: (28, .imul) :: (29, .istore 3) :: (30, .goto 17) :: cd_X11_writesNumber_33
def cd_X11_writesNumber_10 : List (Nat × Instr) := (10, .iload 1) :: (11, .invokestatic 385) :: (14, .istore 2) :: (15, .iconst 1) :: (16, .istore 3) :: cd_X11_writesNumber_17
def cd_X11_writesNumber_0 : List (Nat × Instr) := (0, .iload 1) :: (1, .ifCond .ge 10) :: (4, .aload 0) :: (5, .bipush 45) :: (7, .invokevirtual 448) :: cd_X11_writesNumber_10
def cd_X11_writesNumber : List (Nat × Instr) := cd_X11_writesNumber_0
set_option maxRecDepth 100000 in
theorem at_X11_writesNumber_58 : ev_at cd_X11_writesNumber 58 = cd_X11_writesNumber_58 := rfl
set_option maxRecDepth 100000 in
theorem at_X11_writesNumber_33 : ev_at cd_X11_writesNumber 33 = cd_X11_writesNumber_33 := rfl
set_option maxRecDepth 100000 in
theorem at_X11_writesNumber_17 : ev_at cd_X11_writesNumber 17 = cd_X11_writesNumber_17 := rfl
set_option maxRecDepth 100000 in
theorem at_X11_writesNumber_10 : ev_at cd_X11_writesNumber 10 = cd_X11_writesNumber_10 := rfl
set_option maxRecDepth 100000 in
theorem at_X11_writesNumber_0 : ev_at cd_X11_writesNumber 0 = cd_X11_writesNumber_0 := rfl
abbrev tb_X11_writePancake (r : Nat) : ev_Tb := (ev_lu fl_X11, ev_lu (ca_X11 r), ev_lu th_X11, ev_lu ko_X11, ev_lu kl_X11, 5, false)
def cd_X11_writePancake_139 : List (Nat × Instr) := (139, .aload 0) :: (140, .bipush 47) :: (142, .invokevirtual 448) :: (145, .aload 0) :: (146, .aload 0) :: (147, .iload 1) :: (148, .invokevirtual 388) :: (151, .invokevirtual 451) :: (154, .aload 0) :: (155, .getfield 445) :: (158, .ireturn) :: []
def cd_X11_writePancake_130 : List (Nat × Instr) := (130, .invokevirtual 448) :: (133, .iinc 2 1) :: (136, .goto 32) :: cd_X11_writePancake_139
def cd_X11_writePancake_128 : List (Nat × Instr) := (128, .bipush 63) :: cd_X11_writePancake_130
def cd_X11_writePancake_97 : List (Nat × Instr) := (97, .aload 0) :: (98, .bipush 61) :: (100, .invokevirtual 448) :: (103, .aload 0) :: (104, .aload 0) :: (105, .iload 3) :: (106, .iload 1) :: (107, .invokevirtual 201) :: (110, .ifCond .eq 128) :: (113, .bipush 48) :: (115, .aload 0) :: (116, .iload 3) :: (117, .bipush 23) :: (119, .iload 1) :: (120, .iadd) :: (121, .invokevirtual 121) :: (124, .iadd) :: (125, .goto 130) :: cd_X11_writePancake_128
def cd_X11_writePancake_65 : List (Nat × Instr) := (65, .iload 4) :: (67, .aload 0) :: (68, .iload 3) :: (69, .bipush 6) :: (71, .invokevirtual 121) :: (74, .if_icmp .ge 97) :: (77, .aload 0) :: (78, .aload 0) :: (79, .iload 3) :: (80, .bipush 7) :: (82, .iload 4) :: (84, .iadd) :: (85, .invokevirtual 121) :: (88, .invokevirtual 448) :: (91, .iinc 4 1) :: (94, .goto 65) :: cd_X11_writePancake_97
def cd_X11_writePancake_62 : List (Nat × Instr) := (62, .iconst 0) :: (63, .istore 4) :: cd_X11_writePancake_65
def cd_X11_writePancake_32 : List (Nat × Instr) := (32, .iload 2) :: (33, .aload 0) :: (34, .iload 1) :: (35, .iconst 5) :: (36, .invokevirtual 195) :: (39, .if_icmp .ge 139) :: (42, .aload 0) :: (43, .iload 1) :: (44, .bipush 6) :: (46, .iload 2) :: (47, .iadd) :: (48, .invokevirtual 195) :: (51, .istore 3) :: (52, .iload 2) :: (53, .ifCond .le 62) :: (56, .aload 0) :: (57, .bipush 44) :: (59, .invokevirtual 448) :: cd_X11_writePancake_62
def cd_X11_writePancake_30 : List (Nat × Instr) := (30, .iconst 0) :: (31, .istore 2) :: cd_X11_writePancake_32
def cd_X11_writePancake_10 : List (Nat × Instr) := (10, .aload 0) :: (11, .iconst 0) :: (12, .putfield 445) :: (15, .aload 0) :: (16, .iload 1) :: (17, .iconst 5) :: (18, .invokevirtual 195) :: (21, .ifCond .ne 30) :: (24, .aload 0) :: (25, .bipush 45) :: (27, .invokevirtual 448) :: cd_X11_writePancake_30
def cd_X11_writePancake_0 : List (Nat × Instr) := (0, .aload 0) :: (1, .iload 1) :: (2, .invokevirtual 411) :: (5, .ifCond .ne 10) :: (8, .iconst 0) :: (9, .ireturn) :: cd_X11_writePancake_10
def cd_X11_writePancake : List (Nat × Instr) := cd_X11_writePancake_0
set_option maxRecDepth 100000 in
theorem at_X11_writePancake_139 : ev_at cd_X11_writePancake 139 = cd_X11_writePancake_139 := rfl
set_option maxRecDepth 100000 in
theorem at_X11_writePancake_130 : ev_at cd_X11_writePancake 130 = cd_X11_writePancake_130 := rfl
set_option maxRecDepth 100000 in
theorem at_X11_writePancake_128 : ev_at cd_X11_writePancake 128 = cd_X11_writePancake_128 := rfl
set_option maxRecDepth 100000 in
theorem at_X11_writePancake_97 : ev_at cd_X11_writePancake 97 = cd_X11_writePancake_97 := rfl
set_option maxRecDepth 100000 in
theorem at_X11_writePancake_65 : ev_at cd_X11_writePancake 65 = cd_X11_writePancake_65 := rfl
set_option maxRecDepth 100000 in
theorem at_X11_writePancake_62 : ev_at cd_X11_writePancake 62 = cd_X11_writePancake_62 := rfl
set_option maxRecDepth 100000 in
theorem at_X11_writePancake_32 : ev_at cd_X11_writePancake 32 = cd_X11_writePancake_32 := rfl
set_option maxRecDepth 100000 in
theorem at_X11_writePancake_30 : ev_at cd_X11_writePancake 30 = cd_X11_writePancake_30 := rfl
set_option maxRecDepth 100000 in
theorem at_X11_writePancake_10 : ev_at cd_X11_writePancake 10 = cd_X11_writePancake_10 := rfl
set_option maxRecDepth 100000 in
theorem at_X11_writePancake_0 : ev_at cd_X11_writePancake 0 = cd_X11_writePancake_0 := rfl
abbrev tb_X11_writeBids (r : Nat) : ev_Tb := (ev_lu fl_X11, ev_lu (ca_X11 r), ev_lu th_X11, ev_lu ko_X11, ev_lu kl_X11, 3, false)
def cd_X11_writeBids_83 : List (Nat × Instr) := (83, .aload 0) :: (84, .getfield 445) :: (87, .ireturn) :: []
def cd_X11_writeBids_77 : List (Nat × Instr) := (77, .iinc 2 1) :: (80, .goto 17) :: cd_X11_writeBids_83
def cd_X11_writeBids_62 : List (Nat × Instr) := (62, .aload 0) :: (63, .iload 1) :: (64, .iload 2) :: (65, .invokevirtual 329) :: (68, .ifCond .eq 77) :: (71, .aload 0) :: (72, .bipush 33) :: (74, .invokevirtual 448) :: cd_X11_writeBids_77
def cd_X11_writeBids_17 : List (Nat × Instr) := (17, .iload 2) :: (18, .aload 0) :: (19, .getfield 9) :: (22, .iconst 1) :: (23, .iaload) :: (24, .if_icmp .ge 83) :: (27, .aload 0) :: (28, .bipush 48) :: (30, .aload 0) :: (31, .iload 1) :: (32, .bipush 13) :: (34, .iload 2) :: (35, .iadd) :: (36, .invokevirtual 121) :: (39, .iadd) :: (40, .invokevirtual 448) :: (43, .aload 0) :: (44, .iload 1) :: (45, .iload 2) :: (46, .invokevirtual 180) :: (49, .iconst (-1)) :: (50, .if_icmp .eq 62) :: (53, .aload 0) :: (54, .bipush 42) :: (56, .invokevirtual 448) :: (59, .goto 77) :: cd_X11_writeBids_62
def cd_X11_writeBids_10 : List (Nat × Instr) := (10, .aload 0) :: (11, .iconst 0) :: (12, .putfield 445) :: (15, .iconst 0) :: (16, .istore 2) :: cd_X11_writeBids_17
def cd_X11_writeBids_0 : List (Nat × Instr) := (0, .aload 0) :: (1, .iload 1) :: (2, .invokevirtual 414) :: (5, .ifCond .ne 10) :: (8, .iconst 0) :: (9, .ireturn) :: cd_X11_writeBids_10
def cd_X11_writeBids : List (Nat × Instr) := cd_X11_writeBids_0
set_option maxRecDepth 100000 in
theorem at_X11_writeBids_83 : ev_at cd_X11_writeBids 83 = cd_X11_writeBids_83 := rfl
set_option maxRecDepth 100000 in
theorem at_X11_writeBids_77 : ev_at cd_X11_writeBids 77 = cd_X11_writeBids_77 := rfl
set_option maxRecDepth 100000 in
theorem at_X11_writeBids_62 : ev_at cd_X11_writeBids 62 = cd_X11_writeBids_62 := rfl
set_option maxRecDepth 100000 in
theorem at_X11_writeBids_17 : ev_at cd_X11_writeBids 17 = cd_X11_writeBids_17 := rfl
set_option maxRecDepth 100000 in
theorem at_X11_writeBids_10 : ev_at cd_X11_writeBids 10 = cd_X11_writeBids_10 := rfl
set_option maxRecDepth 100000 in
theorem at_X11_writeBids_0 : ev_at cd_X11_writeBids 0 = cd_X11_writeBids_0 := rfl
abbrev tb_X11_outputByte (r : Nat) : ev_Tb := (ev_lu fl_X11, ev_lu (ca_X11 r), ev_lu th_X11, ev_lu ko_X11, ev_lu kl_X11, 2, false)
def cd_X11_outputByte_30 : List (Nat × Instr) := (30, .ireturn) :: []
def cd_X11_outputByte_29 : List (Nat × Instr) := (29, .iconst 0) :: cd_X11_outputByte_30
def cd_X11_outputByte_0 : List (Nat × Instr) := (0, .aload 0) :: (1, .iload 1) :: (2, .iconst 0) :: (3, .aload 0) :: (4, .getfield 445) :: (7, .iconst 1) :: (8, .isub) :: (9, .invokestatic 72) :: (12, .iconst 1) :: (13, .iconst 1) :: (14, .invokevirtual 43) :: (17, .ifCond .eq 29) :: (20, .aload 0) :: (21, .getfield 37) :: (24, .iload 1) :: (25, .baload) :: (26, .goto 30) :: cd_X11_outputByte_29
def cd_X11_outputByte : List (Nat × Instr) := cd_X11_outputByte_0
set_option maxRecDepth 100000 in
theorem at_X11_outputByte_30 : ev_at cd_X11_outputByte 30 = cd_X11_outputByte_30 := rfl
set_option maxRecDepth 100000 in
theorem at_X11_outputByte_29 : ev_at cd_X11_outputByte 29 = cd_X11_outputByte_29 := rfl
set_option maxRecDepth 100000 in
theorem at_X11_outputByte_0 : ev_at cd_X11_outputByte 0 = cd_X11_outputByte_0 := rfl
abbrev tb_X11_remembers (r : Nat) : ev_Tb := (ev_lu fl_X11, ev_lu (ca_X11 r), ev_lu th_X11, ev_lu ko_X11, ev_lu kl_X11, 2, false)
def cd_X11_remembers_50 : List (Nat × Instr) := (50, .aload 0) :: (51, .getfield 9) :: (54, .iconst 0) :: (55, .aload 0) :: (56, .getfield 16) :: (59, .aload 0) :: (60, .getfield 322) :: (63, .sipush 1042) :: (66, .imul) :: (67, .invokestatic 51) :: (70, .aload 0) :: (71, .dup) :: (72, .getfield 322) :: (75, .iconst 1) :: (76, .iadd) :: (77, .putfield 322) :: (80, .return_) :: []
def cd_X11_remembers_40 : List (Nat × Instr) := (40, .aload 0) :: (41, .dup) :: (42, .getfield 322) :: (45, .iconst 1) :: (46, .isub) :: (47, .putfield 322) :: cd_X11_remembers_50
def cd_X11_remembers_11 : List (Nat × Instr) := (11, .iload 1) :: (12, .sipush 7294) :: (15, .if_icmp .ge 40) :: (18, .aload 0) :: (19, .getfield 16) :: (22, .iload 1) :: (23, .aload 0) :: (24, .getfield 16) :: (27, .iload 1) :: (28, .sipush 1042) :: (31, .iadd) :: (32, .iaload) :: (33, .iastore) :: (34, .iinc 1 1) :: (37, .goto 11) :: cd_X11_remembers_40
def cd_X11_remembers_0 : List (Nat × Instr) := (0, .aload 0) :: (1, .getfield 322) :: (4, .bipush 8) :: (6, .if_icmp .ne 50) :: (9, .iconst 0) :: (10, .istore 1) :: cd_X11_remembers_11
def cd_X11_remembers : List (Nat × Instr) := cd_X11_remembers_0
set_option maxRecDepth 100000 in
theorem at_X11_remembers_50 : ev_at cd_X11_remembers 50 = cd_X11_remembers_50 := rfl
set_option maxRecDepth 100000 in
theorem at_X11_remembers_40 : ev_at cd_X11_remembers 40 = cd_X11_remembers_40 := rfl
set_option maxRecDepth 100000 in
theorem at_X11_remembers_11 : ev_at cd_X11_remembers 11 = cd_X11_remembers_11 := rfl
set_option maxRecDepth 100000 in
theorem at_X11_remembers_0 : ev_at cd_X11_remembers 0 = cd_X11_remembers_0 := rfl
abbrev tb_X11_bid (r : Nat) : ev_Tb := (ev_lu fl_X11, ev_lu (ca_X11 r), ev_lu th_X11, ev_lu ko_X11, ev_lu kl_X11, 6, false)
def cd_X11_bid_50 : List (Nat × Instr) := (50, .aload 0) :: (51, .invokevirtual 454) :: (54, .aload 0) :: (55, .iload 1) :: (56, .bipush 13) :: (58, .iload 2) :: (59, .iadd) :: (60, .invokevirtual 121) :: (63, .istore 5) :: (65, .aload 0) :: (66, .iload 1) :: (67, .bipush 13) :: (69, .iload 2) :: (70, .iadd) :: (71, .iload 3) :: (72, .invokevirtual 149) :: (75, .iload 5) :: (77, .ireturn) :: []
def cd_X11_bid_42 : List (Nat × Instr) := (42, .invokevirtual 43) :: (45, .ifCond .ne 50) :: (48, .iconst 0) :: (49, .ireturn) :: cd_X11_bid_50
def cd_X11_bid_41 : List (Nat × Instr) := (41, .iconst 0) :: cd_X11_bid_42
def cd_X11_bid_0 : List (Nat × Instr) := (0, .aload 0) :: (1, .iload 1) :: (2, .iload 2) :: (3, .invokevirtual 404) :: (6, .istore 4) :: (8, .aload 0) :: (9, .aload 0) :: (10, .getfield 47) :: (13, .iload 4) :: (15, .iload 4) :: (17, .ifCond .eq 41) :: (20, .aload 0) :: (21, .iload 1) :: (22, .invokevirtual 140) :: (25, .ifCond .eq 41) :: (28, .iload 3) :: (29, .iconst 0) :: (30, .iconst 3) :: (31, .invokestatic 72) :: (34, .ifCond .eq 41) :: (37, .iconst 1) :: (38, .goto 42) :: cd_X11_bid_41
def cd_X11_bid : List (Nat × Instr) := cd_X11_bid_0
set_option maxRecDepth 100000 in
theorem at_X11_bid_50 : ev_at cd_X11_bid 50 = cd_X11_bid_50 := rfl
set_option maxRecDepth 100000 in
theorem at_X11_bid_42 : ev_at cd_X11_bid 42 = cd_X11_bid_42 := rfl
set_option maxRecDepth 100000 in
theorem at_X11_bid_41 : ev_at cd_X11_bid 41 = cd_X11_bid_41 := rfl
set_option maxRecDepth 100000 in
theorem at_X11_bid_0 : ev_at cd_X11_bid 0 = cd_X11_bid_0 := rfl
abbrev tb_X11_assign (r : Nat) : ev_Tb := (ev_lu fl_X11, ev_lu (ca_X11 r), ev_lu th_X11, ev_lu ko_X11, ev_lu kl_X11, 4, false)
def cd_X11_assign_39 : List (Nat × Instr) := (39, .aload 0) :: (40, .invokevirtual 454) :: (43, .aload 0) :: (44, .iload 1) :: (45, .iload 2) :: (46, .invokevirtual 174) :: (49, .ireturn) :: []
def cd_X11_assign_31 : List (Nat × Instr) := (31, .invokevirtual 43) :: (34, .ifCond .ne 39) :: (37, .iconst 0) :: (38, .ireturn) :: cd_X11_assign_39
def cd_X11_assign_30 : List (Nat × Instr) := (30, .iconst 0) :: cd_X11_assign_31
def cd_X11_assign_0 : List (Nat × Instr) := (0, .aload 0) :: (1, .iload 1) :: (2, .iload 2) :: (3, .invokevirtual 404) :: (6, .istore 3) :: (7, .aload 0) :: (8, .aload 0) :: (9, .getfield 47) :: (12, .iload 3) :: (13, .iload 3) :: (14, .ifCond .eq 30) :: (17, .aload 0) :: (18, .iload 1) :: (19, .iload 2) :: (20, .invokevirtual 171) :: (23, .ifCond .ne 30) :: (26, .iconst 1) :: (27, .goto 31) :: cd_X11_assign_30
def cd_X11_assign : List (Nat × Instr) := cd_X11_assign_0
set_option maxRecDepth 100000 in
theorem at_X11_assign_39 : ev_at cd_X11_assign 39 = cd_X11_assign_39 := rfl
set_option maxRecDepth 100000 in
theorem at_X11_assign_31 : ev_at cd_X11_assign 31 = cd_X11_assign_31 := rfl
set_option maxRecDepth 100000 in
theorem at_X11_assign_30 : ev_at cd_X11_assign 30 = cd_X11_assign_30 := rfl
set_option maxRecDepth 100000 in
theorem at_X11_assign_0 : ev_at cd_X11_assign 0 = cd_X11_assign_0 := rfl
abbrev tb_X11_unassign (r : Nat) : ev_Tb := (ev_lu fl_X11, ev_lu (ca_X11 r), ev_lu th_X11, ev_lu ko_X11, ev_lu kl_X11, 4, false)
def cd_X11_unassign_40 : List (Nat × Instr) := (40, .aload 0) :: (41, .invokevirtual 454) :: (44, .aload 0) :: (45, .iload 1) :: (46, .iload 2) :: (47, .invokevirtual 186) :: (50, .ireturn) :: []
def cd_X11_unassign_32 : List (Nat × Instr) := (32, .invokevirtual 43) :: (35, .ifCond .ne 40) :: (38, .iconst 0) :: (39, .ireturn) :: cd_X11_unassign_40
def cd_X11_unassign_31 : List (Nat × Instr) := (31, .iconst 0) :: cd_X11_unassign_32
def cd_X11_unassign_0 : List (Nat × Instr) := (0, .aload 0) :: (1, .iload 1) :: (2, .iload 2) :: (3, .invokevirtual 404) :: (6, .istore 3) :: (7, .aload 0) :: (8, .aload 0) :: (9, .getfield 47) :: (12, .iload 3) :: (13, .iload 3) :: (14, .ifCond .eq 31) :: (17, .aload 0) :: (18, .iload 1) :: (19, .iload 2) :: (20, .invokevirtual 180) :: (23, .iconst (-1)) :: (24, .if_icmp .eq 31) :: (27, .iconst 1) :: (28, .goto 32) :: cd_X11_unassign_31
def cd_X11_unassign : List (Nat × Instr) := cd_X11_unassign_0
set_option maxRecDepth 100000 in
theorem at_X11_unassign_40 : ev_at cd_X11_unassign 40 = cd_X11_unassign_40 := rfl
set_option maxRecDepth 100000 in
theorem at_X11_unassign_32 : ev_at cd_X11_unassign 32 = cd_X11_unassign_32 := rfl
set_option maxRecDepth 100000 in
theorem at_X11_unassign_31 : ev_at cd_X11_unassign 31 = cd_X11_unassign_31 := rfl
set_option maxRecDepth 100000 in
theorem at_X11_unassign_0 : ev_at cd_X11_unassign 0 = cd_X11_unassign_0 := rfl
abbrev tb_X11_fill (r : Nat) : ev_Tb := (ev_lu fl_X11, ev_lu (ca_X11 r), ev_lu th_X11, ev_lu ko_X11, ev_lu kl_X11, 1, false)
def cd_X11_fill_9 : List (Nat × Instr) := (9, .aload 0) :: (10, .invokevirtual 454) :: (13, .aload 0) :: (14, .invokevirtual 177) :: (17, .ireturn) :: []
def cd_X11_fill_0 : List (Nat × Instr) := (0, .aload 0) :: (1, .invokevirtual 407) :: (4, .ifCond .ne 9) :: (7, .iconst 0) :: (8, .ireturn) :: cd_X11_fill_9
def cd_X11_fill : List (Nat × Instr) := cd_X11_fill_0
set_option maxRecDepth 100000 in
theorem at_X11_fill_9 : ev_at cd_X11_fill 9 = cd_X11_fill_9 := rfl
set_option maxRecDepth 100000 in
theorem at_X11_fill_0 : ev_at cd_X11_fill 0 = cd_X11_fill_0 := rfl
abbrev tb_X11_score (r : Nat) : ev_Tb := (ev_lu fl_X11, ev_lu (ca_X11 r), ev_lu th_X11, ev_lu ko_X11, ev_lu kl_X11, 6, false)
def cd_X11_score_53 : List (Nat × Instr) := (53, .aload 0) :: (54, .invokevirtual 454) :: (57, .aload 0) :: (58, .iload 1) :: (59, .bipush 23) :: (61, .iload 2) :: (62, .iadd) :: (63, .invokevirtual 121) :: (66, .istore 5) :: (68, .aload 0) :: (69, .iload 1) :: (70, .bipush 23) :: (72, .iload 2) :: (73, .iadd) :: (74, .iload 3) :: (75, .invokevirtual 149) :: (78, .iload 5) :: (80, .ireturn) :: []
def cd_X11_score_45 : List (Nat × Instr) := (45, .invokevirtual 43) :: (48, .ifCond .ne 53) :: (51, .iconst 0) :: (52, .ireturn) :: cd_X11_score_53
def cd_X11_score_44 : List (Nat × Instr) := (44, .iconst 0) :: cd_X11_score_45
def cd_X11_score_0 : List (Nat × Instr) := (0, .aload 0) :: (1, .iload 1) :: (2, .iload 2) :: (3, .invokevirtual 404) :: (6, .istore 4) :: (8, .aload 0) :: (9, .aload 0) :: (10, .getfield 47) :: (13, .iload 4) :: (15, .iload 4) :: (17, .ifCond .eq 44) :: (20, .aload 0) :: (21, .iload 1) :: (22, .iload 2) :: (23, .invokevirtual 180) :: (26, .iconst (-1)) :: (27, .if_icmp .eq 44) :: (30, .iload 3) :: (31, .iconst 1) :: (32, .bipush 9) :: (34, .invokestatic 72) :: (37, .ifCond .eq 44) :: (40, .iconst 1) :: (41, .goto 45) :: cd_X11_score_44
def cd_X11_score : List (Nat × Instr) := cd_X11_score_0
set_option maxRecDepth 100000 in
theorem at_X11_score_53 : ev_at cd_X11_score 53 = cd_X11_score_53 := rfl
set_option maxRecDepth 100000 in
theorem at_X11_score_45 : ev_at cd_X11_score 45 = cd_X11_score_45 := rfl
set_option maxRecDepth 100000 in
theorem at_X11_score_44 : ev_at cd_X11_score 44 = cd_X11_score_44 := rfl
set_option maxRecDepth 100000 in
theorem at_X11_score_0 : ev_at cd_X11_score 0 = cd_X11_score_0 := rfl
abbrev tb_X11_talk (r : Nat) : ev_Tb := (ev_lu fl_X11, ev_lu (ca_X11 r), ev_lu th_X11, ev_lu ko_X11, ev_lu kl_X11, 3, false)
def cd_X11_talk_38 : List (Nat × Instr) := (38, .aload 0) :: (39, .invokevirtual 454) :: (42, .aload 0) :: (43, .iload 1) :: (44, .invokevirtual 192) :: (47, .ireturn) :: []
def cd_X11_talk_30 : List (Nat × Instr) := (30, .invokevirtual 43) :: (33, .ifCond .ne 38) :: (36, .iconst 0) :: (37, .ireturn) :: cd_X11_talk_38
def cd_X11_talk_29 : List (Nat × Instr) := (29, .iconst 0) :: cd_X11_talk_30
def cd_X11_talk_0 : List (Nat × Instr) := (0, .aload 0) :: (1, .iload 1) :: (2, .invokevirtual 394) :: (5, .istore 2) :: (6, .aload 0) :: (7, .aload 0) :: (8, .getfield 47) :: (11, .iload 2) :: (12, .iload 2) :: (13, .ifCond .eq 29) :: (16, .aload 0) :: (17, .iload 1) :: (18, .invokevirtual 189) :: (21, .iconst 1) :: (22, .if_icmp .le 29) :: (25, .iconst 1) :: (26, .goto 30) :: cd_X11_talk_29
def cd_X11_talk : List (Nat × Instr) := cd_X11_talk_0
set_option maxRecDepth 100000 in
theorem at_X11_talk_38 : ev_at cd_X11_talk 38 = cd_X11_talk_38 := rfl
set_option maxRecDepth 100000 in
theorem at_X11_talk_30 : ev_at cd_X11_talk 30 = cd_X11_talk_30 := rfl
set_option maxRecDepth 100000 in
theorem at_X11_talk_29 : ev_at cd_X11_talk 29 = cd_X11_talk_29 := rfl
set_option maxRecDepth 100000 in
theorem at_X11_talk_0 : ev_at cd_X11_talk 0 = cd_X11_talk_0 := rfl
abbrev tb_X11_declare (r : Nat) : ev_Tb := (ev_lu fl_X11, ev_lu (ca_X11 r), ev_lu th_X11, ev_lu ko_X11, ev_lu kl_X11, 5, true)
def cd_X11_declare_33 : List (Nat × Instr) := (33, .istore 4) :: (35, .aload 0) :: (36, .iload 1) :: (37, .bipush 33) :: (39, .iload 2) :: (40, .iadd) :: (41, .iload 3) :: (42, .invokestatic 325) :: (45, .invokevirtual 149) :: (48, .iload 4) :: (50, .ireturn) :: []
def cd_X11_declare_32 : List (Nat × Instr) := (32, .iconst 0) :: cd_X11_declare_33
def cd_X11_declare_11 : List (Nat × Instr) := (11, .aload 0) :: (12, .invokevirtual 454) :: (15, .aload 0) :: (16, .iload 1) :: (17, .bipush 33) :: (19, .iload 2) :: (20, .iadd) :: (21, .invokevirtual 121) :: (24, .iconst 1) :: (25, .if_icmp .ne 32) :: (28, .iconst 1) :: (29, .goto 33) :: cd_X11_declare_32
def cd_X11_declare_0 : List (Nat × Instr) := (0, .aload 0) :: (1, .iload 1) :: (2, .iload 2) :: (3, .invokevirtual 430) :: (6, .ifCond .ne 11) :: (9, .iconst 0) :: (10, .ireturn) :: cd_X11_declare_11
def cd_X11_declare : List (Nat × Instr) := cd_X11_declare_0
set_option maxRecDepth 100000 in
theorem at_X11_declare_33 : ev_at cd_X11_declare 33 = cd_X11_declare_33 := rfl
set_option maxRecDepth 100000 in
theorem at_X11_declare_32 : ev_at cd_X11_declare 32 = cd_X11_declare_32 := rfl
set_option maxRecDepth 100000 in
theorem at_X11_declare_11 : ev_at cd_X11_declare 11 = cd_X11_declare_11 := rfl
set_option maxRecDepth 100000 in
theorem at_X11_declare_0 : ev_at cd_X11_declare 0 = cd_X11_declare_0 := rfl
abbrev tb_X11_undo (r : Nat) : ev_Tb := (ev_lu fl_X11, ev_lu (ca_X11 r), ev_lu th_X11, ev_lu ko_X11, ev_lu kl_X11, 1, false)
def cd_X11_undo_23 : List (Nat × Instr) := (23, .aload 0) :: (24, .dup) :: (25, .getfield 322) :: (28, .iconst 1) :: (29, .isub) :: (30, .putfield 322) :: (33, .aload 0) :: (34, .getfield 16) :: (37, .aload 0) :: (38, .getfield 322) :: (41, .sipush 1042) :: (44, .imul) :: (45, .aload 0) :: (46, .getfield 9) :: (49, .iconst 0) :: (50, .invokestatic 51) :: (53, .aload 0) :: (54, .getfield 322) :: (57, .ireturn) :: []
def cd_X11_undo_13 : List (Nat × Instr) := (13, .iconst 1) :: (14, .iconst 1) :: (15, .invokevirtual 43) :: (18, .ifCond .ne 23) :: (21, .iconst 0) :: (22, .ireturn) :: cd_X11_undo_23
def cd_X11_undo_12 : List (Nat × Instr) := (12, .iconst 0) :: cd_X11_undo_13
def cd_X11_undo_0 : List (Nat × Instr) := (0, .aload 0) :: (1, .aload 0) :: (2, .getfield 322) :: (5, .ifCond .le 12) :: (8, .iconst 1) :: (9, .goto 13) :: cd_X11_undo_12
def cd_X11_undo : List (Nat × Instr) := cd_X11_undo_0
set_option maxRecDepth 100000 in
theorem at_X11_undo_23 : ev_at cd_X11_undo 23 = cd_X11_undo_23 := rfl
set_option maxRecDepth 100000 in
theorem at_X11_undo_13 : ev_at cd_X11_undo 13 = cd_X11_undo_13 := rfl
set_option maxRecDepth 100000 in
theorem at_X11_undo_12 : ev_at cd_X11_undo 12 = cd_X11_undo_12 := rfl
set_option maxRecDepth 100000 in
theorem at_X11_undo_0 : ev_at cd_X11_undo 0 = cd_X11_undo_0 := rfl
abbrev tb_X11_undoCount (r : Nat) : ev_Tb := (ev_lu fl_X11, ev_lu (ca_X11 r), ev_lu th_X11, ev_lu ko_X11, ev_lu kl_X11, 1, false)
def cd_X11_undoCount_0 : List (Nat × Instr) := (0, .aload 0) :: (1, .aload 0) :: (2, .getfield 322) :: (5, .invokevirtual 65) :: (8, .ireturn) :: []
def cd_X11_undoCount : List (Nat × Instr) := cd_X11_undoCount_0
set_option maxRecDepth 100000 in
theorem at_X11_undoCount_0 : ev_at cd_X11_undoCount 0 = cd_X11_undoCount_0 := rfl
abbrev tb_X11_isSlot (r : Nat) : ev_Tb := (ev_lu fl_X11, ev_lu (ca_X11 r), ev_lu th_X11, ev_lu ko_X11, ev_lu kl_X11, 1, true)
def cd_X11_isSlot_0 : List (Nat × Instr) := (0, .iload 0) :: (1, .iconst 0) :: (2, .iconst 1) :: (3, .invokestatic 72) :: (6, .ireturn) :: []
def cd_X11_isSlot : List (Nat × Instr) := cd_X11_isSlot_0
set_option maxRecDepth 100000 in
theorem at_X11_isSlot_0 : ev_at cd_X11_isSlot 0 = cd_X11_isSlot_0 := rfl
abbrev tb_X11_saveState (r : Nat) : ev_Tb := (ev_lu fl_X11, ev_lu (ca_X11 r), ev_lu th_X11, ev_lu ko_X11, ev_lu kl_X11, 2, false)
def cd_X11_saveState_17 : List (Nat × Instr) := (17, .aload 0) :: (18, .getfield 9) :: (21, .iconst 0) :: (22, .aload 0) :: (23, .getfield 19) :: (26, .iload 1) :: (27, .sipush 1042) :: (30, .imul) :: (31, .invokestatic 51) :: (34, .aload 0) :: (35, .getfield 22) :: (38, .iload 1) :: (39, .iconst 1) :: (40, .bastore) :: (41, .aload 0) :: (42, .invokevirtual 368) :: (45, .ireturn) :: []
def cd_X11_saveState_0 : List (Nat × Instr) := (0, .aload 0) :: (1, .aload 0) :: (2, .getfield 47) :: (5, .iload 1) :: (6, .invokestatic 457) :: (9, .invokevirtual 397) :: (12, .ifCond .ne 17) :: (15, .iconst 0) :: (16, .ireturn) :: cd_X11_saveState_17
def cd_X11_saveState : List (Nat × Instr) := cd_X11_saveState_0
set_option maxRecDepth 100000 in
theorem at_X11_saveState_17 : ev_at cd_X11_saveState 17 = cd_X11_saveState_17 := rfl
set_option maxRecDepth 100000 in
theorem at_X11_saveState_0 : ev_at cd_X11_saveState 0 = cd_X11_saveState_0 := rfl
abbrev tb_X11_restoreState (r : Nat) : ev_Tb := (ev_lu fl_X11, ev_lu (ca_X11 r), ev_lu th_X11, ev_lu ko_X11, ev_lu kl_X11, 3, false)
def cd_X11_restoreState_33 : List (Nat × Instr) := (33, .aload 0) :: (34, .getfield 19) :: (37, .iload 1) :: (38, .sipush 1042) :: (41, .imul) :: (42, .aload 0) :: (43, .getfield 9) :: (46, .iconst 0) :: (47, .invokestatic 51) :: (50, .aload 0) :: (51, .iconst 0) :: (52, .putfield 322) :: (55, .aload 0) :: (56, .invokevirtual 368) :: (59, .ireturn) :: []
def cd_X11_restoreState_25 : List (Nat × Instr) := (25, .invokevirtual 397) :: (28, .ifCond .ne 33) :: (31, .iconst 0) :: (32, .ireturn) :: cd_X11_restoreState_33
def cd_X11_restoreState_24 : List (Nat × Instr) := (24, .iconst 0) :: cd_X11_restoreState_25
def cd_X11_restoreState_0 : List (Nat × Instr) := (0, .iload 1) :: (1, .invokestatic 457) :: (4, .istore 2) :: (5, .aload 0) :: (6, .iload 2) :: (7, .iload 2) :: (8, .ifCond .eq 24) :: (11, .aload 0) :: (12, .getfield 22) :: (15, .iload 1) :: (16, .baload) :: (17, .ifCond .eq 24) :: (20, .iconst 1) :: (21, .goto 25) :: cd_X11_restoreState_24
def cd_X11_restoreState : List (Nat × Instr) := cd_X11_restoreState_0
set_option maxRecDepth 100000 in
theorem at_X11_restoreState_33 : ev_at cd_X11_restoreState 33 = cd_X11_restoreState_33 := rfl
set_option maxRecDepth 100000 in
theorem at_X11_restoreState_25 : ev_at cd_X11_restoreState 25 = cd_X11_restoreState_25 := rfl
set_option maxRecDepth 100000 in
theorem at_X11_restoreState_24 : ev_at cd_X11_restoreState 24 = cd_X11_restoreState_24 := rfl
set_option maxRecDepth 100000 in
theorem at_X11_restoreState_0 : ev_at cd_X11_restoreState 0 = cd_X11_restoreState_0 := rfl
abbrev tb_J7_fill_d0a16 : ev_Tb := (ev_lu fl_J7, ev_lu (ca_J7), ev_lu th_J7, ev_lu ko_J7, ev_lu kl_J7, 5, false)
def cd_J7_fill_d0a16_22 : List (Nat × Instr) := (22, .return_) :: []
def cd_J7_fill_d0a16_6 : List (Nat × Instr) := (6, .iload 3) :: (7, .iload 4) :: (9, .if_icmp .ge 22) :: (12, .aload 0) :: (13, .iload 3) :: (14, .lload 1) :: (15, .lastore) :: (16, .iinc 3 1) :: (19, .goto 6) :: cd_J7_fill_d0a16_22
def cd_J7_fill_d0a16_0 : List (Nat × Instr) := (0, .iconst 0) :: (1, .istore 3) :: (2, .aload 0) :: (3, .arraylength) :: (4, .istore 4) :: cd_J7_fill_d0a16_6
def cd_J7_fill_d0a16 : List (Nat × Instr) := cd_J7_fill_d0a16_0
set_option maxRecDepth 100000 in
theorem at_J7_fill_d0a16_22 : ev_at cd_J7_fill_d0a16 22 = cd_J7_fill_d0a16_22 := rfl
set_option maxRecDepth 100000 in
theorem at_J7_fill_d0a16_6 : ev_at cd_J7_fill_d0a16 6 = cd_J7_fill_d0a16_6 := rfl
set_option maxRecDepth 100000 in
theorem at_J7_fill_d0a16_0 : ev_at cd_J7_fill_d0a16 0 = cd_J7_fill_d0a16_0 := rfl
abbrev tb_J7_fill_53178 : ev_Tb := (ev_lu fl_J7, ev_lu (ca_J7), ev_lu th_J7, ev_lu ko_J7, ev_lu kl_J7, 4, false)
def cd_J7_fill_53178_20 : List (Nat × Instr) := (20, .return_) :: []
def cd_J7_fill_53178_5 : List (Nat × Instr) := (5, .iload 2) :: (6, .iload 3) :: (7, .if_icmp .ge 20) :: (10, .aload 0) :: (11, .iload 2) :: (12, .iload 1) :: (13, .iastore) :: (14, .iinc 2 1) :: (17, .goto 5) :: cd_J7_fill_53178_20
def cd_J7_fill_53178_0 : List (Nat × Instr) := (0, .iconst 0) :: (1, .istore 2) :: (2, .aload 0) :: (3, .arraylength) :: (4, .istore 3) :: cd_J7_fill_53178_5
def cd_J7_fill_53178 : List (Nat × Instr) := cd_J7_fill_53178_0
set_option maxRecDepth 100000 in
theorem at_J7_fill_53178_20 : ev_at cd_J7_fill_53178 20 = cd_J7_fill_53178_20 := rfl
set_option maxRecDepth 100000 in
theorem at_J7_fill_53178_5 : ev_at cd_J7_fill_53178 5 = cd_J7_fill_53178_5 := rfl
set_option maxRecDepth 100000 in
theorem at_J7_fill_53178_0 : ev_at cd_J7_fill_53178 0 = cd_J7_fill_53178_0 := rfl
