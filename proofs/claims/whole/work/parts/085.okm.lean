/-! ===== each method is as it is listed (by program, wip/whole/gen8.py) ===== -/
set_option maxRecDepth 100000 in
theorem okM_X1_empty : ev_okM RX1 (mi_X1_empty) (tb_X1_empty) cd_X1_empty := ev_okM_of [] okF_X1 (okC_X1) okK_X1 (fun _ h => absurd h List.not_mem_nil) (by decide +kernel)
set_option maxRecDepth 100000 in
theorem okM_X1_get : ev_okM RX1 (mi_X1_get) (tb_X1_get) cd_X1_get := ev_okM_of [] okF_X1 (okC_X1) okK_X1 (fun _ h => absurd h List.not_mem_nil) (by decide +kernel)
set_option maxRecDepth 100000 in
theorem okM_X1_add : ev_okM RX1 (mi_X1_add) (tb_X1_add) cd_X1_add := ev_okM_of [] okF_X1 (okC_X1) okK_X1 (fun _ h => absurd h List.not_mem_nil) (by decide +kernel)
set_option maxRecDepth 100000 in
theorem okM_X1_addFourBytes : ev_okM RX1 (mi_X1_addFourBytes) (tb_X1_addFourBytes) cd_X1_addFourBytes := ev_okM_of [] okF_X1 (okC_X1) okK_X1 (fun _ h => absurd h List.not_mem_nil) (by decide +kernel)
set_option maxRecDepth 100000 in
theorem okM_X1_addWord : ev_okM RX1 (mi_X1_addWord) (tb_X1_addWord) cd_X1_addWord := ev_okM_of [] okF_X1 (okC_X1) okK_X1 (fun _ h => absurd h List.not_mem_nil) (by decide +kernel)
set_option maxRecDepth 100000 in
theorem okM_X1_addNumber : ev_okM RX1 (mi_X1_addNumber) (tb_X1_addNumber) cd_X1_addNumber := ev_okM_of [] okF_X1 (okC_X1) okK_X1 (fun _ h => absurd h List.not_mem_nil) (by decide +kernel)
set_option maxRecDepth 100000 in
theorem okM_X2_forget : ev_okM RX2 (mi_X2_forget) (tb_X2_forget) cd_X2_forget := ev_okM_of [] okF_X2 (okC_X2) okK_X2 (fun _ h => absurd h List.not_mem_nil) (by decide +kernel)
set_option maxRecDepth 100000 in
theorem okM_X2_remember : ev_okM RX2 (mi_X2_remember) (tb_X2_remember) cd_X2_remember := ev_okM_of [] okF_X2 (okC_X2) okK_X2 (fun _ h => absurd h List.not_mem_nil) (by decide +kernel)
set_option maxRecDepth 100000 in
theorem okM_X2_bringBack : ev_okM RX2 (mi_X2_bringBack) (tb_X2_bringBack) cd_X2_bringBack := ev_okM_of [] okF_X2 (okC_X2) okK_X2 (fun _ h => absurd h List.not_mem_nil) (by decide +kernel)
set_option maxRecDepth 100000 in
theorem okM_X4_clear : ev_okM RX4 (mi_X4_clear) (tb_X4_clear) cd_X4_clear := ev_okM_of [] okF_X4 (okC_X4) okK_X4 (fun _ h => absurd h List.not_mem_nil) (by decide +kernel)
set_option maxRecDepth 100000 in
theorem okM_X4_copyFrom : ev_okM RX4 (mi_X4_copyFrom) (tb_X4_copyFrom) cd_X4_copyFrom := ev_okM_of [] okF_X4 (okC_X4) okK_X4 (fun _ h => absurd h List.not_mem_nil) (by decide +kernel)
set_option maxRecDepth 100000 in
theorem okM_X4_name : ev_okM RX4 (mi_X4_name) (tb_X4_name) cd_X4_name := ev_okM_of [] okF_X4 (okC_X4) okK_X4 (fun _ h => absurd h List.not_mem_nil) (by decide +kernel)
set_option maxRecDepth 100000 in
theorem okM_X4_personNamed : ev_okM RX4 (mi_X4_personNamed) (tb_X4_personNamed) cd_X4_personNamed := ev_okM_of [] okF_X4 (okC_X4) okK_X4 (fun _ h => absurd h List.not_mem_nil) (by decide +kernel)
set_option maxRecDepth 100000 in
theorem okM_X4_addPerson : ev_okM RX4 (mi_X4_addPerson) (tb_X4_addPerson) cd_X4_addPerson := ev_okM_of [] okF_X4 (okC_X4) okK_X4 (fun _ h => absurd h List.not_mem_nil) (by decide +kernel)
set_option maxRecDepth 100000 in
theorem okM_X4_isOneOfTasters : ev_okM RX4 (mi_X4_isOneOfTasters) (tb_X4_isOneOfTasters) cd_X4_isOneOfTasters := ev_okM_of [] okF_X4 (okC_X4) okK_X4 (fun _ h => absurd h List.not_mem_nil) (by decide +kernel)
set_option maxRecDepth 100000 in
theorem okM_X4_addPancake : ev_okM RX4 (mi_X4_addPancake) (tb_X4_addPancake) cd_X4_addPancake := ev_okM_of [] okF_X4 (okC_X4) okK_X4 (fun _ h => absurd h List.not_mem_nil) (by decide +kernel)
set_option maxRecDepth 100000 in
theorem okM_X4_swapTopics : ev_okM RX4 (mi_X4_swapTopics) (tb_X4_swapTopics) cd_X4_swapTopics := ev_okM_of [] okF_X4 (okC_X4) okK_X4 (fun _ h => absurd h List.not_mem_nil) (by decide +kernel)
set_option maxRecDepth 100000 in
theorem okM_X4_joinCooks : ev_okM RX4 (mi_X4_joinCooks) (tb_X4_joinCooks) cd_X4_joinCooks := ev_okM_of [] okF_X4 (okC_X4) okK_X4 (fun _ h => absurd h List.not_mem_nil) (by decide +kernel)
set_option maxRecDepth 100000 in
theorem okM_X4_copyBids : ev_okM RX4 (mi_X4_copyBids) (tb_X4_copyBids) cd_X4_copyBids := ev_okM_of [] okF_X4 (okC_X4) okK_X4 (fun _ h => absurd h List.not_mem_nil) (by decide +kernel)
set_option maxRecDepth 100000 in
theorem okM_X4_liking : ev_okM RX4 (mi_X4_liking) (tb_X4_liking) cd_X4_liking := ev_okM_of [] okF_X4 (okC_X4) okK_X4 (fun _ h => absurd h List.not_mem_nil) (by decide +kernel)
set_option maxRecDepth 100000 in
theorem okM_X4_mostLiked : ev_okM RX4 (mi_X4_mostLiked) (tb_X4_mostLiked) cd_X4_mostLiked := ev_okM_of [] okF_X4 (okC_X4) okK_X4 (fun _ h => absurd h List.not_mem_nil) (by decide +kernel)
set_option maxRecDepth 100000 in
theorem okM_X4_conflictReason : ev_okM RX4 (mi_X4_conflictReason) (tb_X4_conflictReason) cd_X4_conflictReason := ev_okM_of [] okF_X4 (okC_X4) okK_X4 (fun _ h => absurd h List.not_mem_nil) (by decide +kernel)
set_option maxRecDepth 100000 in
theorem okM_X4_tastersInConflict : ev_okM RX4 (mi_X4_tastersInConflict) (tb_X4_tastersInConflict) cd_X4_tastersInConflict := ev_okM_of [] okF_X4 (okC_X4) okK_X4 (fun _ h => absurd h List.not_mem_nil) (by decide +kernel)
set_option maxRecDepth 100000 in
theorem okM_X4_load : ev_okM RX4 (mi_X4_load) (tb_X4_load) cd_X4_load := ev_okM_of [] okF_X4 (okC_X4) okK_X4 (fun _ h => absurd h List.not_mem_nil) (by decide +kernel)
set_option maxRecDepth 100000 in
theorem okM_X4_refusalReason : ev_okM RX4 (mi_X4_refusalReason) (tb_X4_refusalReason) cd_X4_refusalReason := ev_okM_of [] okF_X4 (okC_X4) okK_X4 (fun _ h => absurd h List.not_mem_nil) (by decide +kernel)
set_option maxRecDepth 100000 in
theorem okM_X4_bestFor : ev_okM RX4 (mi_X4_bestFor) (tb_X4_bestFor) cd_X4_bestFor := ev_okM_of [] okF_X4 (okC_X4) okK_X4 (fun _ h => absurd h List.not_mem_nil) (by decide +kernel)
set_option maxRecDepth 100000 in
theorem okM_X4_isBetter : ev_okM RX4 (mi_X4_isBetter) (tb_X4_isBetter) cd_X4_isBetter := ev_okM_of [] okF_X4 (okC_X4) okK_X4 (fun _ h => absurd h List.not_mem_nil) (by decide +kernel)
set_option maxRecDepth 100000 in
theorem okM_X4_takeSeat : ev_okM RX4 (mi_X4_takeSeat) (tb_X4_takeSeat) cd_X4_takeSeat := ev_okM_of [] okF_X4 (okC_X4) okK_X4 (fun _ h => absurd h List.not_mem_nil) (by decide +kernel)
set_option maxRecDepth 100000 in
theorem okM_X4_clearSeats : ev_okM RX4 (mi_X4_clearSeats) (tb_X4_clearSeats) cd_X4_clearSeats := ev_okM_of [] okF_X4 (okC_X4) okK_X4 (fun _ h => absurd h List.not_mem_nil) (by decide +kernel)
set_option maxRecDepth 100000 in
theorem okM_X4_takenSeats : ev_okM RX4 (mi_X4_takenSeats) (tb_X4_takenSeats) cd_X4_takenSeats := ev_okM_of [] okF_X4 (okC_X4) okK_X4 (fun _ h => absurd h List.not_mem_nil) (by decide +kernel)
set_option maxRecDepth 100000 in
theorem okM_X4_freeSeats : ev_okM RX4 (mi_X4_freeSeats) (tb_X4_freeSeats) cd_X4_freeSeats := ev_okM_of [] okF_X4 (okC_X4) okK_X4 (fun _ h => absurd h List.not_mem_nil) (by decide +kernel)
set_option maxRecDepth 100000 in
theorem okM_X4_fillSeats : ev_okM RX4 (mi_X4_fillSeats) (tb_X4_fillSeats) cd_X4_fillSeats := ev_okM_of [] okF_X4 (okC_X4) okK_X4 (fun _ h => absurd h List.not_mem_nil) (by decide +kernel)
set_option maxRecDepth 100000 in
theorem okM_X4_neediest : ev_okM RX4 (mi_X4_neediest) (tb_X4_neediest) cd_X4_neediest := ev_okM_of [] okF_X4 (okC_X4) okK_X4 (fun _ h => absurd h List.not_mem_nil) (by decide +kernel)
set_option maxRecDepth 100000 in
theorem okM_X4_makeMove : ev_okM RX4 (mi_X4_makeMove) (tb_X4_makeMove) cd_X4_makeMove := ev_okM_of [] okF_X4 (okC_X4) okK_X4 (fun _ h => absurd h List.not_mem_nil) (by decide +kernel)
set_option maxRecDepth 100000 in
theorem okM_X4_isDisputed : ev_okM RX4 (mi_X4_isDisputed) (tb_X4_isDisputed) cd_X4_isDisputed := ev_okM_of [] okF_X4 (okC_X4) okK_X4 (fun _ h => absurd h List.not_mem_nil) (by decide +kernel)
set_option maxRecDepth 100000 in
theorem okM_X4_loadSum : ev_okM RX4 (mi_X4_loadSum) (tb_X4_loadSum) cd_X4_loadSum := ev_okM_of [] okF_X4 (okC_X4) okK_X4 (fun _ h => absurd h List.not_mem_nil) (by decide +kernel)
set_option maxRecDepth 100000 in
theorem okM_X4_seatsInConflict : ev_okM RX4 (mi_X4_seatsInConflict) (tb_X4_seatsInConflict) cd_X4_seatsInConflict := ev_okM_of [] okF_X4 (okC_X4) okK_X4 (fun _ h => absurd h List.not_mem_nil) (by decide +kernel)
set_option maxRecDepth 100000 in
theorem okM_X4_overloadedTasters : ev_okM RX4 (mi_X4_overloadedTasters) (tb_X4_overloadedTasters) cd_X4_overloadedTasters := ev_okM_of [] okF_X4 (okC_X4) okK_X4 (fun _ h => absurd h List.not_mem_nil) (by decide +kernel)
set_option maxRecDepth 100000 in
theorem okM_X4_scoresWithoutSeat : ev_okM RX4 (mi_X4_scoresWithoutSeat) (tb_X4_scoresWithoutSeat) cd_X4_scoresWithoutSeat := ev_okM_of [] okF_X4 (okC_X4) okK_X4 (fun _ h => absurd h List.not_mem_nil) (by decide +kernel)
set_option maxRecDepth 100000 in
theorem okM_X5_size : ev_okM RX5 (mi_X5_size) (tb_X5_size) cd_X5_size := ev_okM_of [] okF_X5 (okC_X5) okK_X5 (fun _ h => absurd h List.not_mem_nil) (by decide +kernel)
set_option maxRecDepth 100000 in
theorem okM_X5_member : ev_okM RX5 (mi_X5_member) (tb_X5_member) cd_X5_member := ev_okM_of [] okF_X5 (okC_X5) okK_X5 (fun _ h => absurd h List.not_mem_nil) (by decide +kernel)
set_option maxRecDepth 100000 in
theorem okM_X5_contains : ev_okM RX5 (mi_X5_contains) (tb_X5_contains) cd_X5_contains := ev_okM_of [] okF_X5 (okC_X5) okK_X5 (fun _ h => absurd h List.not_mem_nil) (by decide +kernel)
set_option maxRecDepth 100000 in
theorem okM_X5_add : ev_okM RX5 (mi_X5_add) (tb_X5_add) cd_X5_add := ev_okM_of [] okF_X5 (okC_X5) okK_X5 (fun _ h => absurd h List.not_mem_nil) (by decide +kernel)
set_option maxRecDepth 100000 in
theorem okM_X5_remove : ev_okM RX5 (mi_X5_remove) (tb_X5_remove) cd_X5_remove := ev_okM_of [] okF_X5 (okC_X5) okK_X5 (fun _ h => absurd h List.not_mem_nil) (by decide +kernel)
set_option maxRecDepth 100000 in
theorem okM_X5_clear : ev_okM RX5 (mi_X5_clear) (tb_X5_clear) cd_X5_clear := ev_okM_of [] okF_X5 (okC_X5) okK_X5 (fun _ h => absurd h List.not_mem_nil) (by decide +kernel)
set_option maxRecDepth 100000 in
theorem okM_X5_copyFrom : ev_okM RX5 (mi_X5_copyFrom) (tb_X5_copyFrom) cd_X5_copyFrom := ev_okM_of [] okF_X5 (okC_X5) okK_X5 (fun _ h => absurd h List.not_mem_nil) (by decide +kernel)
set_option maxRecDepth 100000 in
theorem okM_X6_clear : ev_okM RX6 (mi_X6_clear) (tb_X6_clear) cd_X6_clear := ev_okM_of [] okF_X6 (okC_X6) okK_X6 (fun _ h => absurd h List.not_mem_nil) (by decide +kernel)
set_option maxRecDepth 100000 in
theorem okM_X6_copyFrom : ev_okM RX6 (mi_X6_copyFrom) (tb_X6_copyFrom) cd_X6_copyFrom := ev_okM_of [] okF_X6 (okC_X6) okK_X6 (fun _ h => absurd h List.not_mem_nil) (by decide +kernel)
set_option maxRecDepth 100000 in
theorem okM_X6_given : ev_okM RX6 (mi_X6_given) (tb_X6_given) cd_X6_given := ev_okM_of [] okF_X6 (okC_X6) okK_X6 (fun _ h => absurd h List.not_mem_nil) (by decide +kernel)
set_option maxRecDepth 100000 in
theorem okM_X6_put : ev_okM RX6 (mi_X6_put) (tb_X6_put) cd_X6_put := ev_okM_of [] okF_X6 (okC_X6) okK_X6 (fun _ h => absurd h List.not_mem_nil) (by decide +kernel)
set_option maxRecDepth 100000 in
theorem okM_X6_countFor : ev_okM RX6 (mi_X6_countFor) (tb_X6_countFor) cd_X6_countFor := ev_okM_of [] okF_X6 (okC_X6) okK_X6 (fun _ h => absurd h List.not_mem_nil) (by decide +kernel)
set_option maxRecDepth 100000 in
theorem okM_X6_mean : ev_okM RX6 (mi_X6_mean) (tb_X6_mean) cd_X6_mean := ev_okM_of [] okF_X6 (okC_X6) okK_X6 (fun _ h => absurd h List.not_mem_nil) (by decide +kernel)
set_option maxRecDepth 100000 in
theorem okM_X6_meanOfAll : ev_okM RX6 (mi_X6_meanOfAll) (tb_X6_meanOfAll) cd_X6_meanOfAll := ev_okM_of [] okF_X6 (okC_X6) okK_X6 (fun _ h => absurd h List.not_mem_nil) (by decide +kernel)
set_option maxRecDepth 100000 in
theorem okM_X6_personWithLeastMean : ev_okM RX6 (mi_X6_personWithLeastMean) (tb_X6_personWithLeastMean) cd_X6_personWithLeastMean := ev_okM_of [] okF_X6 (okC_X6) okK_X6 (fun _ h => absurd h List.not_mem_nil) (by decide +kernel)
set_option maxRecDepth 100000 in
theorem okM_X6_adjusted : ev_okM RX6 (mi_X6_adjusted) (tb_X6_adjusted) cd_X6_adjusted := ev_okM_of [] okF_X6 (okC_X6) okK_X6 (fun _ h => absurd h List.not_mem_nil) (by decide +kernel)
set_option maxRecDepth 100000 in
theorem okM_X6_total : ev_okM RX6 (mi_X6_total) (tb_X6_total) cd_X6_total := ev_okM_of [] okF_X6 (okC_X6) okK_X6 (fun _ h => absurd h List.not_mem_nil) (by decide +kernel)
set_option maxRecDepth 100000 in
theorem okM_X6_spread : ev_okM RX6 (mi_X6_spread) (tb_X6_spread) cd_X6_spread := ev_okM_of [] okF_X6 (okC_X6) okK_X6 (fun _ h => absurd h List.not_mem_nil) (by decide +kernel)
set_option maxRecDepth 100000 in
theorem okM_X6_distanceFromTotals : ev_okM RX6 (mi_X6_distanceFromTotals) (tb_X6_distanceFromTotals) cd_X6_distanceFromTotals := ev_okM_of [] okF_X6 (okC_X6) okK_X6 (fun _ h => absurd h List.not_mem_nil) (by decide +kernel)
set_option maxRecDepth 100000 in
theorem okM_X6_rank : ev_okM RX6 (mi_X6_rank) (tb_X6_rank) cd_X6_rank := ev_okM_of [] okF_X6 (okC_X6) okK_X6 (fun _ h => absurd h List.not_mem_nil) (by decide +kernel)
set_option maxRecDepth 100000 in
theorem okM_X6_pancakeWithRank : ev_okM RX6 (mi_X6_pancakeWithRank) (tb_X6_pancakeWithRank) cd_X6_pancakeWithRank := ev_okM_of [] okF_X6 (okC_X6) okK_X6 (fun _ h => absurd h List.not_mem_nil) (by decide +kernel)
set_option maxRecDepth 100000 in
theorem okM_X6_comesBefore : ev_okM RX6 (mi_X6_comesBefore) (tb_X6_comesBefore) cd_X6_comesBefore := ev_okM_of [] okF_X6 (okC_X6) okK_X6 (fun _ h => absurd h List.not_mem_nil) (by decide +kernel)
set_option maxRecDepth 100000 in
theorem okM_X6_canBeTalkedOver : ev_okM RX6 (mi_X6_canBeTalkedOver) (tb_X6_canBeTalkedOver) cd_X6_canBeTalkedOver := ev_okM_of [] okF_X6 (okC_X6) okK_X6 (fun _ h => absurd h List.not_mem_nil) (by decide +kernel)
set_option maxRecDepth 100000 in
theorem okM_X6_middle : ev_okM RX6 (mi_X6_middle) (tb_X6_middle) cd_X6_middle := ev_okM_of [] okF_X6 (okC_X6) okK_X6 (fun _ h => absurd h List.not_mem_nil) (by decide +kernel)
set_option maxRecDepth 100000 in
theorem okM_X6_holdTalk : ev_okM RX6 (mi_X6_holdTalk) (tb_X6_holdTalk) cd_X6_holdTalk := ev_okM_of [] okF_X6 (okC_X6) okK_X6 (fun _ h => absurd h List.not_mem_nil) (by decide +kernel)
set_option maxRecDepth 100000 in
theorem okM_X6_makeEven : ev_okM RX6 (mi_X6_makeEven) (tb_X6_makeEven) cd_X6_makeEven := ev_okM_of [] okF_X6 (okC_X6) okK_X6 (fun _ h => absurd h List.not_mem_nil) (by decide +kernel)
set_option maxRecDepth 100000 in
theorem okM_X7_parse : ev_okM RX7 (mi_X7_parse) (tb_X7_parse) cd_X7_parse := ev_okM_of [] okF_X7 (okC_X7) okK_X7 (fun _ h => absurd h List.not_mem_nil) (by decide +kernel)
set_option maxRecDepth 100000 in
theorem okM_X7_readPerson : ev_okM RX7 (mi_X7_readPerson) (tb_X7_readPerson) cd_X7_readPerson := ev_okM_of [] okF_X7 (okC_X7) okK_X7 (fun _ h => absurd h List.not_mem_nil) (by decide +kernel)
set_option maxRecDepth 100000 in
theorem okM_X7_readTaster : ev_okM RX7 (mi_X7_readTaster) (tb_X7_readTaster) cd_X7_readTaster := ev_okM_of [] okF_X7 (okC_X7) okK_X7 (fun _ h => absurd h List.not_mem_nil) (by decide +kernel)
set_option maxRecDepth 100000 in
theorem okM_X7_readPancake : ev_okM RX7 (mi_X7_readPancake) (tb_X7_readPancake) cd_X7_readPancake := ev_okM_of [] okF_X7 (okC_X7) okK_X7 (fun _ h => absurd h List.not_mem_nil) (by decide +kernel)
set_option maxRecDepth 100000 in
theorem okM_X7_readBid : ev_okM RX7 (mi_X7_readBid) (tb_X7_readBid) cd_X7_readBid := ev_okM_of [] okF_X7 (okC_X7) okK_X7 (fun _ h => absurd h List.not_mem_nil) (by decide +kernel)
set_option maxRecDepth 100000 in
theorem okM_X7_readTogether : ev_okM RX7 (mi_X7_readTogether) (tb_X7_readTogether) cd_X7_readTogether := ev_okM_of [] okF_X7 (okC_X7) okK_X7 (fun _ h => absurd h List.not_mem_nil) (by decide +kernel)
set_option maxRecDepth 100000 in
theorem okM_X7_readConflict : ev_okM RX7 (mi_X7_readConflict) (tb_X7_readConflict) cd_X7_readConflict := ev_okM_of [] okF_X7 (okC_X7) okK_X7 (fun _ h => absurd h List.not_mem_nil) (by decide +kernel)
set_option maxRecDepth 100000 in
theorem okM_X7_readSeat : ev_okM RX7 (mi_X7_readSeat) (tb_X7_readSeat) cd_X7_readSeat := ev_okM_of [] okF_X7 (okC_X7) okK_X7 (fun _ h => absurd h List.not_mem_nil) (by decide +kernel)
set_option maxRecDepth 100000 in
theorem okM_X7_readLeave : ev_okM RX7 (mi_X7_readLeave) (tb_X7_readLeave) cd_X7_readLeave := ev_okM_of [] okF_X7 (okC_X7) okK_X7 (fun _ h => absurd h List.not_mem_nil) (by decide +kernel)
set_option maxRecDepth 100000 in
theorem okM_X7_readScore : ev_okM RX7 (mi_X7_readScore) (tb_X7_readScore) cd_X7_readScore := ev_okM_of [] okF_X7 (okC_X7) okK_X7 (fun _ h => absurd h List.not_mem_nil) (by decide +kernel)
set_option maxRecDepth 100000 in
theorem okM_X7_readTalk : ev_okM RX7 (mi_X7_readTalk) (tb_X7_readTalk) cd_X7_readTalk := ev_okM_of [] okF_X7 (okC_X7) okK_X7 (fun _ h => absurd h List.not_mem_nil) (by decide +kernel)
set_option maxRecDepth 100000 in
theorem okM_X7_readLimit : ev_okM RX7 (mi_X7_readLimit) (tb_X7_readLimit) cd_X7_readLimit := ev_okM_of [] okF_X7 (okC_X7) okK_X7 (fun _ h => absurd h List.not_mem_nil) (by decide +kernel)
set_option maxRecDepth 100000 in
theorem okM_X7_readKitchen : ev_okM RX7 (mi_X7_readKitchen) (tb_X7_readKitchen) cd_X7_readKitchen := ev_okM_of [] okF_X7 (okC_X7) okK_X7 (fun _ h => absurd h List.not_mem_nil) (by decide +kernel)
set_option maxRecDepth 100000 in
theorem okM_X7_readSwap : ev_okM RX7 (mi_X7_readSwap) (tb_X7_readSwap) cd_X7_readSwap := ev_okM_of [] okF_X7 (okC_X7) okK_X7 (fun _ h => absurd h List.not_mem_nil) (by decide +kernel)
set_option maxRecDepth 100000 in
theorem okM_X7_readClear : ev_okM RX7 (mi_X7_readClear) (tb_X7_readClear) cd_X7_readClear := ev_okM_of [] okF_X7 (okC_X7) okK_X7 (fun _ h => absurd h List.not_mem_nil) (by decide +kernel)
set_option maxRecDepth 100000 in
theorem okM_X7_readEven : ev_okM RX7 (mi_X7_readEven) (tb_X7_readEven) cd_X7_readEven := ev_okM_of [] okF_X7 (okC_X7) okK_X7 (fun _ h => absurd h List.not_mem_nil) (by decide +kernel)
set_option maxRecDepth 100000 in
theorem okM_X7_readCopy : ev_okM RX7 (mi_X7_readCopy) (tb_X7_readCopy) cd_X7_readCopy := ev_okM_of [] okF_X7 (okC_X7) okK_X7 (fun _ h => absurd h List.not_mem_nil) (by decide +kernel)
set_option maxRecDepth 100000 in
theorem okM_X7_beginRepeat : ev_okM RX7 (mi_X7_beginRepeat) (tb_X7_beginRepeat) cd_X7_beginRepeat := ev_okM_of [] okF_X7 (okC_X7) okK_X7 (fun _ h => absurd h List.not_mem_nil) (by decide +kernel)
set_option maxRecDepth 100000 in
theorem okM_X7_endPass : ev_okM RX7 (mi_X7_endPass) (tb_X7_endPass) cd_X7_endPass := ev_okM_of [] okF_X7 (okC_X7) okK_X7 (fun _ h => absurd h List.not_mem_nil) (by decide +kernel)
set_option maxRecDepth 100000 in
theorem okM_X7_number : ev_okM RX7 (mi_X7_number) (tb_X7_number) cd_X7_number := ev_okM_of [] okF_X7 (okC_X7) okK_X7 (fun _ h => absurd h List.not_mem_nil) (by decide +kernel)
set_option maxRecDepth 100000 in
theorem okM_X7_pancake : ev_okM RX7 (mi_X7_pancake) (tb_X7_pancake) cd_X7_pancake := ev_okM_of [] okF_X7 (okC_X7) okK_X7 (fun _ h => absurd h List.not_mem_nil) (by decide +kernel)
set_option maxRecDepth 100000 in
theorem okM_X7_person : ev_okM RX7 (mi_X7_person) (tb_X7_person) cd_X7_person := ev_okM_of [] okF_X7 (okC_X7) okK_X7 (fun _ h => absurd h List.not_mem_nil) (by decide +kernel)
set_option maxRecDepth 100000 in
theorem okM_X7_checkName : ev_okM RX7 (mi_X7_checkName) (tb_X7_checkName) cd_X7_checkName := ev_okM_of [] okF_X7 (okC_X7) okK_X7 (fun _ h => absurd h List.not_mem_nil) (by decide +kernel)
set_option maxRecDepth 100000 in
theorem okM_X7_checkTaster : ev_okM RX7 (mi_X7_checkTaster) (tb_X7_checkTaster) cd_X7_checkTaster := ev_okM_of [] okF_X7 (okC_X7) okK_X7 (fun _ h => absurd h List.not_mem_nil) (by decide +kernel)
set_option maxRecDepth 100000 in
theorem okM_X7_checkSeat : ev_okM RX7 (mi_X7_checkSeat) (tb_X7_checkSeat) cd_X7_checkSeat := ev_okM_of [] okF_X7 (okC_X7) okK_X7 (fun _ h => absurd h List.not_mem_nil) (by decide +kernel)
set_option maxRecDepth 100000 in
theorem okM_X7_checkScores : ev_okM RX7 (mi_X7_checkScores) (tb_X7_checkScores) cd_X7_checkScores := ev_okM_of [] okF_X7 (okC_X7) okK_X7 (fun _ h => absurd h List.not_mem_nil) (by decide +kernel)
set_option maxRecDepth 100000 in
theorem okM_X7_fail : ev_okM RX7 (mi_X7_fail) (tb_X7_fail) cd_X7_fail := ev_okM_of [] okF_X7 (okC_X7) okK_X7 (fun _ h => absurd h List.not_mem_nil) (by decide +kernel)
set_option maxRecDepth 100000 in
theorem okM_X8_get : ev_okM RX8 (mi_X8_get) (tb_X8_get) cd_X8_get := ev_okM_of [] okF_X8 (okC_X8) okK_X8 (fun _ h => absurd h List.not_mem_nil) (by decide +kernel)
set_option maxRecDepth 100000 in
theorem okM_X8_set : ev_okM RX8 (mi_X8_set) (tb_X8_set) cd_X8_set := ev_okM_of [] okF_X8 (okC_X8) okK_X8 (fun _ h => absurd h List.not_mem_nil) (by decide +kernel)
set_option maxRecDepth 100000 in
theorem okM_X8_clear : ev_okM RX8 (mi_X8_clear) (tb_X8_clear) cd_X8_clear := ev_okM_of [] okF_X8 (okC_X8) okK_X8 (fun _ h => absurd h List.not_mem_nil) (by decide +kernel)
set_option maxRecDepth 100000 in
theorem okM_X8_copyFrom : ev_okM RX8 (mi_X8_copyFrom) (tb_X8_copyFrom) cd_X8_copyFrom := ev_okM_of [] okF_X8 (okC_X8) okK_X8 (fun _ h => absurd h List.not_mem_nil) (by decide +kernel)
set_option maxRecDepth 100000 in
theorem okM_X9_split : ev_okM RX9 (mi_X9_split) (tb_X9_split) cd_X9_split := ev_okM_of [] okF_X9 (okC_X9) okK_X9 (fun _ h => absurd h List.not_mem_nil) (by decide +kernel)
set_option maxRecDepth 100000 in
theorem okM_X9_kind : ev_okM RX9 (mi_X9_kind) (tb_X9_kind) cd_X9_kind := ev_okM_of [] okF_X9 (okC_X9) okK_X9 (fun _ h => absurd h List.not_mem_nil) (by decide +kernel)
set_option maxRecDepth 100000 in
theorem okM_X9_start : ev_okM RX9 (mi_X9_start) (tb_X9_start) cd_X9_start := ev_okM_of [] okF_X9 (okC_X9) okK_X9 (fun _ h => absurd h List.not_mem_nil) (by decide +kernel)
set_option maxRecDepth 100000 in
theorem okM_X9_value : ev_okM RX9 (mi_X9_value) (tb_X9_value) cd_X9_value := ev_okM_of [] okF_X9 (okC_X9) okK_X9 (fun _ h => absurd h List.not_mem_nil) (by decide +kernel)
set_option maxRecDepth 100000 in
theorem okM_X9_add : ev_okM RX9 (mi_X9_add) (tb_X9_add) cd_X9_add := ev_okM_of [] okF_X9 (okC_X9) okK_X9 (fun _ h => absurd h List.not_mem_nil) (by decide +kernel)
set_option maxRecDepth 100000 in
theorem okM_X9_addWordAt : ev_okM RX9 (mi_X9_addWordAt) (tb_X9_addWordAt) cd_X9_addWordAt := ev_okM_of [] okF_X9 (okC_X9) okK_X9 (fun _ h => absurd h List.not_mem_nil) (by decide +kernel)
set_option maxRecDepth 100000 in
theorem okM_X9_addNumberAt : ev_okM RX9 (mi_X9_addNumberAt) (tb_X9_addNumberAt) cd_X9_addNumberAt := ev_okM_of [] okF_X9 (okC_X9) okK_X9 (fun _ h => absurd h List.not_mem_nil) (by decide +kernel)
set_option maxRecDepth 100000 in
theorem okM_X9_isLetter : ev_okM RX9 (mi_X9_isLetter) (tb_X9_isLetter) cd_X9_isLetter := ev_okM_of [] okF_X9 (okC_X9) okK_X9 (fun _ h => absurd h List.not_mem_nil) (by decide +kernel)
set_option maxRecDepth 100000 in
theorem okM_X9_isDigit : ev_okM RX9 (mi_X9_isDigit) (tb_X9_isDigit) cd_X9_isDigit := ev_okM_of [] okF_X9 (okC_X9) okK_X9 (fun _ h => absurd h List.not_mem_nil) (by decide +kernel)
set_option maxRecDepth 100000 in
theorem okM_X10_append : ev_okM RX10 (mi_X10_append) (tb_X10_append) cd_X10_append := ev_okM_of [] okF_X10 (okC_X10) okK_X10 (fun _ h => absurd h List.not_mem_nil) (by decide +kernel)
set_option maxRecDepth 100000 in
theorem okM_X10_parseSetup : ev_okM RX10 (mi_X10_parseSetup) (tb_X10_parseSetup) cd_X10_parseSetup := ev_okM_of [(15, 56, 58, 60, "length is not within the buffer", "java/lang/IndexOutOfBoundsException", 2, 142), (49, 70, 72, 74, "the setup is invalid", "java/lang/IllegalArgumentException", 4, 80)] okF_X10 (okC_X10) okK_X10 (List.forall_mem_cons.mpr ⟨okE_X10_56_60, (List.forall_mem_cons.mpr ⟨okE_X10_70_74, (fun _ h => absurd h List.not_mem_nil)⟩)⟩) (by decide +kernel)
set_option maxRecDepth 100000 in
theorem okM_X10_parseErrorCode : ev_okM RX10 (mi_X10_parseErrorCode) (tb_X10_parseErrorCode) cd_X10_parseErrorCode := ev_okM_of [] okF_X10 (okC_X10) okK_X10 (fun _ h => absurd h List.not_mem_nil) (by decide +kernel)
set_option maxRecDepth 100000 in
theorem okM_X10_parseErrorPosition : ev_okM RX10 (mi_X10_parseErrorPosition) (tb_X10_parseErrorPosition) cd_X10_parseErrorPosition := ev_okM_of [] okF_X10 (okC_X10) okK_X10 (fun _ h => absurd h List.not_mem_nil) (by decide +kernel)
set_option maxRecDepth 100000 in
theorem okM_X10_bufferLength : ev_okM RX10 (mi_X10_bufferLength) (tb_X10_bufferLength) cd_X10_bufferLength := ev_okM_of [] okF_X10 (okC_X10) okK_X10 (fun _ h => absurd h List.not_mem_nil) (by decide +kernel)
set_option maxRecDepth 100000 in
theorem okM_X10_pancakeCount : ev_okM RX10 (mi_X10_pancakeCount) (tb_X10_pancakeCount) cd_X10_pancakeCount := ev_okM_of [] okF_X10 (okC_X10) okK_X10 (fun _ h => absurd h List.not_mem_nil) (by decide +kernel)
set_option maxRecDepth 100000 in
theorem okM_X10_topicOf : ev_okM RX10 (mi_X10_topicOf) (tb_X10_topicOf) cd_X10_topicOf := ev_okM_of [] okF_X10 (okC_X10) okK_X10 (fun _ h => absurd h List.not_mem_nil) (by decide +kernel)
set_option maxRecDepth 100000 in
theorem okM_X10_cookCount : ev_okM RX10 (mi_X10_cookCount) (tb_X10_cookCount) cd_X10_cookCount := ev_okM_of [] okF_X10 (okC_X10) okK_X10 (fun _ h => absurd h List.not_mem_nil) (by decide +kernel)
set_option maxRecDepth 100000 in
theorem okM_X10_cookAt : ev_okM RX10 (mi_X10_cookAt) (tb_X10_cookAt) cd_X10_cookAt := ev_okM_of [(24, 56, 119, 60, "no such cook", "java/lang/IndexOutOfBoundsException", 4, 175)] okF_X10 (okC_X10) okK_X10 (List.forall_mem_cons.mpr ⟨okE_X10_56_60, (fun _ h => absurd h List.not_mem_nil)⟩) (by decide +kernel)
set_option maxRecDepth 100000 in
theorem okM_X10_personCount : ev_okM RX10 (mi_X10_personCount) (tb_X10_personCount) cd_X10_personCount := ev_okM_of [] okF_X10 (okC_X10) okK_X10 (fun _ h => absurd h List.not_mem_nil) (by decide +kernel)
set_option maxRecDepth 100000 in
theorem okM_X10_nameLetter : ev_okM RX10 (mi_X10_nameLetter) (tb_X10_nameLetter) cd_X10_nameLetter := ev_okM_of [] okF_X10 (okC_X10) okK_X10 (fun _ h => absurd h List.not_mem_nil) (by decide +kernel)
set_option maxRecDepth 100000 in
theorem okM_X10_kitchenOf : ev_okM RX10 (mi_X10_kitchenOf) (tb_X10_kitchenOf) cd_X10_kitchenOf := ev_okM_of [] okF_X10 (okC_X10) okK_X10 (fun _ h => absurd h List.not_mem_nil) (by decide +kernel)
set_option maxRecDepth 100000 in
theorem okM_X10_isTaster : ev_okM RX10 (mi_X10_isTaster) (tb_X10_isTaster) cd_X10_isTaster := ev_okM_of [] okF_X10 (okC_X10) okK_X10 (fun _ h => absurd h List.not_mem_nil) (by decide +kernel)
set_option maxRecDepth 100000 in
theorem okM_X10_limitOf : ev_okM RX10 (mi_X10_limitOf) (tb_X10_limitOf) cd_X10_limitOf := ev_okM_of [] okF_X10 (okC_X10) okK_X10 (fun _ h => absurd h List.not_mem_nil) (by decide +kernel)
set_option maxRecDepth 100000 in
theorem okM_X10_tasteOf : ev_okM RX10 (mi_X10_tasteOf) (tb_X10_tasteOf) cd_X10_tasteOf := ev_okM_of [(14, 56, 153, 60, "no such topic", "java/lang/IndexOutOfBoundsException", 4, 230)] okF_X10 (okC_X10) okK_X10 (List.forall_mem_cons.mpr ⟨okE_X10_56_60, (fun _ h => absurd h List.not_mem_nil)⟩) (by decide +kernel)
set_option maxRecDepth 100000 in
theorem okM_X10_bidOf : ev_okM RX10 (mi_X10_bidOf) (tb_X10_bidOf) cd_X10_bidOf := ev_okM_of [] okF_X10 (okC_X10) okK_X10 (fun _ h => absurd h List.not_mem_nil) (by decide +kernel)
set_option maxRecDepth 100000 in
theorem okM_X10_preference : ev_okM RX10 (mi_X10_preference) (tb_X10_preference) cd_X10_preference := ev_okM_of [] okF_X10 (okC_X10) okK_X10 (fun _ h => absurd h List.not_mem_nil) (by decide +kernel)
set_option maxRecDepth 100000 in
theorem okM_X10_conflict : ev_okM RX10 (mi_X10_conflict) (tb_X10_conflict) cd_X10_conflict := ev_okM_of [] okF_X10 (okC_X10) okK_X10 (fun _ h => absurd h List.not_mem_nil) (by decide +kernel)
set_option maxRecDepth 100000 in
theorem okM_X10_conflictCount : ev_okM RX10 (mi_X10_conflictCount) (tb_X10_conflictCount) cd_X10_conflictCount := ev_okM_of [] okF_X10 (okC_X10) okK_X10 (fun _ h => absurd h List.not_mem_nil) (by decide +kernel)
set_option maxRecDepth 100000 in
theorem okM_X10_favoriteOf : ev_okM RX10 (mi_X10_favoriteOf) (tb_X10_favoriteOf) cd_X10_favoriteOf := ev_okM_of [] okF_X10 (okC_X10) okK_X10 (fun _ h => absurd h List.not_mem_nil) (by decide +kernel)
set_option maxRecDepth 100000 in
theorem okM_X10_seatCount : ev_okM RX10 (mi_X10_seatCount) (tb_X10_seatCount) cd_X10_seatCount := ev_okM_of [] okF_X10 (okC_X10) okK_X10 (fun _ h => absurd h List.not_mem_nil) (by decide +kernel)
set_option maxRecDepth 100000 in
theorem okM_X10_seatAt : ev_okM RX10 (mi_X10_seatAt) (tb_X10_seatAt) cd_X10_seatAt := ev_okM_of [(24, 56, 186, 60, "no such taster", "java/lang/IndexOutOfBoundsException", 5, 55)] okF_X10 (okC_X10) okK_X10 (List.forall_mem_cons.mpr ⟨okE_X10_56_60, (fun _ h => absurd h List.not_mem_nil)⟩) (by decide +kernel)
set_option maxRecDepth 100000 in
theorem okM_X10_loadOf : ev_okM RX10 (mi_X10_loadOf) (tb_X10_loadOf) cd_X10_loadOf := ev_okM_of [] okF_X10 (okC_X10) okK_X10 (fun _ h => absurd h List.not_mem_nil) (by decide +kernel)
set_option maxRecDepth 100000 in
theorem okM_X10_refusal : ev_okM RX10 (mi_X10_refusal) (tb_X10_refusal) cd_X10_refusal := ev_okM_of [] okF_X10 (okC_X10) okK_X10 (fun _ h => absurd h List.not_mem_nil) (by decide +kernel)
set_option maxRecDepth 100000 in
theorem okM_X10_bestTaster : ev_okM RX10 (mi_X10_bestTaster) (tb_X10_bestTaster) cd_X10_bestTaster := ev_okM_of [] okF_X10 (okC_X10) okK_X10 (fun _ h => absurd h List.not_mem_nil) (by decide +kernel)
set_option maxRecDepth 100000 in
theorem okM_X10_lacking : ev_okM RX10 (mi_X10_lacking) (tb_X10_lacking) cd_X10_lacking := ev_okM_of [] okF_X10 (okC_X10) okK_X10 (fun _ h => absurd h List.not_mem_nil) (by decide +kernel)
set_option maxRecDepth 100000 in
theorem okM_X10_lackingAfterFilling : ev_okM RX10 (mi_X10_lackingAfterFilling) (tb_X10_lackingAfterFilling) cd_X10_lackingAfterFilling := ev_okM_of [] okF_X10 (okC_X10) okK_X10 (fun _ h => absurd h List.not_mem_nil) (by decide +kernel)
set_option maxRecDepth 100000 in
theorem okM_X10_scoreOf : ev_okM RX10 (mi_X10_scoreOf) (tb_X10_scoreOf) cd_X10_scoreOf := ev_okM_of [] okF_X10 (okC_X10) okK_X10 (fun _ h => absurd h List.not_mem_nil) (by decide +kernel)
set_option maxRecDepth 100000 in
theorem okM_X10_scoreCount : ev_okM RX10 (mi_X10_scoreCount) (tb_X10_scoreCount) cd_X10_scoreCount := ev_okM_of [] okF_X10 (okC_X10) okK_X10 (fun _ h => absurd h List.not_mem_nil) (by decide +kernel)
set_option maxRecDepth 100000 in
theorem okM_X10_meanOf : ev_okM RX10 (mi_X10_meanOf) (tb_X10_meanOf) cd_X10_meanOf := ev_okM_of [] okF_X10 (okC_X10) okK_X10 (fun _ h => absurd h List.not_mem_nil) (by decide +kernel)
set_option maxRecDepth 100000 in
theorem okM_X10_harshest : ev_okM RX10 (mi_X10_harshest) (tb_X10_harshest) cd_X10_harshest := ev_okM_of [] okF_X10 (okC_X10) okK_X10 (fun _ h => absurd h List.not_mem_nil) (by decide +kernel)
set_option maxRecDepth 100000 in
theorem okM_X10_disagreement : ev_okM RX10 (mi_X10_disagreement) (tb_X10_disagreement) cd_X10_disagreement := ev_okM_of [] okF_X10 (okC_X10) okK_X10 (fun _ h => absurd h List.not_mem_nil) (by decide +kernel)
set_option maxRecDepth 100000 in
theorem okM_X10_adjustedScore : ev_okM RX10 (mi_X10_adjustedScore) (tb_X10_adjustedScore) cd_X10_adjustedScore := ev_okM_of [] okF_X10 (okC_X10) okK_X10 (fun _ h => absurd h List.not_mem_nil) (by decide +kernel)
set_option maxRecDepth 100000 in
theorem okM_X10_totalOf : ev_okM RX10 (mi_X10_totalOf) (tb_X10_totalOf) cd_X10_totalOf := ev_okM_of [] okF_X10 (okC_X10) okK_X10 (fun _ h => absurd h List.not_mem_nil) (by decide +kernel)
set_option maxRecDepth 100000 in
theorem okM_X10_spreadOf : ev_okM RX10 (mi_X10_spreadOf) (tb_X10_spreadOf) cd_X10_spreadOf := ev_okM_of [] okF_X10 (okC_X10) okK_X10 (fun _ h => absurd h List.not_mem_nil) (by decide +kernel)
set_option maxRecDepth 100000 in
theorem okM_X10_needsTalk : ev_okM RX10 (mi_X10_needsTalk) (tb_X10_needsTalk) cd_X10_needsTalk := ev_okM_of [] okF_X10 (okC_X10) okK_X10 (fun _ h => absurd h List.not_mem_nil) (by decide +kernel)
set_option maxRecDepth 100000 in
theorem okM_X10_spreadAfterTalk : ev_okM RX10 (mi_X10_spreadAfterTalk) (tb_X10_spreadAfterTalk) cd_X10_spreadAfterTalk := ev_okM_of [] okF_X10 (okC_X10) okK_X10 (fun _ h => absurd h List.not_mem_nil) (by decide +kernel)
set_option maxRecDepth 100000 in
theorem okM_X10_rankOf : ev_okM RX10 (mi_X10_rankOf) (tb_X10_rankOf) cd_X10_rankOf := ev_okM_of [] okF_X10 (okC_X10) okK_X10 (fun _ h => absurd h List.not_mem_nil) (by decide +kernel)
set_option maxRecDepth 100000 in
theorem okM_X10_pancakeAt : ev_okM RX10 (mi_X10_pancakeAt) (tb_X10_pancakeAt) cd_X10_pancakeAt := ev_okM_of [(19, 56, 247, 60, "no such rank", "java/lang/IndexOutOfBoundsException", 5, 235)] okF_X10 (okC_X10) okK_X10 (List.forall_mem_cons.mpr ⟨okE_X10_56_60, (fun _ h => absurd h List.not_mem_nil)⟩) (by decide +kernel)
set_option maxRecDepth 100000 in
theorem okM_X10_isAccepted : ev_okM RX10 (mi_X10_isAccepted) (tb_X10_isAccepted) cd_X10_isAccepted := ev_okM_of [] okF_X10 (okC_X10) okK_X10 (fun _ h => absurd h List.not_mem_nil) (by decide +kernel)
set_option maxRecDepth 100000 in
theorem okM_X10_fillCount : ev_okM RX10 (mi_X10_fillCount) (tb_X10_fillCount) cd_X10_fillCount := ev_okM_of [] okF_X10 (okC_X10) okK_X10 (fun _ h => absurd h List.not_mem_nil) (by decide +kernel)
set_option maxRecDepth 100000 in
theorem okM_X10_moveCount : ev_okM RX10 (mi_X10_moveCount) (tb_X10_moveCount) cd_X10_moveCount := ev_okM_of [] okF_X10 (okC_X10) okK_X10 (fun _ h => absurd h List.not_mem_nil) (by decide +kernel)
set_option maxRecDepth 100000 in
theorem okM_X10_talkCount : ev_okM RX10 (mi_X10_talkCount) (tb_X10_talkCount) cd_X10_talkCount := ev_okM_of [] okF_X10 (okC_X10) okK_X10 (fun _ h => absurd h List.not_mem_nil) (by decide +kernel)
set_option maxRecDepth 100000 in
theorem okM_X10_changeCount : ev_okM RX10 (mi_X10_changeCount) (tb_X10_changeCount) cd_X10_changeCount := ev_okM_of [] okF_X10 (okC_X10) okK_X10 (fun _ h => absurd h List.not_mem_nil) (by decide +kernel)
set_option maxRecDepth 100000 in
theorem okM_X10_imbalance : ev_okM RX10 (mi_X10_imbalance) (tb_X10_imbalance) cd_X10_imbalance := ev_okM_of [] okF_X10 (okC_X10) okK_X10 (fun _ h => absurd h List.not_mem_nil) (by decide +kernel)
set_option maxRecDepth 100000 in
theorem okM_X10_writePancake : ev_okM RX10 (mi_X10_writePancake) (tb_X10_writePancake) cd_X10_writePancake := ev_okM_of [] okF_X10 (okC_X10) okK_X10 (fun _ h => absurd h List.not_mem_nil) (by decide +kernel)
set_option maxRecDepth 100000 in
theorem okM_X10_writeBids : ev_okM RX10 (mi_X10_writeBids) (tb_X10_writeBids) cd_X10_writeBids := ev_okM_of [] okF_X10 (okC_X10) okK_X10 (fun _ h => absurd h List.not_mem_nil) (by decide +kernel)
set_option maxRecDepth 100000 in
theorem okM_X10_outputByte : ev_okM RX10 (mi_X10_outputByte) (tb_X10_outputByte) cd_X10_outputByte := ev_okM_of [(15, 56, 306, 60, "no such byte", "java/lang/IndexOutOfBoundsException", 6, 114)] okF_X10 (okC_X10) okK_X10 (List.forall_mem_cons.mpr ⟨okE_X10_56_60, (fun _ h => absurd h List.not_mem_nil)⟩) (by decide +kernel)
set_option maxRecDepth 100000 in
theorem okM_X10_bid : ev_okM RX10 (mi_X10_bid) (tb_X10_bid) cd_X10_bid := ev_okM_of [(26, 70, 310, 74, "no taster, or no such bid", "java/lang/IllegalArgumentException", 6, 123)] okF_X10 (okC_X10) okK_X10 (List.forall_mem_cons.mpr ⟨okE_X10_70_74, (fun _ h => absurd h List.not_mem_nil)⟩) (by decide +kernel)
set_option maxRecDepth 100000 in
theorem okM_X10_assign : ev_okM RX10 (mi_X10_assign) (tb_X10_assign) cd_X10_assign := ev_okM_of [(19, 70, 319, 74, "the person can not taste the pancake", "java/lang/IllegalArgumentException", 6, 138)] okF_X10 (okC_X10) okK_X10 (List.forall_mem_cons.mpr ⟨okE_X10_70_74, (fun _ h => absurd h List.not_mem_nil)⟩) (by decide +kernel)
set_option maxRecDepth 100000 in
theorem okM_X10_unassign : ev_okM RX10 (mi_X10_unassign) (tb_X10_unassign) cd_X10_unassign := ev_okM_of [] okF_X10 (okC_X10) okK_X10 (fun _ h => absurd h List.not_mem_nil) (by decide +kernel)
set_option maxRecDepth 100000 in
theorem okM_X10_fill : ev_okM RX10 (mi_X10_fill) (tb_X10_fill) cd_X10_fill := ev_okM_of [] okF_X10 (okC_X10) okK_X10 (fun _ h => absurd h List.not_mem_nil) (by decide +kernel)
set_option maxRecDepth 100000 in
theorem okM_X10_score : ev_okM RX10 (mi_X10_score) (tb_X10_score) cd_X10_score := ev_okM_of [(23, 70, 329, 74, "no such score", "java/lang/IllegalArgumentException", 6, 167)] okF_X10 (okC_X10) okK_X10 (List.forall_mem_cons.mpr ⟨okE_X10_70_74, (fun _ h => absurd h List.not_mem_nil)⟩) (by decide +kernel)
set_option maxRecDepth 100000 in
theorem okM_X10_talk : ev_okM RX10 (mi_X10_talk) (tb_X10_talk) cd_X10_talk := ev_okM_of [(19, 70, 334, 74, "the pancake has less than 2 scores", "java/lang/IllegalArgumentException", 6, 176)] okF_X10 (okC_X10) okK_X10 (List.forall_mem_cons.mpr ⟨okE_X10_70_74, (fun _ h => absurd h List.not_mem_nil)⟩) (by decide +kernel)
set_option maxRecDepth 100000 in
theorem okM_X10_declare : ev_okM RX10 (mi_X10_declare) (tb_X10_declare) cd_X10_declare := ev_okM_of [] okF_X10 (okC_X10) okK_X10 (fun _ h => absurd h List.not_mem_nil) (by decide +kernel)
set_option maxRecDepth 100000 in
theorem okM_X10_undo : ev_okM RX10 (mi_X10_undo) (tb_X10_undo) cd_X10_undo := ev_okM_of [(10, 340, 342, 344, "there is nothing to undo", "java/lang/IllegalStateException", 6, 191)] okF_X10 (okC_X10) okK_X10 (List.forall_mem_cons.mpr ⟨okE_X10_340_344, (fun _ h => absurd h List.not_mem_nil)⟩) (by decide +kernel)
set_option maxRecDepth 100000 in
theorem okM_X10_undoCount : ev_okM RX10 (mi_X10_undoCount) (tb_X10_undoCount) cd_X10_undoCount := ev_okM_of [] okF_X10 (okC_X10) okK_X10 (fun _ h => absurd h List.not_mem_nil) (by decide +kernel)
set_option maxRecDepth 100000 in
theorem okM_X10_saveState : ev_okM RX10 (mi_X10_saveState) (tb_X10_saveState) cd_X10_saveState := ev_okM_of [(17, 56, 348, 60, "no such slot", "java/lang/IndexOutOfBoundsException", 6, 203)] okF_X10 (okC_X10) okK_X10 (List.forall_mem_cons.mpr ⟨okE_X10_56_60, (fun _ h => absurd h List.not_mem_nil)⟩) (by decide +kernel)
set_option maxRecDepth 100000 in
theorem okM_X10_restoreState : ev_okM RX10 (mi_X10_restoreState) (tb_X10_restoreState) cd_X10_restoreState := ev_okM_of [(13, 56, 348, 60, "no such slot", "java/lang/IndexOutOfBoundsException", 6, 203), (36, 340, 350, 344, "no state is saved in the slot", "java/lang/IllegalStateException", 6, 211)] okF_X10 (okC_X10) okK_X10 (List.forall_mem_cons.mpr ⟨okE_X10_56_60, (List.forall_mem_cons.mpr ⟨okE_X10_340_344, (fun _ h => absurd h List.not_mem_nil)⟩)⟩) (by decide +kernel)
set_option maxRecDepth 100000 in
theorem okM_X10_requirePanel : ev_okM RX10 (mi_X10_requirePanel) (tb_X10_requirePanel) cd_X10_requirePanel := ev_okM_of [(10, 340, 352, 344, "no setup has been loaded", "java/lang/IllegalStateException", 4, 140)] okF_X10 (okC_X10) okK_X10 (List.forall_mem_cons.mpr ⟨okE_X10_340_344, (fun _ h => absurd h List.not_mem_nil)⟩) (by decide +kernel)
set_option maxRecDepth 100000 in
theorem okM_X10_requirePerson : ev_okM RX10 (mi_X10_requirePerson) (tb_X10_requirePerson) cd_X10_requirePerson := ev_okM_of [(19, 56, 354, 60, "no such person", "java/lang/IndexOutOfBoundsException", 4, 195)] okF_X10 (okC_X10) okK_X10 (List.forall_mem_cons.mpr ⟨okE_X10_56_60, (fun _ h => absurd h List.not_mem_nil)⟩) (by decide +kernel)
set_option maxRecDepth 100000 in
theorem okM_X10_requirePancake : ev_okM RX10 (mi_X10_requirePancake) (tb_X10_requirePancake) cd_X10_requirePancake := ev_okM_of [(19, 56, 356, 60, "no such pancake", "java/lang/IndexOutOfBoundsException", 4, 158)] okF_X10 (okC_X10) okK_X10 (List.forall_mem_cons.mpr ⟨okE_X10_56_60, (fun _ h => absurd h List.not_mem_nil)⟩) (by decide +kernel)
set_option maxRecDepth 100000 in
theorem okM_X10_requirePair : ev_okM RX10 (mi_X10_requirePair) (tb_X10_requirePair) cd_X10_requirePair := ev_okM_of [] okF_X10 (okC_X10) okK_X10 (fun _ h => absurd h List.not_mem_nil) (by decide +kernel)
set_option maxRecDepth 100000 in
theorem okM_X10_requireSeat : ev_okM RX10 (mi_X10_requireSeat) (tb_X10_requireSeat) cd_X10_requireSeat := ev_okM_of [(15, 70, 358, 74, "the person does not taste the pancake", "java/lang/IllegalArgumentException", 6, 151)] okF_X10 (okC_X10) okK_X10 (List.forall_mem_cons.mpr ⟨okE_X10_70_74, (fun _ h => absurd h List.not_mem_nil)⟩) (by decide +kernel)
set_option maxRecDepth 100000 in
theorem okM_X10_writeTaster : ev_okM RX10 (mi_X10_writeTaster) (tb_X10_writeTaster) cd_X10_writeTaster := ev_okM_of [] okF_X10 (okC_X10) okK_X10 (fun _ h => absurd h List.not_mem_nil) (by decide +kernel)
set_option maxRecDepth 100000 in
theorem okM_X10_cell : ev_okM RX10 (mi_X10_cell) (tb_X10_cell) cd_X10_cell := ev_okM_of [] okF_X10 (okC_X10) okK_X10 (fun _ h => absurd h List.not_mem_nil) (by decide +kernel)
set_option maxRecDepth 100000 in
theorem okM_X10_setCell : ev_okM RX10 (mi_X10_setCell) (tb_X10_setCell) cd_X10_setCell := ev_okM_of [] okF_X10 (okC_X10) okK_X10 (fun _ h => absurd h List.not_mem_nil) (by decide +kernel)
set_option maxRecDepth 100000 in
theorem okM_X10_copyRow : ev_okM RX10 (mi_X10_copyRow) (tb_X10_copyRow) cd_X10_copyRow := ev_okM_of [] okF_X10 (okC_X10) okK_X10 (fun _ h => absurd h List.not_mem_nil) (by decide +kernel)
set_option maxRecDepth 100000 in
theorem okM_X10_letterCount : ev_okM RX10 (mi_X10_letterCount) (tb_X10_letterCount) cd_X10_letterCount := ev_okM_of [] okF_X10 (okC_X10) okK_X10 (fun _ h => absurd h List.not_mem_nil) (by decide +kernel)
set_option maxRecDepth 100000 in
theorem okM_X10_letterOf : ev_okM RX10 (mi_X10_letterOf) (tb_X10_letterOf) cd_X10_letterOf := ev_okM_of [] okF_X10 (okC_X10) okK_X10 (fun _ h => absurd h List.not_mem_nil) (by decide +kernel)
set_option maxRecDepth 100000 in
theorem okM_X11_thrown (r : Nat) : ev_okM RX11 (mi_X11_thrown) (tb_X11_thrown r) cd_X11_thrown := ev_okM_of [] okF_X11 (okC_X11 r) okK_X11 (fun _ h => absurd h List.not_mem_nil) (by decide +kernel)
set_option maxRecDepth 100000 in
theorem okM_X11_in (r : Nat) : ev_okM RX11 (mi_X11_in) (tb_X11_in r) cd_X11_in := ev_okM_of [] okF_X11 (okC_X11 r) okK_X11 (fun _ h => absurd h List.not_mem_nil) (by decide +kernel)
set_option maxRecDepth 100000 in
theorem okM_X11_one (r : Nat) : ev_okM RX11 (mi_X11_one) (tb_X11_one r) cd_X11_one := ev_okM_of [] okF_X11 (okC_X11 r) okK_X11 (fun _ h => absurd h List.not_mem_nil) (by decide +kernel)
set_option maxRecDepth 100000 in
theorem okM_X11_may (r : Nat) : ev_okM RX11 (mi_X11_may) (tb_X11_may r) cd_X11_may := ev_okM_of [] okF_X11 (okC_X11 r) okK_X11 (fun _ h => absurd h List.not_mem_nil) (by decide +kernel)
set_option maxRecDepth 100000 in
theorem okM_X11_mayTwo (r : Nat) : ev_okM RX11 (mi_X11_mayTwo) (tb_X11_mayTwo r) cd_X11_mayTwo := ev_okM_of [] okF_X11 (okC_X11 r) okK_X11 (fun _ h => absurd h List.not_mem_nil) (by decide +kernel)
set_option maxRecDepth 100000 in
theorem okM_X11_mayLook (r : Nat) : ev_okM RX11 (mi_X11_mayLook) (tb_X11_mayLook r) cd_X11_mayLook := ev_okM_of [] okF_X11 (okC_X11 r) okK_X11 (fun _ h => absurd h List.not_mem_nil) (by decide +kernel)
set_option maxRecDepth 100000 in
theorem okM_X11_lays (r : Nat) : ev_okM RX11 (mi_X11_lays) (tb_X11_lays r) cd_X11_lays := ev_okM_of [] okF_X11 (okC_X11 r) okK_X11 (fun _ h => absurd h List.not_mem_nil) (by decide +kernel)
set_option maxRecDepth 100000 in
theorem okM_X11_thinks (r : Nat) : ev_okM RX11 (mi_X11_thinks) (tb_X11_thinks r) cd_X11_thinks := ev_okM_of [] okF_X11 (okC_X11 r) okK_X11 (fun _ h => absurd h List.not_mem_nil) (by decide +kernel)
set_option maxRecDepth 100000 in
theorem okM_X11_back (r : Nat) : ev_okM RX11 (mi_X11_back) (tb_X11_back r) cd_X11_back := ev_okM_of [] okF_X11 (okC_X11 r) okK_X11 (fun _ h => absurd h List.not_mem_nil) (by decide +kernel)
set_option maxRecDepth 100000 in
theorem okM_X11_append (r : Nat) : ev_okM RX11 (mi_X11_append) (tb_X11_append r) cd_X11_append := ev_okM_of [] okF_X11 (okC_X11 r) okK_X11 (fun _ h => absurd h List.not_mem_nil) (by decide +kernel)
set_option maxRecDepth 100000 in
theorem okM_X11_four (r : Nat) : ev_okM RX11 (mi_X11_four) (tb_X11_four r) cd_X11_four := ev_okM_of [] okF_X11 (okC_X11 r) okK_X11 (fun _ h => absurd h List.not_mem_nil) (by decide +kernel)
set_option maxRecDepth 100000 in
theorem okM_X11_told (r : Nat) : ev_okM RX11 (mi_X11_told) (tb_X11_told r) cd_X11_told := ev_okM_of [] okF_X11 (okC_X11 r) okK_X11 (fun _ h => absurd h List.not_mem_nil) (by decide +kernel)
set_option maxRecDepth 100000 in
theorem okM_X11_parseErrorCode (r : Nat) : ev_okM RX11 (mi_X11_parseErrorCode) (tb_X11_parseErrorCode r) cd_X11_parseErrorCode := ev_okM_of [] okF_X11 (okC_X11 r) okK_X11 (fun _ h => absurd h List.not_mem_nil) (by decide +kernel)
set_option maxRecDepth 100000 in
theorem okM_X11_parseErrorPosition (r : Nat) : ev_okM RX11 (mi_X11_parseErrorPosition) (tb_X11_parseErrorPosition r) cd_X11_parseErrorPosition := ev_okM_of [] okF_X11 (okC_X11 r) okK_X11 (fun _ h => absurd h List.not_mem_nil) (by decide +kernel)
set_option maxRecDepth 100000 in
theorem okM_X11_bufferLength (r : Nat) : ev_okM RX11 (mi_X11_bufferLength) (tb_X11_bufferLength r) cd_X11_bufferLength := ev_okM_of [] okF_X11 (okC_X11 r) okK_X11 (fun _ h => absurd h List.not_mem_nil) (by decide +kernel)
set_option maxRecDepth 100000 in
theorem okM_X11_isSmall (r : Nat) : ev_okM RX11 (mi_X11_isSmall) (tb_X11_isSmall r) cd_X11_isSmall := ev_okM_of [] okF_X11 (okC_X11 r) okK_X11 (fun _ h => absurd h List.not_mem_nil) (by decide +kernel)
set_option maxRecDepth 100000 in
theorem okM_X11_isDigit (r : Nat) : ev_okM RX11 (mi_X11_isDigit) (tb_X11_isDigit r) cd_X11_isDigit := ev_okM_of [] okF_X11 (okC_X11 r) okK_X11 (fun _ h => absurd h List.not_mem_nil) (by decide +kernel)
set_option maxRecDepth 100000 in
theorem okM_X11_goes (r : Nat) : ev_okM RX11 (mi_X11_goes) (tb_X11_goes r) cd_X11_goes := ev_okM_of [] okF_X11 (okC_X11 r) okK_X11 (fun _ h => absurd h List.not_mem_nil) (by decide +kernel)
set_option maxRecDepth 100000 in
theorem okM_X11_signOf (r : Nat) : ev_okM RX11 (mi_X11_signOf) (tb_X11_signOf r) cd_X11_signOf := ev_okM_of [] okF_X11 (okC_X11 r) okK_X11 (fun _ h => absurd h List.not_mem_nil) (by decide +kernel)
set_option maxRecDepth 100000 in
theorem okM_X11_faults (r : Nat) : ev_okM RX11 (mi_X11_faults) (tb_X11_faults r) cd_X11_faults := ev_okM_of [] okF_X11 (okC_X11 r) okK_X11 (fun _ h => absurd h List.not_mem_nil) (by decide +kernel)
set_option maxRecDepth 100000 in
theorem okM_X11_refuses (r : Nat) : ev_okM RX11 (mi_X11_refuses) (tb_X11_refuses r) cd_X11_refuses := ev_okM_of [] okF_X11 (okC_X11 r) okK_X11 (fun _ h => absurd h List.not_mem_nil) (by decide +kernel)
set_option maxRecDepth 100000 in
theorem okM_X11_limits (r : Nat) : ev_okM RX11 (mi_X11_limits) (tb_X11_limits r) cd_X11_limits := ev_okM_of [] okF_X11 (okC_X11 r) okK_X11 (fun _ h => absurd h List.not_mem_nil) (by decide +kernel)
set_option maxRecDepth 100000 in
theorem okM_X11_is (r : Nat) : ev_okM RX11 (mi_X11_is) (tb_X11_is r) cd_X11_is := ev_okM_of [] okF_X11 (okC_X11 r) okK_X11 (fun _ h => absurd h List.not_mem_nil) (by decide +kernel)
set_option maxRecDepth 100000 in
theorem okM_X11_isWord (r : Nat) : ev_okM RX11 (mi_X11_isWord) (tb_X11_isWord r) cd_X11_isWord := ev_okM_of [] okF_X11 (okC_X11 r) okK_X11 (fun _ h => absurd h List.not_mem_nil) (by decide +kernel)
set_option maxRecDepth 100000 in
theorem okM_X11_numberHere (r : Nat) : ev_okM RX11 (mi_X11_numberHere) (tb_X11_numberHere r) cd_X11_numberHere := ev_okM_of [] okF_X11 (okC_X11 r) okK_X11 (fun _ h => absurd h List.not_mem_nil) (by decide +kernel)
set_option maxRecDepth 100000 in
theorem okM_X11_readNumber (r : Nat) : ev_okM RX11 (mi_X11_readNumber) (tb_X11_readNumber r) cd_X11_readNumber := ev_okM_of [] okF_X11 (okC_X11 r) okK_X11 (fun _ h => absurd h List.not_mem_nil) (by decide +kernel)
set_option maxRecDepth 100000 in
theorem okM_X11_isNamed (r : Nat) : ev_okM RX11 (mi_X11_isNamed) (tb_X11_isNamed r) cd_X11_isNamed := ev_okM_of [] okF_X11 (okC_X11 r) okK_X11 (fun _ h => absurd h List.not_mem_nil) (by decide +kernel)
set_option maxRecDepth 100000 in
theorem okM_X11_personNamed (r : Nat) : ev_okM RX11 (mi_X11_personNamed) (tb_X11_personNamed r) cd_X11_personNamed := ev_okM_of [] okF_X11 (okC_X11 r) okK_X11 (fun _ h => absurd h List.not_mem_nil) (by decide +kernel)
set_option maxRecDepth 100000 in
theorem okM_X11_wantsName (r : Nat) : ev_okM RX11 (mi_X11_wantsName) (tb_X11_wantsName r) cd_X11_wantsName := ev_okM_of [] okF_X11 (okC_X11 r) okK_X11 (fun _ h => absurd h List.not_mem_nil) (by decide +kernel)
set_option maxRecDepth 100000 in
theorem okM_X11_personHere (r : Nat) : ev_okM RX11 (mi_X11_personHere) (tb_X11_personHere r) cd_X11_personHere := ev_okM_of [] okF_X11 (okC_X11 r) okK_X11 (fun _ h => absurd h List.not_mem_nil) (by decide +kernel)
set_option maxRecDepth 100000 in
theorem okM_X11_readPerson (r : Nat) : ev_okM RX11 (mi_X11_readPerson) (tb_X11_readPerson r) cd_X11_readPerson := ev_okM_of [] okF_X11 (okC_X11 r) okK_X11 (fun _ h => absurd h List.not_mem_nil) (by decide +kernel)
set_option maxRecDepth 100000 in
theorem okM_X11_readTaster (r : Nat) : ev_okM RX11 (mi_X11_readTaster) (tb_X11_readTaster r) cd_X11_readTaster := ev_okM_of [] okF_X11 (okC_X11 r) okK_X11 (fun _ h => absurd h List.not_mem_nil) (by decide +kernel)
set_option maxRecDepth 100000 in
theorem okM_X11_pancakeHere (r : Nat) : ev_okM RX11 (mi_X11_pancakeHere) (tb_X11_pancakeHere r) cd_X11_pancakeHere := ev_okM_of [] okF_X11 (okC_X11 r) okK_X11 (fun _ h => absurd h List.not_mem_nil) (by decide +kernel)
set_option maxRecDepth 100000 in
theorem okM_X11_readPancake (r : Nat) : ev_okM RX11 (mi_X11_readPancake) (tb_X11_readPancake r) cd_X11_readPancake := ev_okM_of [] okF_X11 (okC_X11 r) okK_X11 (fun _ h => absurd h List.not_mem_nil) (by decide +kernel)
set_option maxRecDepth 100000 in
theorem okM_X11_readsPerson (r : Nat) : ev_okM RX11 (mi_X11_readsPerson) (tb_X11_readsPerson r) cd_X11_readsPerson := ev_okM_of [] okF_X11 (okC_X11 r) okK_X11 (fun _ h => absurd h List.not_mem_nil) (by decide +kernel)
set_option maxRecDepth 100000 in
theorem okM_X11_readsTaster (r : Nat) : ev_okM RX11 (mi_X11_readsTaster) (tb_X11_readsTaster r) cd_X11_readsTaster := ev_okM_of [] okF_X11 (okC_X11 r) okK_X11 (fun _ h => absurd h List.not_mem_nil) (by decide +kernel)
set_option maxRecDepth 100000 in
theorem okM_X11_readsPancake (r : Nat) : ev_okM RX11 (mi_X11_readsPancake) (tb_X11_readsPancake r) cd_X11_readsPancake := ev_okM_of [] okF_X11 (okC_X11 r) okK_X11 (fun _ h => absurd h List.not_mem_nil) (by decide +kernel)
set_option maxRecDepth 100000 in
theorem okM_X11_readsBid (r : Nat) : ev_okM RX11 (mi_X11_readsBid) (tb_X11_readsBid r) cd_X11_readsBid := ev_okM_of [] okF_X11 (okC_X11 r) okK_X11 (fun _ h => absurd h List.not_mem_nil) (by decide +kernel)
set_option maxRecDepth 100000 in
theorem okM_X11_readsTogether (r : Nat) : ev_okM RX11 (mi_X11_readsTogether) (tb_X11_readsTogether r) cd_X11_readsTogether := ev_okM_of [] okF_X11 (okC_X11 r) okK_X11 (fun _ h => absurd h List.not_mem_nil) (by decide +kernel)
set_option maxRecDepth 100000 in
theorem okM_X11_readsConflict (r : Nat) : ev_okM RX11 (mi_X11_readsConflict) (tb_X11_readsConflict r) cd_X11_readsConflict := ev_okM_of [] okF_X11 (okC_X11 r) okK_X11 (fun _ h => absurd h List.not_mem_nil) (by decide +kernel)
set_option maxRecDepth 100000 in
theorem okM_X11_readsSeat (r : Nat) : ev_okM RX11 (mi_X11_readsSeat) (tb_X11_readsSeat r) cd_X11_readsSeat := ev_okM_of [] okF_X11 (okC_X11 r) okK_X11 (fun _ h => absurd h List.not_mem_nil) (by decide +kernel)
set_option maxRecDepth 100000 in
theorem okM_X11_readsFill (r : Nat) : ev_okM RX11 (mi_X11_readsFill) (tb_X11_readsFill r) cd_X11_readsFill := ev_okM_of [] okF_X11 (okC_X11 r) okK_X11 (fun _ h => absurd h List.not_mem_nil) (by decide +kernel)
set_option maxRecDepth 100000 in
theorem okM_X11_tastedHere (r : Nat) : ev_okM RX11 (mi_X11_tastedHere) (tb_X11_tastedHere r) cd_X11_tastedHere := ev_okM_of [] okF_X11 (okC_X11 r) okK_X11 (fun _ h => absurd h List.not_mem_nil) (by decide +kernel)
set_option maxRecDepth 100000 in
theorem okM_X11_readsLeave (r : Nat) : ev_okM RX11 (mi_X11_readsLeave) (tb_X11_readsLeave r) cd_X11_readsLeave := ev_okM_of [] okF_X11 (okC_X11 r) okK_X11 (fun _ h => absurd h List.not_mem_nil) (by decide +kernel)
set_option maxRecDepth 100000 in
theorem okM_X11_readsScore (r : Nat) : ev_okM RX11 (mi_X11_readsScore) (tb_X11_readsScore r) cd_X11_readsScore := ev_okM_of [] okF_X11 (okC_X11 r) okK_X11 (fun _ h => absurd h List.not_mem_nil) (by decide +kernel)
set_option maxRecDepth 100000 in
theorem okM_X11_readsTalk (r : Nat) : ev_okM RX11 (mi_X11_readsTalk) (tb_X11_readsTalk r) cd_X11_readsTalk := ev_okM_of [] okF_X11 (okC_X11 r) okK_X11 (fun _ h => absurd h List.not_mem_nil) (by decide +kernel)
set_option maxRecDepth 100000 in
theorem okM_X11_readsLimit (r : Nat) : ev_okM RX11 (mi_X11_readsLimit) (tb_X11_readsLimit r) cd_X11_readsLimit := ev_okM_of [] okF_X11 (okC_X11 r) okK_X11 (fun _ h => absurd h List.not_mem_nil) (by decide +kernel)
set_option maxRecDepth 100000 in
theorem okM_X11_readsKitchen (r : Nat) : ev_okM RX11 (mi_X11_readsKitchen) (tb_X11_readsKitchen r) cd_X11_readsKitchen := ev_okM_of [] okF_X11 (okC_X11 r) okK_X11 (fun _ h => absurd h List.not_mem_nil) (by decide +kernel)
set_option maxRecDepth 100000 in
theorem okM_X11_readsSwap (r : Nat) : ev_okM RX11 (mi_X11_readsSwap) (tb_X11_readsSwap r) cd_X11_readsSwap := ev_okM_of [] okF_X11 (okC_X11 r) okK_X11 (fun _ h => absurd h List.not_mem_nil) (by decide +kernel)
set_option maxRecDepth 100000 in
theorem okM_X11_readsClear (r : Nat) : ev_okM RX11 (mi_X11_readsClear) (tb_X11_readsClear r) cd_X11_readsClear := ev_okM_of [] okF_X11 (okC_X11 r) okK_X11 (fun _ h => absurd h List.not_mem_nil) (by decide +kernel)
set_option maxRecDepth 100000 in
theorem okM_X11_readsEven (r : Nat) : ev_okM RX11 (mi_X11_readsEven) (tb_X11_readsEven r) cd_X11_readsEven := ev_okM_of [] okF_X11 (okC_X11 r) okK_X11 (fun _ h => absurd h List.not_mem_nil) (by decide +kernel)
set_option maxRecDepth 100000 in
theorem okM_X11_readsCopy (r : Nat) : ev_okM RX11 (mi_X11_readsCopy) (tb_X11_readsCopy r) cd_X11_readsCopy := ev_okM_of [] okF_X11 (okC_X11 r) okK_X11 (fun _ h => absurd h List.not_mem_nil) (by decide +kernel)
set_option maxRecDepth 100000 in
theorem okM_X11_readsItems (r : Nat) : ev_okM RX11 (mi_X11_readsItems r) (tb_X11_readsItems r) cd_X11_readsItems := ev_okM_of [] okF_X11 (okC_X11 r) okK_X11 (fun _ h => absurd h List.not_mem_nil) (by show ev_okMb RX11 yX11_readsItems cX11_readsItems 1 none cd_X11_readsItems th_X11 1 false [] = true; decide +kernel)
set_option maxRecDepth 100000 in
theorem okM_X11_readsRepeat (r : Nat) : ev_okM RX11 (mi_X11_readsRepeat r) (tb_X11_readsRepeat r) cd_X11_readsRepeat := ev_okM_of [] okF_X11 (okC_X11 r) okK_X11 (fun _ h => absurd h List.not_mem_nil) (by show ev_okMb RX11 yX11_readsRepeat cX11_readsRepeat 4 none cd_X11_readsRepeat th_X11 4 false [] = true; decide +kernel)
set_option maxRecDepth 100000 in
theorem okM_X11_readsItem (r : Nat) : ev_okM RX11 (mi_X11_readsItem r) (tb_X11_readsItem r) cd_X11_readsItem := ev_okM_of [] okF_X11 (okC_X11 r) okK_X11 (fun _ h => absurd h List.not_mem_nil) (by show ev_okMb RX11 yX11_readsItem cX11_readsItem 1 none cd_X11_readsItem th_X11 1 false [] = true; decide +kernel)
set_option maxRecDepth 100000 in
theorem okM_X11_readsMore (r : Nat) : ev_okM RX11 (mi_X11_readsMore r) (tb_X11_readsMore r) cd_X11_readsMore := ev_okM_of [] okF_X11 (okC_X11 r) okK_X11 (fun _ h => absurd h List.not_mem_nil) (by show ev_okMb RX11 yX11_readsMore cX11_readsMore 1 none cd_X11_readsMore th_X11 1 false [] = true; decide +kernel)
set_option maxRecDepth 100000 in
theorem okM_X11_readsText (r : Nat) : ev_okM RX11 (mi_X11_readsText) (tb_X11_readsText r) cd_X11_readsText := ev_okM_of [] okF_X11 (okC_X11 r) okK_X11 (fun _ h => absurd h List.not_mem_nil) (by decide +kernel)
set_option maxRecDepth 100000 in
theorem okM_X11_parseSetup (r : Nat) : ev_okM RX11 (mi_X11_parseSetup) (tb_X11_parseSetup r) cd_X11_parseSetup := ev_okM_of [] okF_X11 (okC_X11 r) okK_X11 (fun _ h => absurd h List.not_mem_nil) (by decide +kernel)
set_option maxRecDepth 100000 in
theorem okM_X11_of (r : Nat) : ev_okM RX11 (mi_X11_of) (tb_X11_of r) cd_X11_of := ev_okM_of [] okF_X11 (okC_X11 r) okK_X11 (fun _ h => absurd h List.not_mem_nil) (by decide +kernel)
set_option maxRecDepth 100000 in
theorem okM_X11_puts (r : Nat) : ev_okM RX11 (mi_X11_puts) (tb_X11_puts r) cd_X11_puts := ev_okM_of [] okF_X11 (okC_X11 r) okK_X11 (fun _ h => absurd h List.not_mem_nil) (by decide +kernel)
set_option maxRecDepth 100000 in
theorem okM_X11_ofCake (r : Nat) : ev_okM RX11 (mi_X11_ofCake) (tb_X11_ofCake r) cd_X11_ofCake := ev_okM_of [] okF_X11 (okC_X11 r) okK_X11 (fun _ h => absurd h List.not_mem_nil) (by decide +kernel)
set_option maxRecDepth 100000 in
theorem okM_X11_putsCake (r : Nat) : ev_okM RX11 (mi_X11_putsCake) (tb_X11_putsCake r) cd_X11_putsCake := ev_okM_of [] okF_X11 (okC_X11 r) okK_X11 (fun _ h => absurd h List.not_mem_nil) (by decide +kernel)
set_option maxRecDepth 100000 in
theorem okM_X11_isTasting (r : Nat) : ev_okM RX11 (mi_X11_isTasting) (tb_X11_isTasting r) cd_X11_isTasting := ev_okM_of [] okF_X11 (okC_X11 r) okK_X11 (fun _ h => absurd h List.not_mem_nil) (by decide +kernel)
set_option maxRecDepth 100000 in
theorem okM_X11_cooks (r : Nat) : ev_okM RX11 (mi_X11_cooks) (tb_X11_cooks r) cd_X11_cooks := ev_okM_of [] okF_X11 (okC_X11 r) okK_X11 (fun _ h => absurd h List.not_mem_nil) (by decide +kernel)
set_option maxRecDepth 100000 in
theorem okM_X11_conflictOf (r : Nat) : ev_okM RX11 (mi_X11_conflictOf) (tb_X11_conflictOf r) cd_X11_conflictOf := ev_okM_of [] okF_X11 (okC_X11 r) okK_X11 (fun _ h => absurd h List.not_mem_nil) (by decide +kernel)
set_option maxRecDepth 100000 in
theorem okM_X11_seatOf (r : Nat) : ev_okM RX11 (mi_X11_seatOf) (tb_X11_seatOf r) cd_X11_seatOf := ev_okM_of [] okF_X11 (okC_X11 r) okK_X11 (fun _ h => absurd h List.not_mem_nil) (by decide +kernel)
set_option maxRecDepth 100000 in
theorem okM_X11_load (r : Nat) : ev_okM RX11 (mi_X11_load) (tb_X11_load r) cd_X11_load := ev_okM_of [] okF_X11 (okC_X11 r) okK_X11 (fun _ h => absurd h List.not_mem_nil) (by decide +kernel)
set_option maxRecDepth 100000 in
theorem okM_X11_why (r : Nat) : ev_okM RX11 (mi_X11_why) (tb_X11_why r) cd_X11_why := ev_okM_of [] okF_X11 (okC_X11 r) okK_X11 (fun _ h => absurd h List.not_mem_nil) (by decide +kernel)
set_option maxRecDepth 100000 in
theorem okM_X11_seats (r : Nat) : ev_okM RX11 (mi_X11_seats) (tb_X11_seats r) cd_X11_seats := ev_okM_of [] okF_X11 (okC_X11 r) okK_X11 (fun _ h => absurd h List.not_mem_nil) (by decide +kernel)
set_option maxRecDepth 100000 in
theorem okM_X11_leaves (r : Nat) : ev_okM RX11 (mi_X11_leaves) (tb_X11_leaves r) cd_X11_leaves := ev_okM_of [] okF_X11 (okC_X11 r) okK_X11 (fun _ h => absurd h List.not_mem_nil) (by decide +kernel)
set_option maxRecDepth 100000 in
theorem okM_X11_wish (r : Nat) : ev_okM RX11 (mi_X11_wish) (tb_X11_wish r) cd_X11_wish := ev_okM_of [] okF_X11 (okC_X11 r) okK_X11 (fun _ h => absurd h List.not_mem_nil) (by decide +kernel)
set_option maxRecDepth 100000 in
theorem okM_X11_isBetter (r : Nat) : ev_okM RX11 (mi_X11_isBetter) (tb_X11_isBetter r) cd_X11_isBetter := ev_okM_of [] okF_X11 (okC_X11 r) okK_X11 (fun _ h => absurd h List.not_mem_nil) (by decide +kernel)
set_option maxRecDepth 100000 in
theorem okM_X11_best (r : Nat) : ev_okM RX11 (mi_X11_best) (tb_X11_best r) cd_X11_best := ev_okM_of [] okF_X11 (okC_X11 r) okK_X11 (fun _ h => absurd h List.not_mem_nil) (by decide +kernel)
set_option maxRecDepth 100000 in
theorem okM_X11_neediest (r : Nat) : ev_okM RX11 (mi_X11_neediest) (tb_X11_neediest r) cd_X11_neediest := ev_okM_of [] okF_X11 (okC_X11 r) okK_X11 (fun _ h => absurd h List.not_mem_nil) (by decide +kernel)
set_option maxRecDepth 100000 in
theorem okM_X11_fills (r : Nat) : ev_okM RX11 (mi_X11_fills) (tb_X11_fills r) cd_X11_fills := ev_okM_of [] okF_X11 (okC_X11 r) okK_X11 (fun _ h => absurd h List.not_mem_nil) (by decide +kernel)
set_option maxRecDepth 100000 in
theorem okM_X11_moves (r : Nat) : ev_okM RX11 (mi_X11_moves) (tb_X11_moves r) cd_X11_moves := ev_okM_of [] okF_X11 (okC_X11 r) okK_X11 (fun _ h => absurd h List.not_mem_nil) (by decide +kernel)
set_option maxRecDepth 100000 in
theorem okM_X11_movesFor (r : Nat) : ev_okM RX11 (mi_X11_movesFor) (tb_X11_movesFor r) cd_X11_movesFor := ev_okM_of [] okF_X11 (okC_X11 r) okK_X11 (fun _ h => absurd h List.not_mem_nil) (by decide +kernel)
set_option maxRecDepth 100000 in
theorem okM_X11_other (r : Nat) : ev_okM RX11 (mi_X11_other) (tb_X11_other r) cd_X11_other := ev_okM_of [] okF_X11 (okC_X11 r) okK_X11 (fun _ h => absurd h List.not_mem_nil) (by decide +kernel)
set_option maxRecDepth 100000 in
theorem okM_X11_lacks (r : Nat) : ev_okM RX11 (mi_X11_lacks) (tb_X11_lacks r) cd_X11_lacks := ev_okM_of [] okF_X11 (okC_X11 r) okK_X11 (fun _ h => absurd h List.not_mem_nil) (by decide +kernel)
set_option maxRecDepth 100000 in
theorem okM_X11_scores (r : Nat) : ev_okM RX11 (mi_X11_scores) (tb_X11_scores r) cd_X11_scores := ev_okM_of [] okF_X11 (okC_X11 r) okK_X11 (fun _ h => absurd h List.not_mem_nil) (by decide +kernel)
set_option maxRecDepth 100000 in
theorem okM_X11_scoresBy (r : Nat) : ev_okM RX11 (mi_X11_scoresBy) (tb_X11_scoresBy r) cd_X11_scoresBy := ev_okM_of [] okF_X11 (okC_X11 r) okK_X11 (fun _ h => absurd h List.not_mem_nil) (by decide +kernel)
set_option maxRecDepth 100000 in
theorem okM_X11_sumBy (r : Nat) : ev_okM RX11 (mi_X11_sumBy) (tb_X11_sumBy r) cd_X11_sumBy := ev_okM_of [] okF_X11 (okC_X11 r) okK_X11 (fun _ h => absurd h List.not_mem_nil) (by decide +kernel)
set_option maxRecDepth 100000 in
theorem okM_X11_allScores (r : Nat) : ev_okM RX11 (mi_X11_allScores) (tb_X11_allScores r) cd_X11_allScores := ev_okM_of [] okF_X11 (okC_X11 r) okK_X11 (fun _ h => absurd h List.not_mem_nil) (by decide +kernel)
set_option maxRecDepth 100000 in
theorem okM_X11_allSum (r : Nat) : ev_okM RX11 (mi_X11_allSum) (tb_X11_allSum r) cd_X11_allSum := ev_okM_of [] okF_X11 (okC_X11 r) okK_X11 (fun _ h => absurd h List.not_mem_nil) (by decide +kernel)
set_option maxRecDepth 100000 in
theorem okM_X11_mean (r : Nat) : ev_okM RX11 (mi_X11_mean) (tb_X11_mean r) cd_X11_mean := ev_okM_of [] okF_X11 (okC_X11 r) okK_X11 (fun _ h => absurd h List.not_mem_nil) (by decide +kernel)
set_option maxRecDepth 100000 in
theorem okM_X11_adjusted (r : Nat) : ev_okM RX11 (mi_X11_adjusted) (tb_X11_adjusted r) cd_X11_adjusted := ev_okM_of [] okF_X11 (okC_X11 r) okK_X11 (fun _ h => absurd h List.not_mem_nil) (by decide +kernel)
set_option maxRecDepth 100000 in
theorem okM_X11_isScored (r : Nat) : ev_okM RX11 (mi_X11_isScored) (tb_X11_isScored r) cd_X11_isScored := ev_okM_of [] okF_X11 (okC_X11 r) okK_X11 (fun _ h => absurd h List.not_mem_nil) (by decide +kernel)
set_option maxRecDepth 100000 in
theorem okM_X11_total (r : Nat) : ev_okM RX11 (mi_X11_total) (tb_X11_total r) cd_X11_total := ev_okM_of [] okF_X11 (okC_X11 r) okK_X11 (fun _ h => absurd h List.not_mem_nil) (by decide +kernel)
set_option maxRecDepth 100000 in
theorem okM_X11_spread (r : Nat) : ev_okM RX11 (mi_X11_spread) (tb_X11_spread r) cd_X11_spread := ev_okM_of [] okF_X11 (okC_X11 r) okK_X11 (fun _ h => absurd h List.not_mem_nil) (by decide +kernel)
set_option maxRecDepth 100000 in
theorem okM_X11_mustTalk (r : Nat) : ev_okM RX11 (mi_X11_mustTalk) (tb_X11_mustTalk r) cd_X11_mustTalk := ev_okM_of [] okF_X11 (okC_X11 r) okK_X11 (fun _ h => absurd h List.not_mem_nil) (by decide +kernel)
set_option maxRecDepth 100000 in
theorem okM_X11_middle (r : Nat) : ev_okM RX11 (mi_X11_middle) (tb_X11_middle r) cd_X11_middle := ev_okM_of [] okF_X11 (okC_X11 r) okK_X11 (fun _ h => absurd h List.not_mem_nil) (by decide +kernel)
set_option maxRecDepth 100000 in
theorem okM_X11_talks (r : Nat) : ev_okM RX11 (mi_X11_talks) (tb_X11_talks r) cd_X11_talks := ev_okM_of [] okF_X11 (okC_X11 r) okK_X11 (fun _ h => absurd h List.not_mem_nil) (by decide +kernel)
set_option maxRecDepth 100000 in
theorem okM_X11_isAhead (r : Nat) : ev_okM RX11 (mi_X11_isAhead) (tb_X11_isAhead r) cd_X11_isAhead := ev_okM_of [] okF_X11 (okC_X11 r) okK_X11 (fun _ h => absurd h List.not_mem_nil) (by decide +kernel)
set_option maxRecDepth 100000 in
theorem okM_X11_rank (r : Nat) : ev_okM RX11 (mi_X11_rank) (tb_X11_rank r) cd_X11_rank := ev_okM_of [] okF_X11 (okC_X11 r) okK_X11 (fun _ h => absurd h List.not_mem_nil) (by decide +kernel)
set_option maxRecDepth 100000 in
theorem okM_X11_isPancake (r : Nat) : ev_okM RX11 (mi_X11_isPancake) (tb_X11_isPancake r) cd_X11_isPancake := ev_okM_of [] okF_X11 (okC_X11 r) okK_X11 (fun _ h => absurd h List.not_mem_nil) (by decide +kernel)
set_option maxRecDepth 100000 in
theorem okM_X11_isPerson (r : Nat) : ev_okM RX11 (mi_X11_isPerson) (tb_X11_isPerson r) cd_X11_isPerson := ev_okM_of [] okF_X11 (okC_X11 r) okK_X11 (fun _ h => absurd h List.not_mem_nil) (by decide +kernel)
set_option maxRecDepth 100000 in
theorem okM_X11_mayPancake (r : Nat) : ev_okM RX11 (mi_X11_mayPancake) (tb_X11_mayPancake r) cd_X11_mayPancake := ev_okM_of [] okF_X11 (okC_X11 r) okK_X11 (fun _ h => absurd h List.not_mem_nil) (by decide +kernel)
set_option maxRecDepth 100000 in
theorem okM_X11_mayPerson (r : Nat) : ev_okM RX11 (mi_X11_mayPerson) (tb_X11_mayPerson r) cd_X11_mayPerson := ev_okM_of [] okF_X11 (okC_X11 r) okK_X11 (fun _ h => absurd h List.not_mem_nil) (by decide +kernel)
set_option maxRecDepth 100000 in
theorem okM_X11_areBoth (r : Nat) : ev_okM RX11 (mi_X11_areBoth) (tb_X11_areBoth r) cd_X11_areBoth := ev_okM_of [] okF_X11 (okC_X11 r) okK_X11 (fun _ h => absurd h List.not_mem_nil) (by decide +kernel)
set_option maxRecDepth 100000 in
theorem okM_X11_mayBoth (r : Nat) : ev_okM RX11 (mi_X11_mayBoth) (tb_X11_mayBoth r) cd_X11_mayBoth := ev_okM_of [] okF_X11 (okC_X11 r) okK_X11 (fun _ h => absurd h List.not_mem_nil) (by decide +kernel)
set_option maxRecDepth 100000 in
theorem okM_X11_look (r : Nat) : ev_okM RX11 (mi_X11_look) (tb_X11_look r) cd_X11_look := ev_okM_of [] okF_X11 (okC_X11 r) okK_X11 (fun _ h => absurd h List.not_mem_nil) (by decide +kernel)
set_option maxRecDepth 100000 in
theorem okM_X11_lookCake (r : Nat) : ev_okM RX11 (mi_X11_lookCake) (tb_X11_lookCake r) cd_X11_lookCake := ev_okM_of [] okF_X11 (okC_X11 r) okK_X11 (fun _ h => absurd h List.not_mem_nil) (by decide +kernel)
set_option maxRecDepth 100000 in
theorem okM_X11_lookPerson (r : Nat) : ev_okM RX11 (mi_X11_lookPerson) (tb_X11_lookPerson r) cd_X11_lookPerson := ev_okM_of [] okF_X11 (okC_X11 r) okK_X11 (fun _ h => absurd h List.not_mem_nil) (by decide +kernel)
set_option maxRecDepth 100000 in
theorem okM_X11_pancakeCount (r : Nat) : ev_okM RX11 (mi_X11_pancakeCount) (tb_X11_pancakeCount r) cd_X11_pancakeCount := ev_okM_of [] okF_X11 (okC_X11 r) okK_X11 (fun _ h => absurd h List.not_mem_nil) (by decide +kernel)
set_option maxRecDepth 100000 in
theorem okM_X11_topicOf (r : Nat) : ev_okM RX11 (mi_X11_topicOf) (tb_X11_topicOf r) cd_X11_topicOf := ev_okM_of [] okF_X11 (okC_X11 r) okK_X11 (fun _ h => absurd h List.not_mem_nil) (by decide +kernel)
set_option maxRecDepth 100000 in
theorem okM_X11_cookCount (r : Nat) : ev_okM RX11 (mi_X11_cookCount) (tb_X11_cookCount r) cd_X11_cookCount := ev_okM_of [] okF_X11 (okC_X11 r) okK_X11 (fun _ h => absurd h List.not_mem_nil) (by decide +kernel)
set_option maxRecDepth 100000 in
theorem okM_X11_lookAt (r : Nat) : ev_okM RX11 (mi_X11_lookAt) (tb_X11_lookAt r) cd_X11_lookAt := ev_okM_of [] okF_X11 (okC_X11 r) okK_X11 (fun _ h => absurd h List.not_mem_nil) (by decide +kernel)
set_option maxRecDepth 100000 in
theorem okM_X11_cookAt (r : Nat) : ev_okM RX11 (mi_X11_cookAt) (tb_X11_cookAt r) cd_X11_cookAt := ev_okM_of [] okF_X11 (okC_X11 r) okK_X11 (fun _ h => absurd h List.not_mem_nil) (by decide +kernel)
set_option maxRecDepth 100000 in
theorem okM_X11_personCount (r : Nat) : ev_okM RX11 (mi_X11_personCount) (tb_X11_personCount r) cd_X11_personCount := ev_okM_of [] okF_X11 (okC_X11 r) okK_X11 (fun _ h => absurd h List.not_mem_nil) (by decide +kernel)
set_option maxRecDepth 100000 in
theorem okM_X11_nameLetter (r : Nat) : ev_okM RX11 (mi_X11_nameLetter) (tb_X11_nameLetter r) cd_X11_nameLetter := ev_okM_of [] okF_X11 (okC_X11 r) okK_X11 (fun _ h => absurd h List.not_mem_nil) (by decide +kernel)
set_option maxRecDepth 100000 in
theorem okM_X11_kitchenOf (r : Nat) : ev_okM RX11 (mi_X11_kitchenOf) (tb_X11_kitchenOf r) cd_X11_kitchenOf := ev_okM_of [] okF_X11 (okC_X11 r) okK_X11 (fun _ h => absurd h List.not_mem_nil) (by decide +kernel)
set_option maxRecDepth 100000 in
theorem okM_X11_isTaster (r : Nat) : ev_okM RX11 (mi_X11_isTaster) (tb_X11_isTaster r) cd_X11_isTaster := ev_okM_of [] okF_X11 (okC_X11 r) okK_X11 (fun _ h => absurd h List.not_mem_nil) (by decide +kernel)
set_option maxRecDepth 100000 in
theorem okM_X11_limitOf (r : Nat) : ev_okM RX11 (mi_X11_limitOf) (tb_X11_limitOf r) cd_X11_limitOf := ev_okM_of [] okF_X11 (okC_X11 r) okK_X11 (fun _ h => absurd h List.not_mem_nil) (by decide +kernel)
set_option maxRecDepth 100000 in
theorem okM_X11_tasteOf (r : Nat) : ev_okM RX11 (mi_X11_tasteOf) (tb_X11_tasteOf r) cd_X11_tasteOf := ev_okM_of [] okF_X11 (okC_X11 r) okK_X11 (fun _ h => absurd h List.not_mem_nil) (by decide +kernel)
set_option maxRecDepth 100000 in
theorem okM_X11_bidOf (r : Nat) : ev_okM RX11 (mi_X11_bidOf) (tb_X11_bidOf r) cd_X11_bidOf := ev_okM_of [] okF_X11 (okC_X11 r) okK_X11 (fun _ h => absurd h List.not_mem_nil) (by decide +kernel)
set_option maxRecDepth 100000 in
theorem okM_X11_preference (r : Nat) : ev_okM RX11 (mi_X11_preference) (tb_X11_preference r) cd_X11_preference := ev_okM_of [] okF_X11 (okC_X11 r) okK_X11 (fun _ h => absurd h List.not_mem_nil) (by decide +kernel)
set_option maxRecDepth 100000 in
theorem okM_X11_conflict (r : Nat) : ev_okM RX11 (mi_X11_conflict) (tb_X11_conflict r) cd_X11_conflict := ev_okM_of [] okF_X11 (okC_X11 r) okK_X11 (fun _ h => absurd h List.not_mem_nil) (by decide +kernel)
set_option maxRecDepth 100000 in
theorem okM_X11_favoriteOf (r : Nat) : ev_okM RX11 (mi_X11_favoriteOf) (tb_X11_favoriteOf r) cd_X11_favoriteOf := ev_okM_of [] okF_X11 (okC_X11 r) okK_X11 (fun _ h => absurd h List.not_mem_nil) (by decide +kernel)
set_option maxRecDepth 100000 in
theorem okM_X11_conflictCount (r : Nat) : ev_okM RX11 (mi_X11_conflictCount) (tb_X11_conflictCount r) cd_X11_conflictCount := ev_okM_of [] okF_X11 (okC_X11 r) okK_X11 (fun _ h => absurd h List.not_mem_nil) (by decide +kernel)
set_option maxRecDepth 100000 in
theorem okM_X11_seatCount (r : Nat) : ev_okM RX11 (mi_X11_seatCount) (tb_X11_seatCount r) cd_X11_seatCount := ev_okM_of [] okF_X11 (okC_X11 r) okK_X11 (fun _ h => absurd h List.not_mem_nil) (by decide +kernel)
set_option maxRecDepth 100000 in
theorem okM_X11_seatAt (r : Nat) : ev_okM RX11 (mi_X11_seatAt) (tb_X11_seatAt r) cd_X11_seatAt := ev_okM_of [] okF_X11 (okC_X11 r) okK_X11 (fun _ h => absurd h List.not_mem_nil) (by decide +kernel)
set_option maxRecDepth 100000 in
theorem okM_X11_loadOf (r : Nat) : ev_okM RX11 (mi_X11_loadOf) (tb_X11_loadOf r) cd_X11_loadOf := ev_okM_of [] okF_X11 (okC_X11 r) okK_X11 (fun _ h => absurd h List.not_mem_nil) (by decide +kernel)
set_option maxRecDepth 100000 in
theorem okM_X11_refusal (r : Nat) : ev_okM RX11 (mi_X11_refusal) (tb_X11_refusal r) cd_X11_refusal := ev_okM_of [] okF_X11 (okC_X11 r) okK_X11 (fun _ h => absurd h List.not_mem_nil) (by decide +kernel)
set_option maxRecDepth 100000 in
theorem okM_X11_bestTaster (r : Nat) : ev_okM RX11 (mi_X11_bestTaster) (tb_X11_bestTaster r) cd_X11_bestTaster := ev_okM_of [] okF_X11 (okC_X11 r) okK_X11 (fun _ h => absurd h List.not_mem_nil) (by decide +kernel)
set_option maxRecDepth 100000 in
theorem okM_X11_lacking (r : Nat) : ev_okM RX11 (mi_X11_lacking) (tb_X11_lacking r) cd_X11_lacking := ev_okM_of [] okF_X11 (okC_X11 r) okK_X11 (fun _ h => absurd h List.not_mem_nil) (by decide +kernel)
set_option maxRecDepth 100000 in
theorem okM_X11_lackingAfterFilling (r : Nat) : ev_okM RX11 (mi_X11_lackingAfterFilling) (tb_X11_lackingAfterFilling r) cd_X11_lackingAfterFilling := ev_okM_of [] okF_X11 (okC_X11 r) okK_X11 (fun _ h => absurd h List.not_mem_nil) (by decide +kernel)
set_option maxRecDepth 100000 in
theorem okM_X11_scoreOf (r : Nat) : ev_okM RX11 (mi_X11_scoreOf) (tb_X11_scoreOf r) cd_X11_scoreOf := ev_okM_of [] okF_X11 (okC_X11 r) okK_X11 (fun _ h => absurd h List.not_mem_nil) (by decide +kernel)
set_option maxRecDepth 100000 in
theorem okM_X11_scoreCount (r : Nat) : ev_okM RX11 (mi_X11_scoreCount) (tb_X11_scoreCount r) cd_X11_scoreCount := ev_okM_of [] okF_X11 (okC_X11 r) okK_X11 (fun _ h => absurd h List.not_mem_nil) (by decide +kernel)
set_option maxRecDepth 100000 in
theorem okM_X11_meanOf (r : Nat) : ev_okM RX11 (mi_X11_meanOf) (tb_X11_meanOf r) cd_X11_meanOf := ev_okM_of [] okF_X11 (okC_X11 r) okK_X11 (fun _ h => absurd h List.not_mem_nil) (by decide +kernel)
set_option maxRecDepth 100000 in
theorem okM_X11_adjustedScore (r : Nat) : ev_okM RX11 (mi_X11_adjustedScore) (tb_X11_adjustedScore r) cd_X11_adjustedScore := ev_okM_of [] okF_X11 (okC_X11 r) okK_X11 (fun _ h => absurd h List.not_mem_nil) (by decide +kernel)
set_option maxRecDepth 100000 in
theorem okM_X11_harshest (r : Nat) : ev_okM RX11 (mi_X11_harshest) (tb_X11_harshest r) cd_X11_harshest := ev_okM_of [] okF_X11 (okC_X11 r) okK_X11 (fun _ h => absurd h List.not_mem_nil) (by decide +kernel)
set_option maxRecDepth 100000 in
theorem okM_X11_disagreement (r : Nat) : ev_okM RX11 (mi_X11_disagreement) (tb_X11_disagreement r) cd_X11_disagreement := ev_okM_of [] okF_X11 (okC_X11 r) okK_X11 (fun _ h => absurd h List.not_mem_nil) (by decide +kernel)
set_option maxRecDepth 100000 in
theorem okM_X11_totalOf (r : Nat) : ev_okM RX11 (mi_X11_totalOf) (tb_X11_totalOf r) cd_X11_totalOf := ev_okM_of [] okF_X11 (okC_X11 r) okK_X11 (fun _ h => absurd h List.not_mem_nil) (by decide +kernel)
set_option maxRecDepth 100000 in
theorem okM_X11_spreadOf (r : Nat) : ev_okM RX11 (mi_X11_spreadOf) (tb_X11_spreadOf r) cd_X11_spreadOf := ev_okM_of [] okF_X11 (okC_X11 r) okK_X11 (fun _ h => absurd h List.not_mem_nil) (by decide +kernel)
set_option maxRecDepth 100000 in
theorem okM_X11_needsTalk (r : Nat) : ev_okM RX11 (mi_X11_needsTalk) (tb_X11_needsTalk r) cd_X11_needsTalk := ev_okM_of [] okF_X11 (okC_X11 r) okK_X11 (fun _ h => absurd h List.not_mem_nil) (by decide +kernel)
set_option maxRecDepth 100000 in
theorem okM_X11_spreadAfterTalk (r : Nat) : ev_okM RX11 (mi_X11_spreadAfterTalk) (tb_X11_spreadAfterTalk r) cd_X11_spreadAfterTalk := ev_okM_of [] okF_X11 (okC_X11 r) okK_X11 (fun _ h => absurd h List.not_mem_nil) (by decide +kernel)
set_option maxRecDepth 100000 in
theorem okM_X11_rankOf (r : Nat) : ev_okM RX11 (mi_X11_rankOf) (tb_X11_rankOf r) cd_X11_rankOf := ev_okM_of [] okF_X11 (okC_X11 r) okK_X11 (fun _ h => absurd h List.not_mem_nil) (by decide +kernel)
set_option maxRecDepth 100000 in
theorem okM_X11_pancakeAt (r : Nat) : ev_okM RX11 (mi_X11_pancakeAt) (tb_X11_pancakeAt r) cd_X11_pancakeAt := ev_okM_of [] okF_X11 (okC_X11 r) okK_X11 (fun _ h => absurd h List.not_mem_nil) (by decide +kernel)
set_option maxRecDepth 100000 in
theorem okM_X11_isAccepted (r : Nat) : ev_okM RX11 (mi_X11_isAccepted) (tb_X11_isAccepted r) cd_X11_isAccepted := ev_okM_of [] okF_X11 (okC_X11 r) okK_X11 (fun _ h => absurd h List.not_mem_nil) (by decide +kernel)
set_option maxRecDepth 100000 in
theorem okM_X11_fillCount (r : Nat) : ev_okM RX11 (mi_X11_fillCount) (tb_X11_fillCount r) cd_X11_fillCount := ev_okM_of [] okF_X11 (okC_X11 r) okK_X11 (fun _ h => absurd h List.not_mem_nil) (by decide +kernel)
set_option maxRecDepth 100000 in
theorem okM_X11_moveCount (r : Nat) : ev_okM RX11 (mi_X11_moveCount) (tb_X11_moveCount r) cd_X11_moveCount := ev_okM_of [] okF_X11 (okC_X11 r) okK_X11 (fun _ h => absurd h List.not_mem_nil) (by decide +kernel)
set_option maxRecDepth 100000 in
theorem okM_X11_talkCount (r : Nat) : ev_okM RX11 (mi_X11_talkCount) (tb_X11_talkCount r) cd_X11_talkCount := ev_okM_of [] okF_X11 (okC_X11 r) okK_X11 (fun _ h => absurd h List.not_mem_nil) (by decide +kernel)
set_option maxRecDepth 100000 in
theorem okM_X11_changeCount (r : Nat) : ev_okM RX11 (mi_X11_changeCount) (tb_X11_changeCount r) cd_X11_changeCount := ev_okM_of [] okF_X11 (okC_X11 r) okK_X11 (fun _ h => absurd h List.not_mem_nil) (by decide +kernel)
set_option maxRecDepth 100000 in
theorem okM_X11_imbalance (r : Nat) : ev_okM RX11 (mi_X11_imbalance) (tb_X11_imbalance r) cd_X11_imbalance := ev_okM_of [] okF_X11 (okC_X11 r) okK_X11 (fun _ h => absurd h List.not_mem_nil) (by decide +kernel)
set_option maxRecDepth 100000 in
theorem okM_X11_troubles (r : Nat) : ev_okM RX11 (mi_X11_troubles) (tb_X11_troubles r) cd_X11_troubles := ev_okM_of [] okF_X11 (okC_X11 r) okK_X11 (fun _ h => absurd h List.not_mem_nil) (by decide +kernel)
set_option maxRecDepth 100000 in
theorem okM_X11_writesByte (r : Nat) : ev_okM RX11 (mi_X11_writesByte) (tb_X11_writesByte r) cd_X11_writesByte := ev_okM_of [] okF_X11 (okC_X11 r) okK_X11 (fun _ h => absurd h List.not_mem_nil) (by decide +kernel)
set_option maxRecDepth 100000 in
theorem okM_X11_writesNumber (r : Nat) : ev_okM RX11 (mi_X11_writesNumber) (tb_X11_writesNumber r) cd_X11_writesNumber := ev_okM_of [] okF_X11 (okC_X11 r) okK_X11 (fun _ h => absurd h List.not_mem_nil) (by decide +kernel)
set_option maxRecDepth 100000 in
theorem okM_X11_writePancake (r : Nat) : ev_okM RX11 (mi_X11_writePancake) (tb_X11_writePancake r) cd_X11_writePancake := ev_okM_of [] okF_X11 (okC_X11 r) okK_X11 (fun _ h => absurd h List.not_mem_nil) (by decide +kernel)
set_option maxRecDepth 100000 in
theorem okM_X11_writeBids (r : Nat) : ev_okM RX11 (mi_X11_writeBids) (tb_X11_writeBids r) cd_X11_writeBids := ev_okM_of [] okF_X11 (okC_X11 r) okK_X11 (fun _ h => absurd h List.not_mem_nil) (by decide +kernel)
set_option maxRecDepth 100000 in
theorem okM_X11_outputByte (r : Nat) : ev_okM RX11 (mi_X11_outputByte) (tb_X11_outputByte r) cd_X11_outputByte := ev_okM_of [] okF_X11 (okC_X11 r) okK_X11 (fun _ h => absurd h List.not_mem_nil) (by decide +kernel)
set_option maxRecDepth 100000 in
theorem okM_X11_remembers (r : Nat) : ev_okM RX11 (mi_X11_remembers) (tb_X11_remembers r) cd_X11_remembers := ev_okM_of [] okF_X11 (okC_X11 r) okK_X11 (fun _ h => absurd h List.not_mem_nil) (by decide +kernel)
set_option maxRecDepth 100000 in
theorem okM_X11_bid (r : Nat) : ev_okM RX11 (mi_X11_bid) (tb_X11_bid r) cd_X11_bid := ev_okM_of [] okF_X11 (okC_X11 r) okK_X11 (fun _ h => absurd h List.not_mem_nil) (by decide +kernel)
set_option maxRecDepth 100000 in
theorem okM_X11_assign (r : Nat) : ev_okM RX11 (mi_X11_assign) (tb_X11_assign r) cd_X11_assign := ev_okM_of [] okF_X11 (okC_X11 r) okK_X11 (fun _ h => absurd h List.not_mem_nil) (by decide +kernel)
set_option maxRecDepth 100000 in
theorem okM_X11_unassign (r : Nat) : ev_okM RX11 (mi_X11_unassign) (tb_X11_unassign r) cd_X11_unassign := ev_okM_of [] okF_X11 (okC_X11 r) okK_X11 (fun _ h => absurd h List.not_mem_nil) (by decide +kernel)
set_option maxRecDepth 100000 in
theorem okM_X11_fill (r : Nat) : ev_okM RX11 (mi_X11_fill) (tb_X11_fill r) cd_X11_fill := ev_okM_of [] okF_X11 (okC_X11 r) okK_X11 (fun _ h => absurd h List.not_mem_nil) (by decide +kernel)
set_option maxRecDepth 100000 in
theorem okM_X11_score (r : Nat) : ev_okM RX11 (mi_X11_score) (tb_X11_score r) cd_X11_score := ev_okM_of [] okF_X11 (okC_X11 r) okK_X11 (fun _ h => absurd h List.not_mem_nil) (by decide +kernel)
set_option maxRecDepth 100000 in
theorem okM_X11_talk (r : Nat) : ev_okM RX11 (mi_X11_talk) (tb_X11_talk r) cd_X11_talk := ev_okM_of [] okF_X11 (okC_X11 r) okK_X11 (fun _ h => absurd h List.not_mem_nil) (by decide +kernel)
set_option maxRecDepth 100000 in
theorem okM_X11_declare (r : Nat) : ev_okM RX11 (mi_X11_declare) (tb_X11_declare r) cd_X11_declare := ev_okM_of [] okF_X11 (okC_X11 r) okK_X11 (fun _ h => absurd h List.not_mem_nil) (by decide +kernel)
set_option maxRecDepth 100000 in
theorem okM_X11_undo (r : Nat) : ev_okM RX11 (mi_X11_undo) (tb_X11_undo r) cd_X11_undo := ev_okM_of [] okF_X11 (okC_X11 r) okK_X11 (fun _ h => absurd h List.not_mem_nil) (by decide +kernel)
set_option maxRecDepth 100000 in
theorem okM_X11_undoCount (r : Nat) : ev_okM RX11 (mi_X11_undoCount) (tb_X11_undoCount r) cd_X11_undoCount := ev_okM_of [] okF_X11 (okC_X11 r) okK_X11 (fun _ h => absurd h List.not_mem_nil) (by decide +kernel)
set_option maxRecDepth 100000 in
theorem okM_X11_isSlot (r : Nat) : ev_okM RX11 (mi_X11_isSlot) (tb_X11_isSlot r) cd_X11_isSlot := ev_okM_of [] okF_X11 (okC_X11 r) okK_X11 (fun _ h => absurd h List.not_mem_nil) (by decide +kernel)
set_option maxRecDepth 100000 in
theorem okM_X11_saveState (r : Nat) : ev_okM RX11 (mi_X11_saveState) (tb_X11_saveState r) cd_X11_saveState := ev_okM_of [] okF_X11 (okC_X11 r) okK_X11 (fun _ h => absurd h List.not_mem_nil) (by decide +kernel)
set_option maxRecDepth 100000 in
theorem okM_X11_restoreState (r : Nat) : ev_okM RX11 (mi_X11_restoreState) (tb_X11_restoreState r) cd_X11_restoreState := ev_okM_of [] okF_X11 (okC_X11 r) okK_X11 (fun _ h => absurd h List.not_mem_nil) (by decide +kernel)
set_option maxRecDepth 100000 in
theorem okM_J7_fill_d0a16 : ev_okM RJ7 (mi_J7_fill_d0a16) (tb_J7_fill_d0a16) cd_J7_fill_d0a16 := ev_okM_of [] okF_J7 (okC_J7) okK_J7 (fun _ h => absurd h List.not_mem_nil) (by decide +kernel)
set_option maxRecDepth 100000 in
theorem okM_J7_fill_53178 : ev_okM RJ7 (mi_J7_fill_53178) (tb_J7_fill_53178) cd_J7_fill_53178 := ev_okM_of [] okF_J7 (okC_J7) okK_J7 (fun _ h => absurd h List.not_mem_nil) (by decide +kernel)
