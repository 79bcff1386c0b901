/-! LINKS of calls (by program) -/
theorem sl_X1_fillWays : zwd (.selects RX1 yX1_fillWays yX1_fillWays) := ⟨tw_0 _ (List.mem_of_getElem? (i := 0) (by decide +kernel)), by decide +kernel⟩
theorem sl_X1_isNext : zwd (.selects RX1 yX1_isNext yX1_isNext) := ⟨tw_0 _ (List.mem_of_getElem? (i := 1) (by decide +kernel)), by decide +kernel⟩
theorem sl_X5_drawOne : zwd (.selects RX5 yX5_drawOne yX5_drawOne) := ⟨tw_0 _ (List.mem_of_getElem? (i := 2) (by decide +kernel)), by decide +kernel⟩
theorem sl_X5_isFree : zwd (.selects RX5 yX5_isFree yX5_isFree) := ⟨tw_0 _ (List.mem_of_getElem? (i := 3) (by decide +kernel)), by decide +kernel⟩
theorem sl_Jx4a65c_add_72be8 : zwd (.selects RJx4a65c yJx4a65c_add_72be8 yJx4a65c_add_72be8) := ⟨tw_0 _ (List.mem_of_getElem? (i := 5) (by decide +kernel)), by decide +kernel⟩
theorem sl_Jx4a65c_grow_d5877 : zwd (.selects RJx4a65c yJx4a65c_grow_d5877 yJx4a65c_grow_d5877) := ⟨tw_0 _ (List.mem_of_getElem? (i := 6) (by decide +kernel)), by decide +kernel⟩
theorem sl_Jx4a65c_grow_92f84 : zwd (.selects RJx4a65c yJx4a65c_grow_92f84 yJx4a65c_grow_92f84) := ⟨tw_0 _ (List.mem_of_getElem? (i := 7) (by decide +kernel)), by decide +kernel⟩
theorem sl_X11_requirePitch : zwd (.selects RX11 yX11_requirePitch yX11_requirePitch) := ⟨tw_0 _ (List.mem_of_getElem? (i := 8) (by decide +kernel)), by decide +kernel⟩
theorem sl_X11_requireAct : zwd (.selects RX11 yX11_requireAct yX11_requireAct) := ⟨tw_0 _ (List.mem_of_getElem? (i := 9) (by decide +kernel)), by decide +kernel⟩
theorem sl_X11_requireTwoActs : zwd (.selects RX11 yX11_requireTwoActs yX11_requireTwoActs) := ⟨tw_0 _ (List.mem_of_getElem? (i := 10) (by decide +kernel)), by decide +kernel⟩
theorem sl_X11_requireNotPlayed : zwd (.selects RX11 yX11_requireNotPlayed yX11_requireNotPlayed) := ⟨tw_0 _ (List.mem_of_getElem? (i := 11) (by decide +kernel)), by decide +kernel⟩
theorem sl_X11_allowsExchange : zwd (.selects RX11 yX11_allowsExchange yX11_allowsExchange) := ⟨tw_0 _ (List.mem_of_getElem? (i := 12) (by decide +kernel)), by decide +kernel⟩
theorem sl_X6_beginNext : zwd (.selects RX6 yX6_beginNext yX6_beginNext) := ⟨tw_0 _ (List.mem_of_getElem? (i := 13) (by decide +kernel)), by decide +kernel⟩
theorem sl_X2_payVisits : zwd (.selects RX2 yX2_payVisits yX2_payVisits) := ⟨tw_0 _ (List.mem_of_getElem? (i := 14) (by decide +kernel)), by decide +kernel⟩
theorem sl_X2_judge : zwd (.selects RX2 yX2_judge yX2_judge) := ⟨tw_0 _ (List.mem_of_getElem? (i := 15) (by decide +kernel)), by decide +kernel⟩
theorem sl_X2_playMinute : zwd (.selects RX2 yX2_playMinute yX2_playMinute) := ⟨tw_0 _ (List.mem_of_getElem? (i := 16) (by decide +kernel)), by decide +kernel⟩
theorem sl_X2_gather : zwd (.selects RX2 yX2_gather yX2_gather) := ⟨tw_0 _ (List.mem_of_getElem? (i := 17) (by decide +kernel)), by decide +kernel⟩
theorem sl_X2_endIfDue : zwd (.selects RX2 yX2_endIfDue yX2_endIfDue) := ⟨tw_0 _ (List.mem_of_getElem? (i := 18) (by decide +kernel)), by decide +kernel⟩
theorem sl_X11_requirePlayed : zwd (.selects RX11 yX11_requirePlayed yX11_requirePlayed) := ⟨tw_0 _ (List.mem_of_getElem? (i := 19) (by decide +kernel)), by decide +kernel⟩
theorem sl_X11_requirePlayedTurn : zwd (.selects RX11 yX11_requirePlayedTurn yX11_requirePlayedTurn) := ⟨tw_0 _ (List.mem_of_getElem? (i := 20) (by decide +kernel)), by decide +kernel⟩
theorem sl_X11_requireVisit : zwd (.selects RX11 yX11_requireVisit yX11_requireVisit) := ⟨tw_0 _ (List.mem_of_getElem? (i := 21) (by decide +kernel)), by decide +kernel⟩
theorem sl_X16_isPitch : zwd (.selects RX16 yX16_isPitch yX16_isPitch) := ⟨tw_0 _ (List.mem_of_getElem? (i := 22) (by decide +kernel)), by decide +kernel⟩
theorem sl_X16_noAct : zwd (.selects RX16 yX16_noAct yX16_noAct) := ⟨tw_0 _ (List.mem_of_getElem? (i := 23) (by decide +kernel)), by decide +kernel⟩
theorem sl_X16_isAct : zwd (.selects RX16 yX16_isAct yX16_isAct) := ⟨tw_0 _ (List.mem_of_getElem? (i := 24) (by decide +kernel)), by decide +kernel⟩
theorem sl_X16_comesAhead : zwd (.selects RX16 yX16_comesAhead yX16_comesAhead) := ⟨tw_0 _ (List.mem_of_getElem? (i := 25) (by decide +kernel)), by decide +kernel⟩
theorem sl_X16_counts : zwd (.selects RX16 yX16_counts yX16_counts) := ⟨tw_0 _ (List.mem_of_getElem? (i := 26) (by decide +kernel)), by decide +kernel⟩
theorem sl_X16_isFree : zwd (.selects RX16 yX16_isFree yX16_isFree) := ⟨tw_0 _ (List.mem_of_getElem? (i := 27) (by decide +kernel)), by decide +kernel⟩
theorem sl_X16_partners : zwd (.selects RX16 yX16_partners yX16_partners) := ⟨tw_0 _ (List.mem_of_getElem? (i := 28) (by decide +kernel)), by decide +kernel⟩
theorem sl_X16_begins : zwd (.selects RX16 yX16_begins yX16_begins) := ⟨tw_0 _ (List.mem_of_getElem? (i := 29) (by decide +kernel)), by decide +kernel⟩
theorem sl_X16_visits : zwd (.selects RX16 yX16_visits yX16_visits) := ⟨tw_0 _ (List.mem_of_getElem? (i := 30) (by decide +kernel)), by decide +kernel⟩
theorem sl_X16_isDrowned : zwd (.selects RX16 yX16_isDrowned yX16_isDrowned) := ⟨tw_0 _ (List.mem_of_getElem? (i := 31) (by decide +kernel)), by decide +kernel⟩
theorem sl_X16_goesOn : zwd (.selects RX16 yX16_goesOn yX16_goesOn) := ⟨tw_0 _ (List.mem_of_getElem? (i := 32) (by decide +kernel)), by decide +kernel⟩
theorem sl_X16_rains : zwd (.selects RX16 yX16_rains yX16_rains) := ⟨tw_0 _ (List.mem_of_getElem? (i := 33) (by decide +kernel)), by decide +kernel⟩
theorem sl_X16_gives : zwd (.selects RX16 yX16_gives yX16_gives) := ⟨tw_0 _ (List.mem_of_getElem? (i := 34) (by decide +kernel)), by decide +kernel⟩
theorem sl_X16_played : zwd (.selects RX16 yX16_played yX16_played) := ⟨tw_0 _ (List.mem_of_getElem? (i := 35) (by decide +kernel)), by decide +kernel⟩
theorem sl_X16_noVisit : zwd (.selects RX16 yX16_noVisit yX16_noVisit) := ⟨tw_0 _ (List.mem_of_getElem? (i := 36) (by decide +kernel)), by decide +kernel⟩
theorem sl_Jx4a65c_fastRemove_b59b0 : zwd (.selects RJx4a65c yJx4a65c_fastRemove_b59b0 yJx4a65c_fastRemove_b59b0) := ⟨tw_0 _ (List.mem_of_getElem? (i := 37) (by decide +kernel)), by decide +kernel⟩
theorem cl_L_8 : zwd (.classLink RL 8 RX11) := ⟨tw_1 _ (List.mem_of_getElem? (i := 45) (by decide +kernel)), by decide +kernel⟩
theorem ml_L_124 : zwd (.methodLink RL 124 yX11_init) := ⟨tw_1 _ (List.mem_of_getElem? (i := 47) (by decide +kernel)), by decide +kernel⟩
theorem im_X11_init : zwd (.instanceMethod yX11_init) := ⟨tw_1 _ (List.mem_of_getElem? (i := 48) (by decide +kernel)), by decide +kernel⟩
theorem ml_X11_1 : zwd (.methodLink RX11 1 objectInit) := ⟨tw_1 _ (List.mem_of_getElem? (i := 50) (by decide +kernel)), by decide +kernel⟩
theorem cl_X11_7 : zwd (.classLink RX11 7 RX7) := ⟨tw_1 _ (List.mem_of_getElem? (i := 53) (by decide +kernel)), by decide +kernel⟩
theorem ml_X11_9 : zwd (.methodLink RX11 9 yX7_init) := ⟨tw_1 _ (List.mem_of_getElem? (i := 55) (by decide +kernel)), by decide +kernel⟩
theorem im_X7_init : zwd (.instanceMethod yX7_init) := ⟨tw_1 _ (List.mem_of_getElem? (i := 56) (by decide +kernel)), by decide +kernel⟩
theorem ml_X7_1 : zwd (.methodLink RX7 1 objectInit) := ⟨tw_1 _ (List.mem_of_getElem? (i := 58) (by decide +kernel)), by decide +kernel⟩
theorem cl_X7_7 : zwd (.classLink RX7 7 RJx4a65c) := ⟨tw_1 _ (List.mem_of_getElem? (i := 59) (by decide +kernel)), by decide +kernel⟩
theorem ml_X7_9 : zwd (.methodLink RX7 9 yJx4a65c_init_da8c8) := ⟨tw_1 _ (List.mem_of_getElem? (i := 61) (by decide +kernel)), by decide +kernel⟩
theorem im_Jx4a65c_init_da8c8 : zwd (.instanceMethod yJx4a65c_init_da8c8) := ⟨tw_1 _ (List.mem_of_getElem? (i := 62) (by decide +kernel)), by decide +kernel⟩
theorem ml_Jx4a65c_1 : zwd (.methodLink RJx4a65c 1 yJxc12de_init_da8c8) := ⟨tw_1 _ (List.mem_of_getElem? (i := 64) (by decide +kernel)), by decide +kernel⟩
theorem im_Jxc12de_init_da8c8 : zwd (.instanceMethod yJxc12de_init_da8c8) := ⟨tw_1 _ (List.mem_of_getElem? (i := 65) (by decide +kernel)), by decide +kernel⟩
theorem ml_Jxc12de_1 : zwd (.methodLink RJxc12de 1 yJxa1e45_init_da8c8) := ⟨tw_1 _ (List.mem_of_getElem? (i := 67) (by decide +kernel)), by decide +kernel⟩
theorem im_Jxa1e45_init_da8c8 : zwd (.instanceMethod yJxa1e45_init_da8c8) := ⟨tw_1 _ (List.mem_of_getElem? (i := 68) (by decide +kernel)), by decide +kernel⟩
theorem ml_Jxa1e45_1 : zwd (.methodLink RJxa1e45 1 objectInit) := ⟨tw_1 _ (List.mem_of_getElem? (i := 70) (by decide +kernel)), by decide +kernel⟩
theorem cl_X11_16 : zwd (.classLink RX11 16 RX1) := ⟨tw_1 _ (List.mem_of_getElem? (i := 98) (by decide +kernel)), by decide +kernel⟩
theorem ml_X11_18 : zwd (.methodLink RX11 18 yX1_init) := ⟨tw_1 _ (List.mem_of_getElem? (i := 100) (by decide +kernel)), by decide +kernel⟩
theorem im_X1_init : zwd (.instanceMethod yX1_init) := ⟨tw_1 _ (List.mem_of_getElem? (i := 101) (by decide +kernel)), by decide +kernel⟩
theorem ml_X1_3 : zwd (.methodLink RX1 3 objectInit) := ⟨tw_1 _ (List.mem_of_getElem? (i := 103) (by decide +kernel)), by decide +kernel⟩
theorem cl_X11_23 : zwd (.classLink RX11 23 RX5) := ⟨tw_1 _ (List.mem_of_getElem? (i := 114) (by decide +kernel)), by decide +kernel⟩
theorem ml_X11_25 : zwd (.methodLink RX11 25 yX5_init) := ⟨tw_1 _ (List.mem_of_getElem? (i := 116) (by decide +kernel)), by decide +kernel⟩
theorem im_X5_init : zwd (.instanceMethod yX5_init) := ⟨tw_1 _ (List.mem_of_getElem? (i := 117) (by decide +kernel)), by decide +kernel⟩
theorem ml_X5_3 : zwd (.methodLink RX5 3 objectInit) := ⟨tw_1 _ (List.mem_of_getElem? (i := 119) (by decide +kernel)), by decide +kernel⟩
theorem cl_X11_30 : zwd (.classLink RX11 30 RX10) := ⟨tw_1 _ (List.mem_of_getElem? (i := 143) (by decide +kernel)), by decide +kernel⟩
theorem ml_X11_32 : zwd (.methodLink RX11 32 yX10_init) := ⟨tw_1 _ (List.mem_of_getElem? (i := 145) (by decide +kernel)), by decide +kernel⟩
theorem im_X10_init : zwd (.instanceMethod yX10_init) := ⟨tw_1 _ (List.mem_of_getElem? (i := 146) (by decide +kernel)), by decide +kernel⟩
theorem ml_X10_1 : zwd (.methodLink RX10 1 objectInit) := ⟨tw_1 _ (List.mem_of_getElem? (i := 148) (by decide +kernel)), by decide +kernel⟩
theorem cl_X11_37 : zwd (.classLink RX11 37 RX4) := ⟨tw_1 _ (List.mem_of_getElem? (i := 162) (by decide +kernel)), by decide +kernel⟩
theorem ml_X11_39 : zwd (.methodLink RX11 39 yX4_init) := ⟨tw_1 _ (List.mem_of_getElem? (i := 164) (by decide +kernel)), by decide +kernel⟩
theorem im_X4_init : zwd (.instanceMethod yX4_init) := ⟨tw_1 _ (List.mem_of_getElem? (i := 165) (by decide +kernel)), by decide +kernel⟩
theorem ml_X4_3 : zwd (.methodLink RX4 3 objectInit) := ⟨tw_1 _ (List.mem_of_getElem? (i := 167) (by decide +kernel)), by decide +kernel⟩
theorem cl_X11_44 : zwd (.classLink RX11 44 RX2) := ⟨tw_1 _ (List.mem_of_getElem? (i := 178) (by decide +kernel)), by decide +kernel⟩
theorem ml_X11_46 : zwd (.methodLink RX11 46 yX2_init) := ⟨tw_1 _ (List.mem_of_getElem? (i := 180) (by decide +kernel)), by decide +kernel⟩
theorem im_X2_init : zwd (.instanceMethod yX2_init) := ⟨tw_1 _ (List.mem_of_getElem? (i := 181) (by decide +kernel)), by decide +kernel⟩
theorem ml_X2_3 : zwd (.methodLink RX2 3 objectInit) := ⟨tw_1 _ (List.mem_of_getElem? (i := 183) (by decide +kernel)), by decide +kernel⟩
theorem cl_X2_23 : zwd (.classLink RX2 23 RJx4a65c) := ⟨tw_1 _ (List.mem_of_getElem? (i := 184) (by decide +kernel)), by decide +kernel⟩
theorem ml_X2_25 : zwd (.methodLink RX2 25 yJx4a65c_init_da8c8) := ⟨tw_1 _ (List.mem_of_getElem? (i := 185) (by decide +kernel)), by decide +kernel⟩
theorem cl_X11_53 : zwd (.classLink RX11 53 RX3) := ⟨tw_1 _ (List.mem_of_getElem? (i := 220) (by decide +kernel)), by decide +kernel⟩
theorem ml_X11_55 : zwd (.methodLink RX11 55 yX3_init) := ⟨tw_1 _ (List.mem_of_getElem? (i := 222) (by decide +kernel)), by decide +kernel⟩
theorem im_X3_init : zwd (.instanceMethod yX3_init) := ⟨tw_1 _ (List.mem_of_getElem? (i := 223) (by decide +kernel)), by decide +kernel⟩
theorem ml_X3_3 : zwd (.methodLink RX3 3 objectInit) := ⟨tw_1 _ (List.mem_of_getElem? (i := 225) (by decide +kernel)), by decide +kernel⟩
theorem ml_L_162 : zwd (.methodLink RL 162 yX11_orders) := ⟨tw_2 _ (List.mem_of_getElem? (i := 17) (by decide +kernel)), by decide +kernel⟩
theorem im_X11_orders : zwd (.instanceMethod yX11_orders) := ⟨tw_2 _ (List.mem_of_getElem? (i := 18) (by decide +kernel)), by decide +kernel⟩
theorem sl_X11_orders : zwd (.selects RX11 yX11_orders yX11_orders) := ⟨tw_2 _ (List.mem_of_getElem? (i := 19) (by decide +kernel)), by decide +kernel⟩
theorem ml_X11_79 : zwd (.methodLink RX11 79 yJx4a65c_size_8abf5) := ⟨tw_2 _ (List.mem_of_getElem? (i := 21) (by decide +kernel)), by decide +kernel⟩
theorem im_Jx4a65c_size_8abf5 : zwd (.instanceMethod yJx4a65c_size_8abf5) := ⟨tw_2 _ (List.mem_of_getElem? (i := 22) (by decide +kernel)), by decide +kernel⟩
theorem sl_Jx4a65c_size_8abf5 : zwd (.selects RJx4a65c yJx4a65c_size_8abf5 yJx4a65c_size_8abf5) := ⟨tw_2 _ (List.mem_of_getElem? (i := 23) (by decide +kernel)), by decide +kernel⟩
theorem ml_X11_155 : zwd (.methodLink RX11 155 yX1_countOrders) := ⟨tw_2 _ (List.mem_of_getElem? (i := 25) (by decide +kernel)), by decide +kernel⟩
theorem im_X1_countOrders : zwd (.instanceMethod yX1_countOrders) := ⟨tw_2 _ (List.mem_of_getElem? (i := 26) (by decide +kernel)), by decide +kernel⟩
theorem sl_X1_countOrders : zwd (.selects RX1 yX1_countOrders yX1_countOrders) := ⟨tw_2 _ (List.mem_of_getElem? (i := 27) (by decide +kernel)), by decide +kernel⟩
theorem ml_X1_18 : zwd (.methodLink RX1 18 yX1_fillWays) := ⟨tw_2 _ (List.mem_of_getElem? (i := 29) (by decide +kernel)), by decide +kernel⟩
theorem im_X1_fillWays : zwd (.instanceMethod yX1_fillWays) := ⟨tw_2 _ (List.mem_of_getElem? (i := 31) (by decide +kernel)), by decide +kernel⟩
theorem ml_X1_22 : zwd (.methodLink RX1 22 yX1_isNext) := ⟨tw_2 _ (List.mem_of_getElem? (i := 33) (by decide +kernel)), by decide +kernel⟩
theorem im_X1_isNext : zwd (.instanceMethod yX1_isNext) := ⟨tw_2 _ (List.mem_of_getElem? (i := 35) (by decide +kernel)), by decide +kernel⟩
theorem ml_L_169 : zwd (.methodLink RL 169 yX11_drawLots) := ⟨tw_2 _ (List.mem_of_getElem? (i := 37) (by decide +kernel)), by decide +kernel⟩
theorem im_X11_drawLots : zwd (.instanceMethod yX11_drawLots) := ⟨tw_2 _ (List.mem_of_getElem? (i := 38) (by decide +kernel)), by decide +kernel⟩
theorem sl_X11_drawLots : zwd (.selects RX11 yX11_drawLots yX11_drawLots) := ⟨tw_2 _ (List.mem_of_getElem? (i := 39) (by decide +kernel)), by decide +kernel⟩
theorem ml_X11_169 : zwd (.methodLink RX11 169 yX5_draw) := ⟨tw_2 _ (List.mem_of_getElem? (i := 41) (by decide +kernel)), by decide +kernel⟩
theorem im_X5_draw : zwd (.instanceMethod yX5_draw) := ⟨tw_2 _ (List.mem_of_getElem? (i := 42) (by decide +kernel)), by decide +kernel⟩
theorem sl_X5_draw : zwd (.selects RX5 yX5_draw yX5_draw) := ⟨tw_2 _ (List.mem_of_getElem? (i := 43) (by decide +kernel)), by decide +kernel⟩
theorem ml_X5_36 : zwd (.methodLink RX5 36 yX5_drawOne) := ⟨tw_2 _ (List.mem_of_getElem? (i := 48) (by decide +kernel)), by decide +kernel⟩
theorem im_X5_drawOne : zwd (.instanceMethod yX5_drawOne) := ⟨tw_2 _ (List.mem_of_getElem? (i := 50) (by decide +kernel)), by decide +kernel⟩
theorem ml_X5_51 : zwd (.methodLink RX5 51 yX5_isFree) := ⟨tw_2 _ (List.mem_of_getElem? (i := 54) (by decide +kernel)), by decide +kernel⟩
theorem im_X5_isFree : zwd (.instanceMethod yX5_isFree) := ⟨tw_2 _ (List.mem_of_getElem? (i := 56) (by decide +kernel)), by decide +kernel⟩
theorem ml_L_227 : zwd (.methodLink RL 227 yX11_fines) := ⟨tw_2 _ (List.mem_of_getElem? (i := 58) (by decide +kernel)), by decide +kernel⟩
theorem im_X11_fines : zwd (.instanceMethod yX11_fines) := ⟨tw_2 _ (List.mem_of_getElem? (i := 59) (by decide +kernel)), by decide +kernel⟩
theorem sl_X11_fines : zwd (.selects RX11 yX11_fines yX11_fines) := ⟨tw_2 _ (List.mem_of_getElem? (i := 60) (by decide +kernel)), by decide +kernel⟩
theorem ml_L_237 : zwd (.methodLink RL 237 yX11_checksum) := ⟨tw_2 _ (List.mem_of_getElem? (i := 62) (by decide +kernel)), by decide +kernel⟩
theorem im_X11_checksum : zwd (.instanceMethod yX11_checksum) := ⟨tw_2 _ (List.mem_of_getElem? (i := 63) (by decide +kernel)), by decide +kernel⟩
theorem sl_X11_checksum : zwd (.selects RX11 yX11_checksum yX11_checksum) := ⟨tw_2 _ (List.mem_of_getElem? (i := 64) (by decide +kernel)), by decide +kernel⟩
theorem ml_X11_103 : zwd (.methodLink RX11 103 yJx4a65c_get_915e3) := ⟨tw_2 _ (List.mem_of_getElem? (i := 67) (by decide +kernel)), by decide +kernel⟩
theorem im_Jx4a65c_get_915e3 : zwd (.instanceMethod yJx4a65c_get_915e3) := ⟨tw_2 _ (List.mem_of_getElem? (i := 68) (by decide +kernel)), by decide +kernel⟩
theorem sl_Jx4a65c_get_915e3 : zwd (.selects RJx4a65c yJx4a65c_get_915e3 yJx4a65c_get_915e3) := ⟨tw_2 _ (List.mem_of_getElem? (i := 69) (by decide +kernel)), by decide +kernel⟩
theorem ml_Jx4a65c_118 : zwd (.methodLink RJx4a65c 118 yJ15_checkIndex_7cf53) := ⟨tw_2 _ (List.mem_of_getElem? (i := 71) (by decide +kernel)), by decide +kernel⟩
theorem st_J15_checkIndex_7cf53 : zwd (.static yJ15_checkIndex_7cf53) := ⟨tw_2 _ (List.mem_of_getElem? (i := 72) (by decide +kernel)), by decide +kernel⟩
theorem ml_J15_105 : zwd (.methodLink RJ15 105 yJ3_checkIndex_8e157) := ⟨tw_2 _ (List.mem_of_getElem? (i := 74) (by decide +kernel)), by decide +kernel⟩
theorem st_J3_checkIndex_8e157 : zwd (.static yJ3_checkIndex_8e157) := ⟨tw_2 _ (List.mem_of_getElem? (i := 75) (by decide +kernel)), by decide +kernel⟩
theorem ml_Jx4a65c_123 : zwd (.methodLink RJx4a65c 123 yJx4a65c_elementData_915e3) := ⟨tw_2 _ (List.mem_of_getElem? (i := 77) (by decide +kernel)), by decide +kernel⟩
theorem im_Jx4a65c_elementData_915e3 : zwd (.instanceMethod yJx4a65c_elementData_915e3) := ⟨tw_2 _ (List.mem_of_getElem? (i := 78) (by decide +kernel)), by decide +kernel⟩
theorem sl_Jx4a65c_elementData_915e3 : zwd (.selects RJx4a65c yJx4a65c_elementData_915e3 yJx4a65c_elementData_915e3) := ⟨tw_2 _ (List.mem_of_getElem? (i := 79) (by decide +kernel)), by decide +kernel⟩
theorem cl_X11_120 : zwd (.classLink RX11 120 RX0) := ⟨tw_2 _ (List.mem_of_getElem? (i := 81) (by decide +kernel)), by decide +kernel⟩
theorem cl_X11_90 : zwd (.classLink RX11 90 RX6) := ⟨tw_2 _ (List.mem_of_getElem? (i := 83) (by decide +kernel)), by decide +kernel⟩
theorem ml_L_249 : zwd (.methodLink RL 249 yX11_isSound) := ⟨tw_2 _ (List.mem_of_getElem? (i := 84) (by decide +kernel)), by decide +kernel⟩
theorem im_X11_isSound : zwd (.instanceMethod yX11_isSound) := ⟨tw_2 _ (List.mem_of_getElem? (i := 85) (by decide +kernel)), by decide +kernel⟩
theorem sl_X11_isSound : zwd (.selects RX11 yX11_isSound yX11_isSound) := ⟨tw_2 _ (List.mem_of_getElem? (i := 86) (by decide +kernel)), by decide +kernel⟩
theorem ml_X11_339 : zwd (.methodLink RX11 339 yX7_sumMoney) := ⟨tw_2 _ (List.mem_of_getElem? (i := 88) (by decide +kernel)), by decide +kernel⟩
theorem im_X7_sumMoney : zwd (.instanceMethod yX7_sumMoney) := ⟨tw_2 _ (List.mem_of_getElem? (i := 89) (by decide +kernel)), by decide +kernel⟩
theorem sl_X7_sumMoney : zwd (.selects RX7 yX7_sumMoney yX7_sumMoney) := ⟨tw_2 _ (List.mem_of_getElem? (i := 90) (by decide +kernel)), by decide +kernel⟩
theorem ml_X7_19 : zwd (.methodLink RX7 19 yJx4a65c_size_8abf5) := ⟨tw_2 _ (List.mem_of_getElem? (i := 92) (by decide +kernel)), by decide +kernel⟩
theorem ml_X7_23 : zwd (.methodLink RX7 23 yJx4a65c_get_915e3) := ⟨tw_2 _ (List.mem_of_getElem? (i := 93) (by decide +kernel)), by decide +kernel⟩
theorem cl_X7_43 : zwd (.classLink RX7 43 RX0) := ⟨tw_2 _ (List.mem_of_getElem? (i := 94) (by decide +kernel)), by decide +kernel⟩
theorem ml_X11_345 : zwd (.methodLink RX11 345 yX7_hasActsOnOnePitch) := ⟨tw_2 _ (List.mem_of_getElem? (i := 95) (by decide +kernel)), by decide +kernel⟩
theorem im_X7_hasActsOnOnePitch : zwd (.instanceMethod yX7_hasActsOnOnePitch) := ⟨tw_2 _ (List.mem_of_getElem? (i := 96) (by decide +kernel)), by decide +kernel⟩
theorem sl_X7_hasActsOnOnePitch : zwd (.selects RX7 yX7_hasActsOnOnePitch yX7_hasActsOnOnePitch) := ⟨tw_2 _ (List.mem_of_getElem? (i := 97) (by decide +kernel)), by decide +kernel⟩
theorem cl_X7_27 : zwd (.classLink RX7 27 RX6) := ⟨tw_2 _ (List.mem_of_getElem? (i := 99) (by decide +kernel)), by decide +kernel⟩
theorem ml_X7_33 : zwd (.methodLink RX7 33 yX6_actsOfTurns) := ⟨tw_2 _ (List.mem_of_getElem? (i := 100) (by decide +kernel)), by decide +kernel⟩
theorem im_X6_actsOfTurns : zwd (.instanceMethod yX6_actsOfTurns) := ⟨tw_2 _ (List.mem_of_getElem? (i := 101) (by decide +kernel)), by decide +kernel⟩
theorem sl_X6_actsOfTurns : zwd (.selects RX6 yX6_actsOfTurns yX6_actsOfTurns) := ⟨tw_2 _ (List.mem_of_getElem? (i := 102) (by decide +kernel)), by decide +kernel⟩
theorem ml_X6_67 : zwd (.methodLink RX6 67 yJx4a65c_size_8abf5) := ⟨tw_2 _ (List.mem_of_getElem? (i := 104) (by decide +kernel)), by decide +kernel⟩
theorem ml_X6_75 : zwd (.methodLink RX6 75 yJx4a65c_get_915e3) := ⟨tw_2 _ (List.mem_of_getElem? (i := 105) (by decide +kernel)), by decide +kernel⟩
theorem cl_X6_63 : zwd (.classLink RX6 63 RX8) := ⟨tw_2 _ (List.mem_of_getElem? (i := 106) (by decide +kernel)), by decide +kernel⟩
theorem ml_X11_349 : zwd (.methodLink RX11 349 yX5_isAllowed) := ⟨tw_2 _ (List.mem_of_getElem? (i := 107) (by decide +kernel)), by decide +kernel⟩
theorem im_X5_isAllowed : zwd (.instanceMethod yX5_isAllowed) := ⟨tw_2 _ (List.mem_of_getElem? (i := 108) (by decide +kernel)), by decide +kernel⟩
theorem sl_X5_isAllowed : zwd (.selects RX5 yX5_isAllowed yX5_isAllowed) := ⟨tw_2 _ (List.mem_of_getElem? (i := 109) (by decide +kernel)), by decide +kernel⟩
theorem ml_X5_55 : zwd (.methodLinkNest RX5 55 yX11_isIndex RX11) := ⟨tw_2 _ (List.mem_of_getElem? (i := 111) (by decide +kernel)), by decide +kernel⟩
theorem st_X11_isIndex : zwd (.static yX11_isIndex) := ⟨tw_2 _ (List.mem_of_getElem? (i := 112) (by decide +kernel)), by decide +kernel⟩
theorem ml_X11_352 : zwd (.methodLink RX11 352 yX7_hasTurnsApart) := ⟨tw_2 _ (List.mem_of_getElem? (i := 114) (by decide +kernel)), by decide +kernel⟩
theorem im_X7_hasTurnsApart : zwd (.instanceMethod yX7_hasTurnsApart) := ⟨tw_2 _ (List.mem_of_getElem? (i := 115) (by decide +kernel)), by decide +kernel⟩
theorem sl_X7_hasTurnsApart : zwd (.selects RX7 yX7_hasTurnsApart yX7_hasTurnsApart) := ⟨tw_2 _ (List.mem_of_getElem? (i := 116) (by decide +kernel)), by decide +kernel⟩
theorem ml_X7_91 : zwd (.methodLink RX7 91 yX6_hasTurnsApart) := ⟨tw_2 _ (List.mem_of_getElem? (i := 118) (by decide +kernel)), by decide +kernel⟩
theorem im_X6_hasTurnsApart : zwd (.instanceMethod yX6_hasTurnsApart) := ⟨tw_2 _ (List.mem_of_getElem? (i := 119) (by decide +kernel)), by decide +kernel⟩
theorem sl_X6_hasTurnsApart : zwd (.selects RX6 yX6_hasTurnsApart yX6_hasTurnsApart) := ⟨tw_2 _ (List.mem_of_getElem? (i := 120) (by decide +kernel)), by decide +kernel⟩
theorem ml_L_128 : zwd (.methodLink RL 128 yL_addPitch) := ⟨tw_2 _ (List.mem_of_getElem? (i := 122) (by decide +kernel)), by decide +kernel⟩
theorem st_L_addPitch : zwd (.static yL_addPitch) := ⟨tw_2 _ (List.mem_of_getElem? (i := 123) (by decide +kernel)), by decide +kernel⟩
theorem cl_L_13 : zwd (.classLink RL 13 "java/lang/IllegalArgumentException") := ⟨tw_2 _ (List.mem_of_getElem? (i := 125) (by decide +kernel)), by decide +kernel⟩
theorem cl_L_15 : zwd (.classLink RL 15 "java/lang/UnsupportedOperationException") := ⟨tw_2 _ (List.mem_of_getElem? (i := 126) (by decide +kernel)), by decide +kernel⟩
theorem cl_L_17 : zwd (.classLink RL 17 "java/lang/IllegalStateException") := ⟨tw_2 _ (List.mem_of_getElem? (i := 127) (by decide +kernel)), by decide +kernel⟩
theorem ml_L_7 : zwd (.methodLink RL 7 yX11_addPitch) := ⟨tw_2 _ (List.mem_of_getElem? (i := 128) (by decide +kernel)), by decide +kernel⟩
theorem im_X11_addPitch : zwd (.instanceMethod yX11_addPitch) := ⟨tw_2 _ (List.mem_of_getElem? (i := 129) (by decide +kernel)), by decide +kernel⟩
theorem sl_X11_addPitch : zwd (.selects RX11 yX11_addPitch yX11_addPitch) := ⟨tw_2 _ (List.mem_of_getElem? (i := 130) (by decide +kernel)), by decide +kernel⟩
theorem ml_X11_60 : zwd (.methodLink RX11 60 yX11_requireRange) := ⟨tw_2 _ (List.mem_of_getElem? (i := 132) (by decide +kernel)), by decide +kernel⟩
theorem st_X11_requireRange : zwd (.static yX11_requireRange) := ⟨tw_2 _ (List.mem_of_getElem? (i := 133) (by decide +kernel)), by decide +kernel⟩
theorem cl_X11_355 : zwd (.classLink RX11 355 "java/lang/IllegalArgumentException") := ⟨tw_2 _ (List.mem_of_getElem? (i := 135) (by decide +kernel)), by decide +kernel⟩
theorem ml_X11_64 : zwd (.methodLink RX11 64 yX7_hasPitchAt) := ⟨tw_2 _ (List.mem_of_getElem? (i := 207) (by decide +kernel)), by decide +kernel⟩
theorem im_X7_hasPitchAt : zwd (.instanceMethod yX7_hasPitchAt) := ⟨tw_2 _ (List.mem_of_getElem? (i := 208) (by decide +kernel)), by decide +kernel⟩
theorem sl_X7_hasPitchAt : zwd (.selects RX7 yX7_hasPitchAt yX7_hasPitchAt) := ⟨tw_2 _ (List.mem_of_getElem? (i := 209) (by decide +kernel)), by decide +kernel⟩
theorem cl_X11_68 : zwd (.classLink RX11 68 "java/lang/UnsupportedOperationException") := ⟨tw_2 _ (List.mem_of_getElem? (i := 211) (by decide +kernel)), by decide +kernel⟩
theorem cl_X11_85 : zwd (.classLink RX11 85 "java/lang/IllegalStateException") := ⟨tw_2 _ (List.mem_of_getElem? (i := 227) (by decide +kernel)), by decide +kernel⟩
theorem ml_X11_92 : zwd (.methodLink RX11 92 yX6_init) := ⟨tw_3 _ (List.mem_of_getElem? (i := 4) (by decide +kernel)), by decide +kernel⟩
theorem im_X6_init : zwd (.instanceMethod yX6_init) := ⟨tw_3 _ (List.mem_of_getElem? (i := 5) (by decide +kernel)), by decide +kernel⟩
theorem ml_X6_3 : zwd (.methodLink RX6 3 objectInit) := ⟨tw_3 _ (List.mem_of_getElem? (i := 7) (by decide +kernel)), by decide +kernel⟩
theorem cl_X6_26 : zwd (.classLink RX6 26 RJx4a65c) := ⟨tw_3 _ (List.mem_of_getElem? (i := 8) (by decide +kernel)), by decide +kernel⟩
theorem ml_X6_28 : zwd (.methodLink RX6 28 yJx4a65c_init_da8c8) := ⟨tw_3 _ (List.mem_of_getElem? (i := 9) (by decide +kernel)), by decide +kernel⟩
theorem ml_X11_95 : zwd (.methodLink RX11 95 yJx4a65c_add_9ea2d) := ⟨tw_3 _ (List.mem_of_getElem? (i := 44) (by decide +kernel)), by decide +kernel⟩
theorem im_Jx4a65c_add_9ea2d : zwd (.instanceMethod yJx4a65c_add_9ea2d) := ⟨tw_3 _ (List.mem_of_getElem? (i := 45) (by decide +kernel)), by decide +kernel⟩
theorem sl_Jx4a65c_add_9ea2d : zwd (.selects RJx4a65c yJx4a65c_add_9ea2d yJx4a65c_add_9ea2d) := ⟨tw_3 _ (List.mem_of_getElem? (i := 46) (by decide +kernel)), by decide +kernel⟩
theorem ml_Jx4a65c_131 : zwd (.methodLink RJx4a65c 131 yJx4a65c_add_72be8) := ⟨tw_3 _ (List.mem_of_getElem? (i := 48) (by decide +kernel)), by decide +kernel⟩
theorem im_Jx4a65c_add_72be8 : zwd (.instanceMethod yJx4a65c_add_72be8) := ⟨tw_3 _ (List.mem_of_getElem? (i := 50) (by decide +kernel)), by decide +kernel⟩
theorem ml_Jx4a65c_129 : zwd (.methodLink RJx4a65c 129 yJx4a65c_grow_d5877) := ⟨tw_3 _ (List.mem_of_getElem? (i := 52) (by decide +kernel)), by decide +kernel⟩
theorem im_Jx4a65c_grow_d5877 : zwd (.instanceMethod yJx4a65c_grow_d5877) := ⟨tw_3 _ (List.mem_of_getElem? (i := 54) (by decide +kernel)), by decide +kernel⟩
theorem ml_Jx4a65c_69 : zwd (.methodLink RJx4a65c 69 yJx4a65c_grow_92f84) := ⟨tw_3 _ (List.mem_of_getElem? (i := 56) (by decide +kernel)), by decide +kernel⟩
theorem im_Jx4a65c_grow_92f84 : zwd (.instanceMethod yJx4a65c_grow_92f84) := ⟨tw_3 _ (List.mem_of_getElem? (i := 58) (by decide +kernel)), by decide +kernel⟩
theorem ml_Jx4a65c_73 : zwd (.methodLink RJx4a65c 73 yJ8_newLength_cabcc) := ⟨tw_3 _ (List.mem_of_getElem? (i := 60) (by decide +kernel)), by decide +kernel⟩
theorem st_J8_newLength_cabcc : zwd (.static yJ8_newLength_cabcc) := ⟨tw_3 _ (List.mem_of_getElem? (i := 61) (by decide +kernel)), by decide +kernel⟩
theorem ml_J8_194 : zwd (.methodLink RJ8 194 yJ9_max_7cf53) := ⟨tw_3 _ (List.mem_of_getElem? (i := 63) (by decide +kernel)), by decide +kernel⟩
theorem st_J9_max_7cf53 : zwd (.static yJ9_max_7cf53) := ⟨tw_3 _ (List.mem_of_getElem? (i := 64) (by decide +kernel)), by decide +kernel⟩
theorem ml_J8_201 : zwd (.methodLink RJ8 201 yJ8_hugeLength_7cf53) := ⟨tw_3 _ (List.mem_of_getElem? (i := 67) (by decide +kernel)), by decide +kernel⟩
theorem st_J8_hugeLength_7cf53 : zwd (.static yJ8_hugeLength_7cf53) := ⟨tw_3 _ (List.mem_of_getElem? (i := 68) (by decide +kernel)), by decide +kernel⟩
theorem ml_Jx4a65c_66 : zwd (.methodLink RJx4a65c 66 yJ7_copyOf_1904c) := ⟨tw_3 _ (List.mem_of_getElem? (i := 70) (by decide +kernel)), by decide +kernel⟩
theorem st_J7_copyOf_1904c : zwd (.static yJ7_copyOf_1904c) := ⟨tw_3 _ (List.mem_of_getElem? (i := 71) (by decide +kernel)), by decide +kernel⟩
theorem ml_J7_300 : zwd (.methodLink RJ7 300 yJ7_copyOf_6403c) := ⟨tw_3 _ (List.mem_of_getElem? (i := 104) (by decide +kernel)), by decide +kernel⟩
theorem st_J7_copyOf_6403c : zwd (.static yJ7_copyOf_6403c) := ⟨tw_3 _ (List.mem_of_getElem? (i := 105) (by decide +kernel)), by decide +kernel⟩
theorem cl_J7_110 : zwd (.classLink RJ7 110 "[Ljava/lang/Object;") := ⟨tw_3 _ (List.mem_of_getElem? (i := 107) (by decide +kernel)), by decide +kernel⟩
theorem cl_J7_2 : zwd (.classLink RJ7 2 "java/lang/Object") := ⟨tw_3 _ (List.mem_of_getElem? (i := 109) (by decide +kernel)), by decide +kernel⟩
theorem ml_J7_304 : zwd (.methodLink RJ7 304 yJ9_min_7cf53) := ⟨tw_3 _ (List.mem_of_getElem? (i := 110) (by decide +kernel)), by decide +kernel⟩
theorem st_J9_min_7cf53 : zwd (.static yJ9_min_7cf53) := ⟨tw_3 _ (List.mem_of_getElem? (i := 111) (by decide +kernel)), by decide +kernel⟩
theorem ml_Jx4a65c_79 : zwd (.methodLink RJx4a65c 79 yJ9_max_7cf53) := ⟨tw_3 _ (List.mem_of_getElem? (i := 114) (by decide +kernel)), by decide +kernel⟩
theorem cl_Jx4a65c_7 : zwd (.classLink RJx4a65c 7 "java/lang/Object") := ⟨tw_3 _ (List.mem_of_getElem? (i := 115) (by decide +kernel)), by decide +kernel⟩
theorem ml_L_137 : zwd (.methodLink RL 137 yL_setPassers) := ⟨tw_3 _ (List.mem_of_getElem? (i := 116) (by decide +kernel)), by decide +kernel⟩
theorem st_L_setPassers : zwd (.static yL_setPassers) := ⟨tw_3 _ (List.mem_of_getElem? (i := 117) (by decide +kernel)), by decide +kernel⟩
theorem cl_L_23 : zwd (.classLink RL 23 "java/lang/IndexOutOfBoundsException") := ⟨tw_3 _ (List.mem_of_getElem? (i := 119) (by decide +kernel)), by decide +kernel⟩
theorem im_Jx00060_init_a7421 : zwd (.instanceMethod yJx00060_init_a7421) := ⟨tw_3 _ (List.mem_of_getElem? (i := 121) (by decide +kernel)), by decide +kernel⟩
theorem ml_L_19 : zwd (.methodLink RL 19 yX11_setPassers) := ⟨tw_3 _ (List.mem_of_getElem? (i := 143) (by decide +kernel)), by decide +kernel⟩
theorem im_X11_setPassers : zwd (.instanceMethod yX11_setPassers) := ⟨tw_3 _ (List.mem_of_getElem? (i := 144) (by decide +kernel)), by decide +kernel⟩
theorem sl_X11_setPassers : zwd (.selects RX11 yX11_setPassers yX11_setPassers) := ⟨tw_3 _ (List.mem_of_getElem? (i := 145) (by decide +kernel)), by decide +kernel⟩
theorem ml_X11_99 : zwd (.methodLink RX11 99 yX11_requirePitch) := ⟨tw_3 _ (List.mem_of_getElem? (i := 147) (by decide +kernel)), by decide +kernel⟩
theorem im_X11_requirePitch : zwd (.instanceMethod yX11_requirePitch) := ⟨tw_3 _ (List.mem_of_getElem? (i := 149) (by decide +kernel)), by decide +kernel⟩
theorem ml_X11_208 : zwd (.methodLink RX11 208 yX11_isIndex) := ⟨tw_3 _ (List.mem_of_getElem? (i := 151) (by decide +kernel)), by decide +kernel⟩
theorem cl_X11_211 : zwd (.classLink RX11 211 "java/lang/IndexOutOfBoundsException") := ⟨tw_3 _ (List.mem_of_getElem? (i := 152) (by decide +kernel)), by decide +kernel⟩
theorem ml_L_141 : zwd (.methodLink RL 141 yL_passersAt) := ⟨tw_3 _ (List.mem_of_getElem? (i := 165) (by decide +kernel)), by decide +kernel⟩
theorem st_L_passersAt : zwd (.static yL_passersAt) := ⟨tw_3 _ (List.mem_of_getElem? (i := 166) (by decide +kernel)), by decide +kernel⟩
theorem ml_L_25 : zwd (.methodLink RL 25 yX11_passersAt) := ⟨tw_3 _ (List.mem_of_getElem? (i := 168) (by decide +kernel)), by decide +kernel⟩
theorem im_X11_passersAt : zwd (.instanceMethod yX11_passersAt) := ⟨tw_3 _ (List.mem_of_getElem? (i := 169) (by decide +kernel)), by decide +kernel⟩
theorem sl_X11_passersAt : zwd (.selects RX11 yX11_passersAt yX11_passersAt) := ⟨tw_3 _ (List.mem_of_getElem? (i := 170) (by decide +kernel)), by decide +kernel⟩
theorem ml_X11_111 : zwd (.methodLink RX11 111 yX6_passersIn) := ⟨tw_3 _ (List.mem_of_getElem? (i := 172) (by decide +kernel)), by decide +kernel⟩
theorem im_X6_passersIn : zwd (.instanceMethod yX6_passersIn) := ⟨tw_3 _ (List.mem_of_getElem? (i := 173) (by decide +kernel)), by decide +kernel⟩
theorem sl_X6_passersIn : zwd (.selects RX6 yX6_passersIn yX6_passersIn) := ⟨tw_3 _ (List.mem_of_getElem? (i := 174) (by decide +kernel)), by decide +kernel⟩
theorem ml_X6_33 : zwd (.methodLinkNest RX6 33 yX11_isIndex RX11) := ⟨tw_3 _ (List.mem_of_getElem? (i := 176) (by decide +kernel)), by decide +kernel⟩
theorem ml_L_145 : zwd (.methodLink RL 145 yL_addAct) := ⟨tw_3 _ (List.mem_of_getElem? (i := 177) (by decide +kernel)), by decide +kernel⟩
theorem st_L_addAct : zwd (.static yL_addAct) := ⟨tw_3 _ (List.mem_of_getElem? (i := 178) (by decide +kernel)), by decide +kernel⟩
theorem ml_L_29 : zwd (.methodLink RL 29 yX11_addAct) := ⟨tw_3 _ (List.mem_of_getElem? (i := 180) (by decide +kernel)), by decide +kernel⟩
theorem im_X11_addAct : zwd (.instanceMethod yX11_addAct) := ⟨tw_3 _ (List.mem_of_getElem? (i := 181) (by decide +kernel)), by decide +kernel⟩
theorem sl_X11_addAct : zwd (.selects RX11 yX11_addAct yX11_addAct) := ⟨tw_3 _ (List.mem_of_getElem? (i := 182) (by decide +kernel)), by decide +kernel⟩
theorem ml_X11_122 : zwd (.methodLink RX11 122 yX0_init) := ⟨tw_3 _ (List.mem_of_getElem? (i := 186) (by decide +kernel)), by decide +kernel⟩
theorem im_X0_init : zwd (.instanceMethod yX0_init) := ⟨tw_3 _ (List.mem_of_getElem? (i := 187) (by decide +kernel)), by decide +kernel⟩
theorem ml_X0_1 : zwd (.methodLink RX0 1 objectInit) := ⟨tw_3 _ (List.mem_of_getElem? (i := 189) (by decide +kernel)), by decide +kernel⟩
theorem ml_L_149 : zwd (.methodLink RL 149 yL_setLine) := ⟨tw_3 _ (List.mem_of_getElem? (i := 232) (by decide +kernel)), by decide +kernel⟩
theorem st_L_setLine : zwd (.static yL_setLine) := ⟨tw_3 _ (List.mem_of_getElem? (i := 233) (by decide +kernel)), by decide +kernel⟩
theorem ml_L_33 : zwd (.methodLink RL 33 yX11_setLine) := ⟨tw_3 _ (List.mem_of_getElem? (i := 235) (by decide +kernel)), by decide +kernel⟩
theorem im_X11_setLine : zwd (.instanceMethod yX11_setLine) := ⟨tw_3 _ (List.mem_of_getElem? (i := 236) (by decide +kernel)), by decide +kernel⟩
theorem sl_X11_setLine : zwd (.selects RX11 yX11_setLine yX11_setLine) := ⟨tw_3 _ (List.mem_of_getElem? (i := 237) (by decide +kernel)), by decide +kernel⟩
theorem ml_X11_125 : zwd (.methodLink RX11 125 yX11_requireAct) := ⟨tw_3 _ (List.mem_of_getElem? (i := 239) (by decide +kernel)), by decide +kernel⟩
theorem im_X11_requireAct : zwd (.instanceMethod yX11_requireAct) := ⟨tw_4 _ (List.mem_of_getElem? (i := 1) (by decide +kernel)), by decide +kernel⟩
theorem ml_L_152 : zwd (.methodLink RL 152 yL_setPermit) := ⟨tw_4 _ (List.mem_of_getElem? (i := 4) (by decide +kernel)), by decide +kernel⟩
theorem st_L_setPermit : zwd (.static yL_setPermit) := ⟨tw_4 _ (List.mem_of_getElem? (i := 5) (by decide +kernel)), by decide +kernel⟩
theorem ml_L_36 : zwd (.methodLink RL 36 yX11_setPermit) := ⟨tw_4 _ (List.mem_of_getElem? (i := 7) (by decide +kernel)), by decide +kernel⟩
theorem im_X11_setPermit : zwd (.instanceMethod yX11_setPermit) := ⟨tw_4 _ (List.mem_of_getElem? (i := 8) (by decide +kernel)), by decide +kernel⟩
theorem sl_X11_setPermit : zwd (.selects RX11 yX11_setPermit yX11_setPermit) := ⟨tw_4 _ (List.mem_of_getElem? (i := 9) (by decide +kernel)), by decide +kernel⟩
theorem ml_L_156 : zwd (.methodLink RL 156 yL_addCustom) := ⟨tw_4 _ (List.mem_of_getElem? (i := 11) (by decide +kernel)), by decide +kernel⟩
theorem st_L_addCustom : zwd (.static yL_addCustom) := ⟨tw_4 _ (List.mem_of_getElem? (i := 12) (by decide +kernel)), by decide +kernel⟩
theorem ml_L_40 : zwd (.methodLink RL 40 yX11_addCustom) := ⟨tw_4 _ (List.mem_of_getElem? (i := 14) (by decide +kernel)), by decide +kernel⟩
theorem im_X11_addCustom : zwd (.instanceMethod yX11_addCustom) := ⟨tw_4 _ (List.mem_of_getElem? (i := 15) (by decide +kernel)), by decide +kernel⟩
theorem sl_X11_addCustom : zwd (.selects RX11 yX11_addCustom yX11_addCustom) := ⟨tw_4 _ (List.mem_of_getElem? (i := 16) (by decide +kernel)), by decide +kernel⟩
theorem ml_X11_136 : zwd (.methodLink RX11 136 yX11_requireTwoActs) := ⟨tw_4 _ (List.mem_of_getElem? (i := 18) (by decide +kernel)), by decide +kernel⟩
theorem im_X11_requireTwoActs : zwd (.instanceMethod yX11_requireTwoActs) := ⟨tw_4 _ (List.mem_of_getElem? (i := 20) (by decide +kernel)), by decide +kernel⟩
theorem ml_X11_140 : zwd (.methodLink RX11 140 yX1_leads) := ⟨tw_4 _ (List.mem_of_getElem? (i := 23) (by decide +kernel)), by decide +kernel⟩
theorem im_X1_leads : zwd (.instanceMethod yX1_leads) := ⟨tw_4 _ (List.mem_of_getElem? (i := 24) (by decide +kernel)), by decide +kernel⟩
theorem sl_X1_leads : zwd (.selects RX1 yX1_leads yX1_leads) := ⟨tw_4 _ (List.mem_of_getElem? (i := 25) (by decide +kernel)), by decide +kernel⟩
theorem ml_X11_146 : zwd (.methodLink RX11 146 yX1_has) := ⟨tw_4 _ (List.mem_of_getElem? (i := 28) (by decide +kernel)), by decide +kernel⟩
theorem im_X1_has : zwd (.instanceMethod yX1_has) := ⟨tw_4 _ (List.mem_of_getElem? (i := 29) (by decide +kernel)), by decide +kernel⟩
theorem sl_X1_has : zwd (.selects RX1 yX1_has yX1_has) := ⟨tw_4 _ (List.mem_of_getElem? (i := 30) (by decide +kernel)), by decide +kernel⟩
theorem ml_X11_149 : zwd (.methodLink RX11 149 yX1_put) := ⟨tw_4 _ (List.mem_of_getElem? (i := 32) (by decide +kernel)), by decide +kernel⟩
theorem im_X1_put : zwd (.instanceMethod yX1_put) := ⟨tw_4 _ (List.mem_of_getElem? (i := 33) (by decide +kernel)), by decide +kernel⟩
theorem sl_X1_put : zwd (.selects RX1 yX1_put yX1_put) := ⟨tw_4 _ (List.mem_of_getElem? (i := 34) (by decide +kernel)), by decide +kernel⟩
theorem ml_L_159 : zwd (.methodLink RL 159 yL_endCustom) := ⟨tw_4 _ (List.mem_of_getElem? (i := 36) (by decide +kernel)), by decide +kernel⟩
theorem st_L_endCustom : zwd (.static yL_endCustom) := ⟨tw_4 _ (List.mem_of_getElem? (i := 37) (by decide +kernel)), by decide +kernel⟩
theorem ml_L_44 : zwd (.methodLink RL 44 yX11_endCustom) := ⟨tw_4 _ (List.mem_of_getElem? (i := 39) (by decide +kernel)), by decide +kernel⟩
theorem im_X11_endCustom : zwd (.instanceMethod yX11_endCustom) := ⟨tw_4 _ (List.mem_of_getElem? (i := 40) (by decide +kernel)), by decide +kernel⟩
theorem sl_X11_endCustom : zwd (.selects RX11 yX11_endCustom yX11_endCustom) := ⟨tw_4 _ (List.mem_of_getElem? (i := 41) (by decide +kernel)), by decide +kernel⟩
theorem ml_X11_152 : zwd (.methodLink RX11 152 yX1_take) := ⟨tw_4 _ (List.mem_of_getElem? (i := 43) (by decide +kernel)), by decide +kernel⟩
theorem im_X1_take : zwd (.instanceMethod yX1_take) := ⟨tw_4 _ (List.mem_of_getElem? (i := 44) (by decide +kernel)), by decide +kernel⟩
theorem sl_X1_take : zwd (.selects RX1 yX1_take yX1_take) := ⟨tw_4 _ (List.mem_of_getElem? (i := 45) (by decide +kernel)), by decide +kernel⟩
theorem ml_L_166 : zwd (.methodLink RL 166 yL_orderAt) := ⟨tw_4 _ (List.mem_of_getElem? (i := 47) (by decide +kernel)), by decide +kernel⟩
theorem st_L_orderAt : zwd (.static yL_orderAt) := ⟨tw_4 _ (List.mem_of_getElem? (i := 48) (by decide +kernel)), by decide +kernel⟩
theorem cl_L_50 : zwd (.classLink RL 50 "java/util/NoSuchElementException") := ⟨tw_4 _ (List.mem_of_getElem? (i := 50) (by decide +kernel)), by decide +kernel⟩
theorem ml_L_47 : zwd (.methodLink RL 47 yX11_orderAt) := ⟨tw_4 _ (List.mem_of_getElem? (i := 51) (by decide +kernel)), by decide +kernel⟩
theorem im_X11_orderAt : zwd (.instanceMethod yX11_orderAt) := ⟨tw_4 _ (List.mem_of_getElem? (i := 52) (by decide +kernel)), by decide +kernel⟩
theorem sl_X11_orderAt : zwd (.selects RX11 yX11_orderAt yX11_orderAt) := ⟨tw_4 _ (List.mem_of_getElem? (i := 53) (by decide +kernel)), by decide +kernel⟩
theorem cl_X11_158 : zwd (.classLink RX11 158 "java/util/NoSuchElementException") := ⟨tw_4 _ (List.mem_of_getElem? (i := 55) (by decide +kernel)), by decide +kernel⟩
theorem ml_X11_165 : zwd (.methodLink RX11 165 yX1_actOfOrder) := ⟨tw_4 _ (List.mem_of_getElem? (i := 72) (by decide +kernel)), by decide +kernel⟩
theorem im_X1_actOfOrder : zwd (.instanceMethod yX1_actOfOrder) := ⟨tw_4 _ (List.mem_of_getElem? (i := 73) (by decide +kernel)), by decide +kernel⟩
theorem sl_X1_actOfOrder : zwd (.selects RX1 yX1_actOfOrder yX1_actOfOrder) := ⟨tw_4 _ (List.mem_of_getElem? (i := 74) (by decide +kernel)), by decide +kernel⟩
theorem ml_L_173 : zwd (.methodLink RL 173 yL_lotAt) := ⟨tw_4 _ (List.mem_of_getElem? (i := 76) (by decide +kernel)), by decide +kernel⟩
theorem st_L_lotAt : zwd (.static yL_lotAt) := ⟨tw_4 _ (List.mem_of_getElem? (i := 77) (by decide +kernel)), by decide +kernel⟩
theorem ml_L_52 : zwd (.methodLink RL 52 yX11_lotAt) := ⟨tw_4 _ (List.mem_of_getElem? (i := 79) (by decide +kernel)), by decide +kernel⟩
theorem im_X11_lotAt : zwd (.instanceMethod yX11_lotAt) := ⟨tw_4 _ (List.mem_of_getElem? (i := 80) (by decide +kernel)), by decide +kernel⟩
theorem sl_X11_lotAt : zwd (.selects RX11 yX11_lotAt yX11_lotAt) := ⟨tw_4 _ (List.mem_of_getElem? (i := 81) (by decide +kernel)), by decide +kernel⟩
theorem ml_L_177 : zwd (.methodLink RL 177 yL_seed) := ⟨tw_4 _ (List.mem_of_getElem? (i := 84) (by decide +kernel)), by decide +kernel⟩
theorem st_L_seed : zwd (.static yL_seed) := ⟨tw_4 _ (List.mem_of_getElem? (i := 85) (by decide +kernel)), by decide +kernel⟩
theorem ml_L_56 : zwd (.methodLink RL 56 yX11_seed) := ⟨tw_4 _ (List.mem_of_getElem? (i := 87) (by decide +kernel)), by decide +kernel⟩
theorem im_X11_seed : zwd (.instanceMethod yX11_seed) := ⟨tw_4 _ (List.mem_of_getElem? (i := 88) (by decide +kernel)), by decide +kernel⟩
theorem sl_X11_seed : zwd (.selects RX11 yX11_seed yX11_seed) := ⟨tw_4 _ (List.mem_of_getElem? (i := 89) (by decide +kernel)), by decide +kernel⟩
theorem ml_L_180 : zwd (.methodLink RL 180 yL_addTurn) := ⟨tw_4 _ (List.mem_of_getElem? (i := 92) (by decide +kernel)), by decide +kernel⟩
theorem st_L_addTurn : zwd (.static yL_addTurn) := ⟨tw_4 _ (List.mem_of_getElem? (i := 93) (by decide +kernel)), by decide +kernel⟩
theorem ml_L_59 : zwd (.methodLink RL 59 yX11_addTurn) := ⟨tw_4 _ (List.mem_of_getElem? (i := 95) (by decide +kernel)), by decide +kernel⟩
theorem im_X11_addTurn : zwd (.instanceMethod yX11_addTurn) := ⟨tw_4 _ (List.mem_of_getElem? (i := 96) (by decide +kernel)), by decide +kernel⟩
theorem sl_X11_addTurn : zwd (.selects RX11 yX11_addTurn yX11_addTurn) := ⟨tw_4 _ (List.mem_of_getElem? (i := 97) (by decide +kernel)), by decide +kernel⟩
theorem ml_X11_187 : zwd (.methodLink RX11 187 yX11_requireNotPlayed) := ⟨tw_4 _ (List.mem_of_getElem? (i := 99) (by decide +kernel)), by decide +kernel⟩
theorem im_X11_requireNotPlayed : zwd (.instanceMethod yX11_requireNotPlayed) := ⟨tw_4 _ (List.mem_of_getElem? (i := 101) (by decide +kernel)), by decide +kernel⟩
theorem ml_X11_193 : zwd (.methodLink RX11 193 yX7_hasTurnElsewhere) := ⟨tw_4 _ (List.mem_of_getElem? (i := 104) (by decide +kernel)), by decide +kernel⟩
theorem im_X7_hasTurnElsewhere : zwd (.instanceMethod yX7_hasTurnElsewhere) := ⟨tw_4 _ (List.mem_of_getElem? (i := 105) (by decide +kernel)), by decide +kernel⟩
theorem sl_X7_hasTurnElsewhere : zwd (.selects RX7 yX7_hasTurnElsewhere yX7_hasTurnElsewhere) := ⟨tw_4 _ (List.mem_of_getElem? (i := 106) (by decide +kernel)), by decide +kernel⟩
theorem cl_X11_198 : zwd (.classLink RX11 198 RX8) := ⟨tw_4 _ (List.mem_of_getElem? (i := 109) (by decide +kernel)), by decide +kernel⟩
theorem ml_X11_200 : zwd (.methodLink RX11 200 yX8_init) := ⟨tw_4 _ (List.mem_of_getElem? (i := 111) (by decide +kernel)), by decide +kernel⟩
theorem im_X8_init : zwd (.instanceMethod yX8_init) := ⟨tw_4 _ (List.mem_of_getElem? (i := 112) (by decide +kernel)), by decide +kernel⟩
theorem ml_X8_3 : zwd (.methodLink RX8 3 objectInit) := ⟨tw_4 _ (List.mem_of_getElem? (i := 114) (by decide +kernel)), by decide +kernel⟩
theorem ml_L_183 : zwd (.methodLink RL 183 yL_turnsByLots) := ⟨tw_4 _ (List.mem_of_getElem? (i := 156) (by decide +kernel)), by decide +kernel⟩
theorem st_L_turnsByLots : zwd (.static yL_turnsByLots) := ⟨tw_4 _ (List.mem_of_getElem? (i := 157) (by decide +kernel)), by decide +kernel⟩
theorem ml_L_62 : zwd (.methodLink RL 62 yX11_turnsByLots) := ⟨tw_4 _ (List.mem_of_getElem? (i := 159) (by decide +kernel)), by decide +kernel⟩
theorem im_X11_turnsByLots : zwd (.instanceMethod yX11_turnsByLots) := ⟨tw_4 _ (List.mem_of_getElem? (i := 160) (by decide +kernel)), by decide +kernel⟩
theorem sl_X11_turnsByLots : zwd (.selects RX11 yX11_turnsByLots yX11_turnsByLots) := ⟨tw_4 _ (List.mem_of_getElem? (i := 161) (by decide +kernel)), by decide +kernel⟩
theorem ml_X11_205 : zwd (.methodLink RX11 205 yX7_clearTurns) := ⟨tw_4 _ (List.mem_of_getElem? (i := 164) (by decide +kernel)), by decide +kernel⟩
theorem im_X7_clearTurns : zwd (.instanceMethod yX7_clearTurns) := ⟨tw_4 _ (List.mem_of_getElem? (i := 165) (by decide +kernel)), by decide +kernel⟩
theorem sl_X7_clearTurns : zwd (.selects RX7 yX7_clearTurns yX7_clearTurns) := ⟨tw_4 _ (List.mem_of_getElem? (i := 166) (by decide +kernel)), by decide +kernel⟩
theorem ml_X7_39 : zwd (.methodLink RX7 39 yJx4a65c_clear_da8c8) := ⟨tw_4 _ (List.mem_of_getElem? (i := 168) (by decide +kernel)), by decide +kernel⟩
theorem im_Jx4a65c_clear_da8c8 : zwd (.instanceMethod yJx4a65c_clear_da8c8) := ⟨tw_4 _ (List.mem_of_getElem? (i := 169) (by decide +kernel)), by decide +kernel⟩
theorem sl_Jx4a65c_clear_da8c8 : zwd (.selects RJx4a65c yJx4a65c_clear_da8c8 yJx4a65c_clear_da8c8) := ⟨tw_4 _ (List.mem_of_getElem? (i := 170) (by decide +kernel)), by decide +kernel⟩
theorem ml_L_187 : zwd (.methodLink RL 187 yL_exchange) := ⟨tw_4 _ (List.mem_of_getElem? (i := 172) (by decide +kernel)), by decide +kernel⟩
theorem st_L_exchange : zwd (.static yL_exchange) := ⟨tw_4 _ (List.mem_of_getElem? (i := 173) (by decide +kernel)), by decide +kernel⟩
theorem ml_L_66 : zwd (.methodLink RL 66 yX11_exchange) := ⟨tw_4 _ (List.mem_of_getElem? (i := 175) (by decide +kernel)), by decide +kernel⟩
theorem im_X11_exchange : zwd (.instanceMethod yX11_exchange) := ⟨tw_4 _ (List.mem_of_getElem? (i := 176) (by decide +kernel)), by decide +kernel⟩
theorem sl_X11_exchange : zwd (.selects RX11 yX11_exchange yX11_exchange) := ⟨tw_4 _ (List.mem_of_getElem? (i := 177) (by decide +kernel)), by decide +kernel⟩
theorem ml_X11_216 : zwd (.methodLink RX11 216 yX11_allowsExchange) := ⟨tw_4 _ (List.mem_of_getElem? (i := 180) (by decide +kernel)), by decide +kernel⟩
theorem im_X11_allowsExchange : zwd (.instanceMethod yX11_allowsExchange) := ⟨tw_4 _ (List.mem_of_getElem? (i := 182) (by decide +kernel)), by decide +kernel⟩
theorem ml_X11_382 : zwd (.methodLink RX11 382 yX11_exchanged) := ⟨tw_4 _ (List.mem_of_getElem? (i := 184) (by decide +kernel)), by decide +kernel⟩
theorem st_X11_exchanged : zwd (.static yX11_exchanged) := ⟨tw_4 _ (List.mem_of_getElem? (i := 185) (by decide +kernel)), by decide +kernel⟩
theorem ml_X11_222 : zwd (.methodLink RX11 222 yJx4a65c_set_bcc79) := ⟨tw_4 _ (List.mem_of_getElem? (i := 188) (by decide +kernel)), by decide +kernel⟩
theorem im_Jx4a65c_set_bcc79 : zwd (.instanceMethod yJx4a65c_set_bcc79) := ⟨tw_4 _ (List.mem_of_getElem? (i := 189) (by decide +kernel)), by decide +kernel⟩
theorem sl_Jx4a65c_set_bcc79 : zwd (.selects RJx4a65c yJx4a65c_set_bcc79 yJx4a65c_set_bcc79) := ⟨tw_4 _ (List.mem_of_getElem? (i := 190) (by decide +kernel)), by decide +kernel⟩
theorem ml_L_190 : zwd (.methodLink RL 190 yL_turnAt) := ⟨tw_4 _ (List.mem_of_getElem? (i := 192) (by decide +kernel)), by decide +kernel⟩
theorem st_L_turnAt : zwd (.static yL_turnAt) := ⟨tw_4 _ (List.mem_of_getElem? (i := 193) (by decide +kernel)), by decide +kernel⟩
theorem ml_L_70 : zwd (.methodLink RL 70 yX11_turnAt) := ⟨tw_4 _ (List.mem_of_getElem? (i := 195) (by decide +kernel)), by decide +kernel⟩
theorem im_X11_turnAt : zwd (.instanceMethod yX11_turnAt) := ⟨tw_4 _ (List.mem_of_getElem? (i := 196) (by decide +kernel)), by decide +kernel⟩
theorem sl_X11_turnAt : zwd (.selects RX11 yX11_turnAt yX11_turnAt) := ⟨tw_4 _ (List.mem_of_getElem? (i := 197) (by decide +kernel)), by decide +kernel⟩
theorem ml_L_193 : zwd (.methodLink RL 193 yL_setRain) := ⟨tw_4 _ (List.mem_of_getElem? (i := 199) (by decide +kernel)), by decide +kernel⟩
theorem st_L_setRain : zwd (.static yL_setRain) := ⟨tw_4 _ (List.mem_of_getElem? (i := 200) (by decide +kernel)), by decide +kernel⟩
theorem ml_L_73 : zwd (.methodLink RL 73 yX11_setRain) := ⟨tw_4 _ (List.mem_of_getElem? (i := 202) (by decide +kernel)), by decide +kernel⟩
theorem im_X11_setRain : zwd (.instanceMethod yX11_setRain) := ⟨tw_4 _ (List.mem_of_getElem? (i := 203) (by decide +kernel)), by decide +kernel⟩
theorem sl_X11_setRain : zwd (.selects RX11 yX11_setRain yX11_setRain) := ⟨tw_4 _ (List.mem_of_getElem? (i := 204) (by decide +kernel)), by decide +kernel⟩
theorem ml_X11_233 : zwd (.methodLink RX11 233 yX10_rainMinutes) := ⟨tw_4 _ (List.mem_of_getElem? (i := 206) (by decide +kernel)), by decide +kernel⟩
theorem im_X10_rainMinutes : zwd (.instanceMethod yX10_rainMinutes) := ⟨tw_4 _ (List.mem_of_getElem? (i := 207) (by decide +kernel)), by decide +kernel⟩
theorem sl_X10_rainMinutes : zwd (.selects RX10 yX10_rainMinutes yX10_rainMinutes) := ⟨tw_4 _ (List.mem_of_getElem? (i := 208) (by decide +kernel)), by decide +kernel⟩
theorem ml_L_196 : zwd (.methodLink RL 196 yL_setCold) := ⟨tw_4 _ (List.mem_of_getElem? (i := 210) (by decide +kernel)), by decide +kernel⟩
theorem st_L_setCold : zwd (.static yL_setCold) := ⟨tw_4 _ (List.mem_of_getElem? (i := 211) (by decide +kernel)), by decide +kernel⟩
theorem ml_L_76 : zwd (.methodLink RL 76 yX11_setCold) := ⟨tw_4 _ (List.mem_of_getElem? (i := 213) (by decide +kernel)), by decide +kernel⟩
theorem im_X11_setCold : zwd (.instanceMethod yX11_setCold) := ⟨tw_4 _ (List.mem_of_getElem? (i := 214) (by decide +kernel)), by decide +kernel⟩
theorem sl_X11_setCold : zwd (.selects RX11 yX11_setCold yX11_setCold) := ⟨tw_4 _ (List.mem_of_getElem? (i := 215) (by decide +kernel)), by decide +kernel⟩
theorem ml_L_199 : zwd (.methodLink RL 199 yL_setLaw) := ⟨tw_4 _ (List.mem_of_getElem? (i := 217) (by decide +kernel)), by decide +kernel⟩
theorem st_L_setLaw : zwd (.static yL_setLaw) := ⟨tw_4 _ (List.mem_of_getElem? (i := 218) (by decide +kernel)), by decide +kernel⟩
theorem ml_L_79 : zwd (.methodLink RL 79 yX11_setLaw) := ⟨tw_4 _ (List.mem_of_getElem? (i := 220) (by decide +kernel)), by decide +kernel⟩
theorem im_X11_setLaw : zwd (.instanceMethod yX11_setLaw) := ⟨tw_4 _ (List.mem_of_getElem? (i := 221) (by decide +kernel)), by decide +kernel⟩
theorem sl_X11_setLaw : zwd (.selects RX11 yX11_setLaw yX11_setLaw) := ⟨tw_4 _ (List.mem_of_getElem? (i := 222) (by decide +kernel)), by decide +kernel⟩
theorem ml_L_202 : zwd (.methodLink RL 202 yL_addVisit) := ⟨tw_4 _ (List.mem_of_getElem? (i := 224) (by decide +kernel)), by decide +kernel⟩
theorem st_L_addVisit : zwd (.static yL_addVisit) := ⟨tw_4 _ (List.mem_of_getElem? (i := 225) (by decide +kernel)), by decide +kernel⟩
theorem ml_L_82 : zwd (.methodLink RL 82 yX11_addVisit) := ⟨tw_4 _ (List.mem_of_getElem? (i := 227) (by decide +kernel)), by decide +kernel⟩
theorem im_X11_addVisit : zwd (.instanceMethod yX11_addVisit) := ⟨tw_4 _ (List.mem_of_getElem? (i := 228) (by decide +kernel)), by decide +kernel⟩
theorem sl_X11_addVisit : zwd (.selects RX11 yX11_addVisit yX11_addVisit) := ⟨tw_4 _ (List.mem_of_getElem? (i := 229) (by decide +kernel)), by decide +kernel⟩
theorem cl_X11_256 : zwd (.classLink RX11 256 RX9) := ⟨tw_4 _ (List.mem_of_getElem? (i := 232) (by decide +kernel)), by decide +kernel⟩
theorem ml_X11_258 : zwd (.methodLink RX11 258 yX9_init) := ⟨tw_4 _ (List.mem_of_getElem? (i := 234) (by decide +kernel)), by decide +kernel⟩
theorem im_X9_init : zwd (.instanceMethod yX9_init) := ⟨tw_4 _ (List.mem_of_getElem? (i := 235) (by decide +kernel)), by decide +kernel⟩
theorem ml_X9_1 : zwd (.methodLink RX9 1 objectInit) := ⟨tw_4 _ (List.mem_of_getElem? (i := 237) (by decide +kernel)), by decide +kernel⟩
theorem ml_L_205 : zwd (.methodLink RL 205 yL_join) := ⟨tw_5 _ (List.mem_of_getElem? (i := 16) (by decide +kernel)), by decide +kernel⟩
theorem st_L_join : zwd (.static yL_join) := ⟨tw_5 _ (List.mem_of_getElem? (i := 17) (by decide +kernel)), by decide +kernel⟩
theorem ml_L_85 : zwd (.methodLink RL 85 yX11_join) := ⟨tw_5 _ (List.mem_of_getElem? (i := 19) (by decide +kernel)), by decide +kernel⟩
theorem im_X11_join : zwd (.instanceMethod yX11_join) := ⟨tw_5 _ (List.mem_of_getElem? (i := 20) (by decide +kernel)), by decide +kernel⟩
theorem sl_X11_join : zwd (.selects RX11 yX11_join yX11_join) := ⟨tw_5 _ (List.mem_of_getElem? (i := 21) (by decide +kernel)), by decide +kernel⟩
theorem ml_X11_261 : zwd (.methodLink RX11 261 yX7_makePartners) := ⟨tw_5 _ (List.mem_of_getElem? (i := 23) (by decide +kernel)), by decide +kernel⟩
theorem im_X7_makePartners : zwd (.instanceMethod yX7_makePartners) := ⟨tw_5 _ (List.mem_of_getElem? (i := 24) (by decide +kernel)), by decide +kernel⟩
theorem sl_X7_makePartners : zwd (.selects RX7 yX7_makePartners yX7_makePartners) := ⟨tw_5 _ (List.mem_of_getElem? (i := 25) (by decide +kernel)), by decide +kernel⟩
theorem ml_X7_47 : zwd (.methodLink RX7 47 yJ6_bitCount_0f7a4) := ⟨tw_5 _ (List.mem_of_getElem? (i := 27) (by decide +kernel)), by decide +kernel⟩
theorem st_J6_bitCount_0f7a4 : zwd (.static yJ6_bitCount_0f7a4) := ⟨tw_5 _ (List.mem_of_getElem? (i := 28) (by decide +kernel)), by decide +kernel⟩
theorem ml_L_208 : zwd (.methodLink RL 208 yL_play) := ⟨tw_5 _ (List.mem_of_getElem? (i := 33) (by decide +kernel)), by decide +kernel⟩
theorem st_L_play : zwd (.static yL_play) := ⟨tw_5 _ (List.mem_of_getElem? (i := 34) (by decide +kernel)), by decide +kernel⟩
theorem ml_L_88 : zwd (.methodLink RL 88 yX11_play) := ⟨tw_5 _ (List.mem_of_getElem? (i := 36) (by decide +kernel)), by decide +kernel⟩
theorem im_X11_play : zwd (.instanceMethod yX11_play) := ⟨tw_5 _ (List.mem_of_getElem? (i := 37) (by decide +kernel)), by decide +kernel⟩
theorem sl_X11_play : zwd (.selects RX11 yX11_play yX11_play) := ⟨tw_5 _ (List.mem_of_getElem? (i := 38) (by decide +kernel)), by decide +kernel⟩
theorem ml_X11_265 : zwd (.methodLink RX11 265 yX2_run) := ⟨tw_5 _ (List.mem_of_getElem? (i := 40) (by decide +kernel)), by decide +kernel⟩
theorem im_X2_run : zwd (.instanceMethod yX2_run) := ⟨tw_5 _ (List.mem_of_getElem? (i := 41) (by decide +kernel)), by decide +kernel⟩
theorem sl_X2_run : zwd (.selects RX2 yX2_run yX2_run) := ⟨tw_5 _ (List.mem_of_getElem? (i := 42) (by decide +kernel)), by decide +kernel⟩
theorem ml_X2_44 : zwd (.methodLink RX2 44 yX7_openDay) := ⟨tw_5 _ (List.mem_of_getElem? (i := 44) (by decide +kernel)), by decide +kernel⟩
theorem im_X7_openDay : zwd (.instanceMethod yX7_openDay) := ⟨tw_5 _ (List.mem_of_getElem? (i := 45) (by decide +kernel)), by decide +kernel⟩
theorem sl_X7_openDay : zwd (.selects RX7 yX7_openDay yX7_openDay) := ⟨tw_5 _ (List.mem_of_getElem? (i := 46) (by decide +kernel)), by decide +kernel⟩
theorem ml_X7_56 : zwd (.methodLink RX7 56 yX6_openDay) := ⟨tw_5 _ (List.mem_of_getElem? (i := 48) (by decide +kernel)), by decide +kernel⟩
theorem im_X6_openDay : zwd (.instanceMethod yX6_openDay) := ⟨tw_5 _ (List.mem_of_getElem? (i := 49) (by decide +kernel)), by decide +kernel⟩
theorem sl_X6_openDay : zwd (.selects RX6 yX6_openDay yX6_openDay) := ⟨tw_5 _ (List.mem_of_getElem? (i := 50) (by decide +kernel)), by decide +kernel⟩
theorem ml_X2_49 : zwd (.methodLink RX2 49 yX7_isOver) := ⟨tw_5 _ (List.mem_of_getElem? (i := 52) (by decide +kernel)), by decide +kernel⟩
theorem im_X7_isOver : zwd (.instanceMethod yX7_isOver) := ⟨tw_5 _ (List.mem_of_getElem? (i := 53) (by decide +kernel)), by decide +kernel⟩
theorem sl_X7_isOver : zwd (.selects RX7 yX7_isOver yX7_isOver) := ⟨tw_5 _ (List.mem_of_getElem? (i := 54) (by decide +kernel)), by decide +kernel⟩
theorem ml_X7_63 : zwd (.methodLink RX7 63 yX6_isOver) := ⟨tw_5 _ (List.mem_of_getElem? (i := 56) (by decide +kernel)), by decide +kernel⟩
theorem im_X6_isOver : zwd (.instanceMethod yX6_isOver) := ⟨tw_5 _ (List.mem_of_getElem? (i := 57) (by decide +kernel)), by decide +kernel⟩
theorem sl_X6_isOver : zwd (.selects RX6 yX6_isOver yX6_isOver) := ⟨tw_5 _ (List.mem_of_getElem? (i := 58) (by decide +kernel)), by decide +kernel⟩
theorem ml_X2_53 : zwd (.methodLink RX2 53 yX7_openMinute) := ⟨tw_5 _ (List.mem_of_getElem? (i := 60) (by decide +kernel)), by decide +kernel⟩
theorem im_X7_openMinute : zwd (.instanceMethod yX7_openMinute) := ⟨tw_5 _ (List.mem_of_getElem? (i := 61) (by decide +kernel)), by decide +kernel⟩
theorem sl_X7_openMinute : zwd (.selects RX7 yX7_openMinute yX7_openMinute) := ⟨tw_5 _ (List.mem_of_getElem? (i := 62) (by decide +kernel)), by decide +kernel⟩
theorem ml_X7_59 : zwd (.methodLink RX7 59 yX6_openMinute) := ⟨tw_5 _ (List.mem_of_getElem? (i := 64) (by decide +kernel)), by decide +kernel⟩
theorem im_X6_openMinute : zwd (.instanceMethod yX6_openMinute) := ⟨tw_5 _ (List.mem_of_getElem? (i := 65) (by decide +kernel)), by decide +kernel⟩
theorem sl_X6_openMinute : zwd (.selects RX6 yX6_openMinute yX6_openMinute) := ⟨tw_5 _ (List.mem_of_getElem? (i := 66) (by decide +kernel)), by decide +kernel⟩
theorem ml_X6_71 : zwd (.methodLink RX6 71 yX6_beginNext) := ⟨tw_5 _ (List.mem_of_getElem? (i := 68) (by decide +kernel)), by decide +kernel⟩
theorem im_X6_beginNext : zwd (.instanceMethod yX6_beginNext) := ⟨tw_5 _ (List.mem_of_getElem? (i := 70) (by decide +kernel)), by decide +kernel⟩
theorem ml_X6_79 : zwd (.methodLink RX6 79 yX8_lastIfBegunAt) := ⟨tw_5 _ (List.mem_of_getElem? (i := 72) (by decide +kernel)), by decide +kernel⟩
theorem im_X8_lastIfBegunAt : zwd (.instanceMethod yX8_lastIfBegunAt) := ⟨tw_5 _ (List.mem_of_getElem? (i := 73) (by decide +kernel)), by decide +kernel⟩
theorem sl_X8_lastIfBegunAt : zwd (.selects RX8 yX8_lastIfBegunAt yX8_lastIfBegunAt) := ⟨tw_5 _ (List.mem_of_getElem? (i := 74) (by decide +kernel)), by decide +kernel⟩
theorem ml_X6_82 : zwd (.methodLink RX6 82 yX8_open) := ⟨tw_5 _ (List.mem_of_getElem? (i := 76) (by decide +kernel)), by decide +kernel⟩
theorem im_X8_open : zwd (.instanceMethod yX8_open) := ⟨tw_5 _ (List.mem_of_getElem? (i := 77) (by decide +kernel)), by decide +kernel⟩
theorem sl_X8_open : zwd (.selects RX8 yX8_open yX8_open) := ⟨tw_5 _ (List.mem_of_getElem? (i := 78) (by decide +kernel)), by decide +kernel⟩
theorem ml_X8_19 : zwd (.methodLink RX8 19 yX8_lastIfBegunAt) := ⟨tw_5 _ (List.mem_of_getElem? (i := 80) (by decide +kernel)), by decide +kernel⟩
theorem ml_X2_57 : zwd (.methodLink RX2 57 yX2_payVisits) := ⟨tw_5 _ (List.mem_of_getElem? (i := 81) (by decide +kernel)), by decide +kernel⟩
theorem im_X2_payVisits : zwd (.instanceMethod yX2_payVisits) := ⟨tw_5 _ (List.mem_of_getElem? (i := 83) (by decide +kernel)), by decide +kernel⟩
theorem ml_X2_63 : zwd (.methodLink RX2 63 yJx4a65c_size_8abf5) := ⟨tw_5 _ (List.mem_of_getElem? (i := 85) (by decide +kernel)), by decide +kernel⟩
theorem ml_X2_67 : zwd (.methodLink RX2 67 yJx4a65c_get_915e3) := ⟨tw_5 _ (List.mem_of_getElem? (i := 86) (by decide +kernel)), by decide +kernel⟩
theorem cl_X2_71 : zwd (.classLink RX2 71 RX9) := ⟨tw_5 _ (List.mem_of_getElem? (i := 87) (by decide +kernel)), by decide +kernel⟩
theorem ml_X2_92 : zwd (.methodLink RX2 92 yX2_judge) := ⟨tw_5 _ (List.mem_of_getElem? (i := 88) (by decide +kernel)), by decide +kernel⟩
theorem im_X2_judge : zwd (.instanceMethod yX2_judge) := ⟨tw_5 _ (List.mem_of_getElem? (i := 90) (by decide +kernel)), by decide +kernel⟩
theorem ml_X2_96 : zwd (.methodLink RX2 96 yX0_isUnlawfulFire) := ⟨tw_5 _ (List.mem_of_getElem? (i := 92) (by decide +kernel)), by decide +kernel⟩
theorem im_X0_isUnlawfulFire : zwd (.instanceMethod yX0_isUnlawfulFire) := ⟨tw_5 _ (List.mem_of_getElem? (i := 93) (by decide +kernel)), by decide +kernel⟩
theorem sl_X0_isUnlawfulFire : zwd (.selects RX0 yX0_isUnlawfulFire yX0_isUnlawfulFire) := ⟨tw_5 _ (List.mem_of_getElem? (i := 94) (by decide +kernel)), by decide +kernel⟩
theorem ml_X2_101 : zwd (.methodLink RX2 101 yX9_fine) := ⟨tw_5 _ (List.mem_of_getElem? (i := 96) (by decide +kernel)), by decide +kernel⟩
theorem im_X9_fine : zwd (.instanceMethod yX9_fine) := ⟨tw_5 _ (List.mem_of_getElem? (i := 97) (by decide +kernel)), by decide +kernel⟩
theorem sl_X9_fine : zwd (.selects RX9 yX9_fine yX9_fine) := ⟨tw_5 _ (List.mem_of_getElem? (i := 98) (by decide +kernel)), by decide +kernel⟩
theorem ml_X2_119 : zwd (.methodLink RX2 119 yX7_hasPlayingNearer) := ⟨tw_5 _ (List.mem_of_getElem? (i := 100) (by decide +kernel)), by decide +kernel⟩
theorem im_X7_hasPlayingNearer : zwd (.instanceMethod yX7_hasPlayingNearer) := ⟨tw_5 _ (List.mem_of_getElem? (i := 101) (by decide +kernel)), by decide +kernel⟩
theorem sl_X7_hasPlayingNearer : zwd (.selects RX7 yX7_hasPlayingNearer yX7_hasPlayingNearer) := ⟨tw_5 _ (List.mem_of_getElem? (i := 102) (by decide +kernel)), by decide +kernel⟩
theorem ml_X7_84 : zwd (.methodLink RX7 84 yX6_yardsTo) := ⟨tw_5 _ (List.mem_of_getElem? (i := 104) (by decide +kernel)), by decide +kernel⟩
theorem im_X6_yardsTo : zwd (.instanceMethod yX6_yardsTo) := ⟨tw_5 _ (List.mem_of_getElem? (i := 105) (by decide +kernel)), by decide +kernel⟩
theorem sl_X6_yardsTo : zwd (.selects RX6 yX6_yardsTo yX6_yardsTo) := ⟨tw_5 _ (List.mem_of_getElem? (i := 106) (by decide +kernel)), by decide +kernel⟩
theorem ml_X6_37 : zwd (.methodLink RX6 37 yJ9_abs_0f7a4) := ⟨tw_5 _ (List.mem_of_getElem? (i := 108) (by decide +kernel)), by decide +kernel⟩
theorem st_J9_abs_0f7a4 : zwd (.static yJ9_abs_0f7a4) := ⟨tw_5 _ (List.mem_of_getElem? (i := 109) (by decide +kernel)), by decide +kernel⟩
theorem ml_X2_60 : zwd (.methodLink RX2 60 yX2_playMinute) := ⟨tw_5 _ (List.mem_of_getElem? (i := 111) (by decide +kernel)), by decide +kernel⟩
theorem im_X2_playMinute : zwd (.instanceMethod yX2_playMinute) := ⟨tw_5 _ (List.mem_of_getElem? (i := 113) (by decide +kernel)), by decide +kernel⟩
theorem cl_X2_78 : zwd (.classLink RX2 78 RX6) := ⟨tw_5 _ (List.mem_of_getElem? (i := 115) (by decide +kernel)), by decide +kernel⟩
theorem ml_X2_135 : zwd (.methodLink RX2 135 yX2_gather) := ⟨tw_5 _ (List.mem_of_getElem? (i := 116) (by decide +kernel)), by decide +kernel⟩
theorem im_X2_gather : zwd (.instanceMethod yX2_gather) := ⟨tw_5 _ (List.mem_of_getElem? (i := 118) (by decide +kernel)), by decide +kernel⟩
theorem ml_X2_143 : zwd (.methodLink RX2 143 yX10_isRaining) := ⟨tw_5 _ (List.mem_of_getElem? (i := 120) (by decide +kernel)), by decide +kernel⟩
theorem im_X10_isRaining : zwd (.instanceMethod yX10_isRaining) := ⟨tw_5 _ (List.mem_of_getElem? (i := 121) (by decide +kernel)), by decide +kernel⟩
theorem sl_X10_isRaining : zwd (.selects RX10 yX10_isRaining yX10_isRaining) := ⟨tw_5 _ (List.mem_of_getElem? (i := 122) (by decide +kernel)), by decide +kernel⟩
theorem ml_X2_152 : zwd (.methodLink RX2 152 yX7_isDrowned) := ⟨tw_5 _ (List.mem_of_getElem? (i := 124) (by decide +kernel)), by decide +kernel⟩
theorem im_X7_isDrowned : zwd (.instanceMethod yX7_isDrowned) := ⟨tw_5 _ (List.mem_of_getElem? (i := 125) (by decide +kernel)), by decide +kernel⟩
theorem sl_X7_isDrowned : zwd (.selects RX7 yX7_isDrowned yX7_isDrowned) := ⟨tw_5 _ (List.mem_of_getElem? (i := 126) (by decide +kernel)), by decide +kernel⟩
theorem ml_X7_77 : zwd (.methodLink RX7 77 yX6_loudnessAt) := ⟨tw_5 _ (List.mem_of_getElem? (i := 128) (by decide +kernel)), by decide +kernel⟩
theorem im_X6_loudnessAt : zwd (.instanceMethod yX6_loudnessAt) := ⟨tw_5 _ (List.mem_of_getElem? (i := 129) (by decide +kernel)), by decide +kernel⟩
theorem sl_X6_loudnessAt : zwd (.selects RX6 yX6_loudnessAt yX6_loudnessAt) := ⟨tw_5 _ (List.mem_of_getElem? (i := 130) (by decide +kernel)), by decide +kernel⟩
theorem ml_X6_48 : zwd (.methodLink RX6 48 yX6_yardsTo) := ⟨tw_5 _ (List.mem_of_getElem? (i := 132) (by decide +kernel)), by decide +kernel⟩
theorem ml_X2_162 : zwd (.methodLink RX2 162 yJ9_min_7cf53) := ⟨tw_5 _ (List.mem_of_getElem? (i := 133) (by decide +kernel)), by decide +kernel⟩
theorem ml_X2_168 : zwd (.methodLink RX2 168 yX6_passersIn) := ⟨tw_5 _ (List.mem_of_getElem? (i := 134) (by decide +kernel)), by decide +kernel⟩
theorem ml_X2_178 : zwd (.methodLink RX2 178 yX8_move) := ⟨tw_5 _ (List.mem_of_getElem? (i := 135) (by decide +kernel)), by decide +kernel⟩
theorem im_X8_move : zwd (.instanceMethod yX8_move) := ⟨tw_5 _ (List.mem_of_getElem? (i := 136) (by decide +kernel)), by decide +kernel⟩
theorem sl_X8_move : zwd (.selects RX8 yX8_move yX8_move) := ⟨tw_5 _ (List.mem_of_getElem? (i := 137) (by decide +kernel)), by decide +kernel⟩
theorem ml_X8_41 : zwd (.methodLink RX8 41 yJ9_max_7cf53) := ⟨tw_5 _ (List.mem_of_getElem? (i := 139) (by decide +kernel)), by decide +kernel⟩
theorem ml_X2_139 : zwd (.methodLink RX2 139 yX2_endIfDue) := ⟨tw_5 _ (List.mem_of_getElem? (i := 140) (by decide +kernel)), by decide +kernel⟩
theorem im_X2_endIfDue : zwd (.instanceMethod yX2_endIfDue) := ⟨tw_5 _ (List.mem_of_getElem? (i := 142) (by decide +kernel)), by decide +kernel⟩
theorem ml_X2_182 : zwd (.methodLink RX2 182 yX8_breaksNow) := ⟨tw_5 _ (List.mem_of_getElem? (i := 144) (by decide +kernel)), by decide +kernel⟩
theorem im_X8_breaksNow : zwd (.instanceMethod yX8_breaksNow) := ⟨tw_5 _ (List.mem_of_getElem? (i := 145) (by decide +kernel)), by decide +kernel⟩
theorem sl_X8_breaksNow : zwd (.selects RX8 yX8_breaksNow yX8_breaksNow) := ⟨tw_5 _ (List.mem_of_getElem? (i := 146) (by decide +kernel)), by decide +kernel⟩
theorem ml_X2_185 : zwd (.methodLink RX2 185 yX8_breakAt) := ⟨tw_5 _ (List.mem_of_getElem? (i := 148) (by decide +kernel)), by decide +kernel⟩
theorem im_X8_breakAt : zwd (.instanceMethod yX8_breakAt) := ⟨tw_5 _ (List.mem_of_getElem? (i := 149) (by decide +kernel)), by decide +kernel⟩
theorem sl_X8_breakAt : zwd (.selects RX8 yX8_breakAt yX8_breakAt) := ⟨tw_5 _ (List.mem_of_getElem? (i := 150) (by decide +kernel)), by decide +kernel⟩
theorem ml_X2_191 : zwd (.methodLink RX2 191 yX8_passHat) := ⟨tw_5 _ (List.mem_of_getElem? (i := 152) (by decide +kernel)), by decide +kernel⟩
theorem im_X8_passHat : zwd (.instanceMethod yX8_passHat) := ⟨tw_5 _ (List.mem_of_getElem? (i := 153) (by decide +kernel)), by decide +kernel⟩
theorem sl_X8_passHat : zwd (.selects RX8 yX8_passHat yX8_passHat) := ⟨tw_5 _ (List.mem_of_getElem? (i := 154) (by decide +kernel)), by decide +kernel⟩
theorem ml_X2_196 : zwd (.methodLink RX2 196 yX7_share) := ⟨tw_5 _ (List.mem_of_getElem? (i := 156) (by decide +kernel)), by decide +kernel⟩
theorem im_X7_share : zwd (.instanceMethod yX7_share) := ⟨tw_5 _ (List.mem_of_getElem? (i := 157) (by decide +kernel)), by decide +kernel⟩
theorem sl_X7_share : zwd (.selects RX7 yX7_share yX7_share) := ⟨tw_5 _ (List.mem_of_getElem? (i := 158) (by decide +kernel)), by decide +kernel⟩
theorem ml_L_211 : zwd (.methodLink RL 211 yL_of) := ⟨tw_5 _ (List.mem_of_getElem? (i := 160) (by decide +kernel)), by decide +kernel⟩
theorem st_L_of : zwd (.static yL_of) := ⟨tw_5 _ (List.mem_of_getElem? (i := 161) (by decide +kernel)), by decide +kernel⟩
theorem ml_L_91 : zwd (.methodLink RL 91 yX11_of) := ⟨tw_5 _ (List.mem_of_getElem? (i := 163) (by decide +kernel)), by decide +kernel⟩
theorem im_X11_of : zwd (.instanceMethod yX11_of) := ⟨tw_5 _ (List.mem_of_getElem? (i := 164) (by decide +kernel)), by decide +kernel⟩
theorem sl_X11_of : zwd (.selects RX11 yX11_of yX11_of) := ⟨tw_5 _ (List.mem_of_getElem? (i := 165) (by decide +kernel)), by decide +kernel⟩
theorem ml_X11_271 : zwd (.methodLink RX11 271 yX11_requireThing) := ⟨tw_5 _ (List.mem_of_getElem? (i := 167) (by decide +kernel)), by decide +kernel⟩
theorem st_X11_requireThing : zwd (.static yX11_requireThing) := ⟨tw_5 _ (List.mem_of_getElem? (i := 168) (by decide +kernel)), by decide +kernel⟩
theorem ml_X11_275 : zwd (.methodLink RX11 275 yX11_requirePlayed) := ⟨tw_5 _ (List.mem_of_getElem? (i := 171) (by decide +kernel)), by decide +kernel⟩
theorem im_X11_requirePlayed : zwd (.instanceMethod yX11_requirePlayed) := ⟨tw_5 _ (List.mem_of_getElem? (i := 173) (by decide +kernel)), by decide +kernel⟩
theorem ml_X11_278 : zwd (.methodLink RX11 278 yX11_requirePlayedTurn) := ⟨tw_5 _ (List.mem_of_getElem? (i := 176) (by decide +kernel)), by decide +kernel⟩
theorem im_X11_requirePlayedTurn : zwd (.instanceMethod yX11_requirePlayedTurn) := ⟨tw_5 _ (List.mem_of_getElem? (i := 178) (by decide +kernel)), by decide +kernel⟩
theorem ml_X11_281 : zwd (.methodLink RX11 281 yX8_tell) := ⟨tw_5 _ (List.mem_of_getElem? (i := 181) (by decide +kernel)), by decide +kernel⟩
theorem im_X8_tell : zwd (.instanceMethod yX8_tell) := ⟨tw_5 _ (List.mem_of_getElem? (i := 182) (by decide +kernel)), by decide +kernel⟩
theorem sl_X8_tell : zwd (.selects RX8 yX8_tell yX8_tell) := ⟨tw_5 _ (List.mem_of_getElem? (i := 183) (by decide +kernel)), by decide +kernel⟩
theorem ml_L_215 : zwd (.methodLink RL 215 yL_isBroken) := ⟨tw_5 _ (List.mem_of_getElem? (i := 185) (by decide +kernel)), by decide +kernel⟩
theorem st_L_isBroken : zwd (.static yL_isBroken) := ⟨tw_5 _ (List.mem_of_getElem? (i := 186) (by decide +kernel)), by decide +kernel⟩
theorem ml_L_95 : zwd (.methodLink RL 95 yX11_isBroken) := ⟨tw_5 _ (List.mem_of_getElem? (i := 188) (by decide +kernel)), by decide +kernel⟩
theorem im_X11_isBroken : zwd (.instanceMethod yX11_isBroken) := ⟨tw_5 _ (List.mem_of_getElem? (i := 189) (by decide +kernel)), by decide +kernel⟩
theorem sl_X11_isBroken : zwd (.selects RX11 yX11_isBroken yX11_isBroken) := ⟨tw_5 _ (List.mem_of_getElem? (i := 190) (by decide +kernel)), by decide +kernel⟩
theorem ml_L_218 : zwd (.methodLink RL 218 yL_fineAt) := ⟨tw_5 _ (List.mem_of_getElem? (i := 192) (by decide +kernel)), by decide +kernel⟩
theorem st_L_fineAt : zwd (.static yL_fineAt) := ⟨tw_5 _ (List.mem_of_getElem? (i := 193) (by decide +kernel)), by decide +kernel⟩
theorem ml_L_98 : zwd (.methodLink RL 98 yX11_fineAt) := ⟨tw_5 _ (List.mem_of_getElem? (i := 195) (by decide +kernel)), by decide +kernel⟩
theorem im_X11_fineAt : zwd (.instanceMethod yX11_fineAt) := ⟨tw_5 _ (List.mem_of_getElem? (i := 196) (by decide +kernel)), by decide +kernel⟩
theorem sl_X11_fineAt : zwd (.selects RX11 yX11_fineAt yX11_fineAt) := ⟨tw_5 _ (List.mem_of_getElem? (i := 197) (by decide +kernel)), by decide +kernel⟩
theorem ml_X11_288 : zwd (.methodLink RX11 288 yX11_requireVisit) := ⟨tw_5 _ (List.mem_of_getElem? (i := 199) (by decide +kernel)), by decide +kernel⟩
theorem im_X11_requireVisit : zwd (.instanceMethod yX11_requireVisit) := ⟨tw_5 _ (List.mem_of_getElem? (i := 201) (by decide +kernel)), by decide +kernel⟩
theorem ml_L_221 : zwd (.methodLink RL 221 yL_sumAt) := ⟨tw_5 _ (List.mem_of_getElem? (i := 204) (by decide +kernel)), by decide +kernel⟩
theorem st_L_sumAt : zwd (.static yL_sumAt) := ⟨tw_5 _ (List.mem_of_getElem? (i := 205) (by decide +kernel)), by decide +kernel⟩
theorem ml_L_102 : zwd (.methodLink RL 102 yX11_sumAt) := ⟨tw_5 _ (List.mem_of_getElem? (i := 207) (by decide +kernel)), by decide +kernel⟩
theorem im_X11_sumAt : zwd (.instanceMethod yX11_sumAt) := ⟨tw_5 _ (List.mem_of_getElem? (i := 208) (by decide +kernel)), by decide +kernel⟩
theorem sl_X11_sumAt : zwd (.selects RX11 yX11_sumAt yX11_sumAt) := ⟨tw_5 _ (List.mem_of_getElem? (i := 209) (by decide +kernel)), by decide +kernel⟩
theorem ml_L_224 : zwd (.methodLink RL 224 yL_money) := ⟨tw_5 _ (List.mem_of_getElem? (i := 211) (by decide +kernel)), by decide +kernel⟩
theorem st_L_money : zwd (.static yL_money) := ⟨tw_5 _ (List.mem_of_getElem? (i := 212) (by decide +kernel)), by decide +kernel⟩
theorem ml_L_105 : zwd (.methodLink RL 105 yX11_money) := ⟨tw_5 _ (List.mem_of_getElem? (i := 214) (by decide +kernel)), by decide +kernel⟩
theorem im_X11_money : zwd (.instanceMethod yX11_money) := ⟨tw_5 _ (List.mem_of_getElem? (i := 215) (by decide +kernel)), by decide +kernel⟩
theorem sl_X11_money : zwd (.selects RX11 yX11_money yX11_money) := ⟨tw_5 _ (List.mem_of_getElem? (i := 216) (by decide +kernel)), by decide +kernel⟩
theorem ml_L_231 : zwd (.methodLink RL 231 yL_nextDay) := ⟨tw_5 _ (List.mem_of_getElem? (i := 218) (by decide +kernel)), by decide +kernel⟩
theorem st_L_nextDay : zwd (.static yL_nextDay) := ⟨tw_5 _ (List.mem_of_getElem? (i := 219) (by decide +kernel)), by decide +kernel⟩
theorem ml_L_108 : zwd (.methodLink RL 108 yX11_nextDay) := ⟨tw_5 _ (List.mem_of_getElem? (i := 221) (by decide +kernel)), by decide +kernel⟩
theorem im_X11_nextDay : zwd (.instanceMethod yX11_nextDay) := ⟨tw_5 _ (List.mem_of_getElem? (i := 222) (by decide +kernel)), by decide +kernel⟩
theorem sl_X11_nextDay : zwd (.selects RX11 yX11_nextDay yX11_nextDay) := ⟨tw_5 _ (List.mem_of_getElem? (i := 223) (by decide +kernel)), by decide +kernel⟩
theorem ml_X11_304 : zwd (.methodLink RX11 304 yX3_write) := ⟨tw_5 _ (List.mem_of_getElem? (i := 225) (by decide +kernel)), by decide +kernel⟩
theorem im_X3_write : zwd (.instanceMethod yX3_write) := ⟨tw_5 _ (List.mem_of_getElem? (i := 226) (by decide +kernel)), by decide +kernel⟩
theorem sl_X3_write : zwd (.selects RX3 yX3_write yX3_write) := ⟨tw_5 _ (List.mem_of_getElem? (i := 227) (by decide +kernel)), by decide +kernel⟩
theorem ml_X3_25 : zwd (.methodLink RX3 25 yJ9_min_7cf53) := ⟨tw_5 _ (List.mem_of_getElem? (i := 230) (by decide +kernel)), by decide +kernel⟩
theorem ml_X11_307 : zwd (.methodLink RX11 307 yX10_endRain) := ⟨tw_5 _ (List.mem_of_getElem? (i := 231) (by decide +kernel)), by decide +kernel⟩
theorem im_X10_endRain : zwd (.instanceMethod yX10_endRain) := ⟨tw_5 _ (List.mem_of_getElem? (i := 232) (by decide +kernel)), by decide +kernel⟩
theorem sl_X10_endRain : zwd (.selects RX10 yX10_endRain yX10_endRain) := ⟨tw_5 _ (List.mem_of_getElem? (i := 233) (by decide +kernel)), by decide +kernel⟩
theorem ml_X11_310 : zwd (.methodLink RX11 310 yX2_begin) := ⟨tw_5 _ (List.mem_of_getElem? (i := 235) (by decide +kernel)), by decide +kernel⟩
theorem im_X2_begin : zwd (.instanceMethod yX2_begin) := ⟨tw_5 _ (List.mem_of_getElem? (i := 236) (by decide +kernel)), by decide +kernel⟩
theorem sl_X2_begin : zwd (.selects RX2 yX2_begin yX2_begin) := ⟨tw_5 _ (List.mem_of_getElem? (i := 237) (by decide +kernel)), by decide +kernel⟩
theorem ml_X2_30 : zwd (.methodLink RX2 30 yJx4a65c_clear_da8c8) := ⟨tw_5 _ (List.mem_of_getElem? (i := 239) (by decide +kernel)), by decide +kernel⟩
theorem ml_L_234 : zwd (.methodLink RL 234 yL_diary) := ⟨tw_6 _ (List.mem_of_getElem? (i := 0) (by decide +kernel)), by decide +kernel⟩
theorem st_L_diary : zwd (.static yL_diary) := ⟨tw_6 _ (List.mem_of_getElem? (i := 1) (by decide +kernel)), by decide +kernel⟩
theorem ml_L_111 : zwd (.methodLink RL 111 yX11_diary) := ⟨tw_6 _ (List.mem_of_getElem? (i := 3) (by decide +kernel)), by decide +kernel⟩
theorem im_X11_diary : zwd (.instanceMethod yX11_diary) := ⟨tw_6 _ (List.mem_of_getElem? (i := 4) (by decide +kernel)), by decide +kernel⟩
theorem sl_X11_diary : zwd (.selects RX11 yX11_diary yX11_diary) := ⟨tw_6 _ (List.mem_of_getElem? (i := 5) (by decide +kernel)), by decide +kernel⟩
theorem ml_L_242 : zwd (.methodLink RL 242 yL_goodShare) := ⟨tw_6 _ (List.mem_of_getElem? (i := 8) (by decide +kernel)), by decide +kernel⟩
theorem st_L_goodShare : zwd (.static yL_goodShare) := ⟨tw_6 _ (List.mem_of_getElem? (i := 9) (by decide +kernel)), by decide +kernel⟩
theorem cl_L_118 : zwd (.classLink RL 118 "java/lang/ArithmeticException") := ⟨tw_6 _ (List.mem_of_getElem? (i := 11) (by decide +kernel)), by decide +kernel⟩
theorem ml_L_114 : zwd (.methodLink RL 114 yX11_goodShare) := ⟨tw_6 _ (List.mem_of_getElem? (i := 25) (by decide +kernel)), by decide +kernel⟩
theorem im_X11_goodShare : zwd (.instanceMethod yX11_goodShare) := ⟨tw_6 _ (List.mem_of_getElem? (i := 26) (by decide +kernel)), by decide +kernel⟩
theorem sl_X11_goodShare : zwd (.selects RX11 yX11_goodShare yX11_goodShare) := ⟨tw_6 _ (List.mem_of_getElem? (i := 27) (by decide +kernel)), by decide +kernel⟩
theorem ml_X11_326 : zwd (.methodLink RX11 326 yX7_countTurns) := ⟨tw_6 _ (List.mem_of_getElem? (i := 29) (by decide +kernel)), by decide +kernel⟩
theorem im_X7_countTurns : zwd (.instanceMethod yX7_countTurns) := ⟨tw_6 _ (List.mem_of_getElem? (i := 30) (by decide +kernel)), by decide +kernel⟩
theorem sl_X7_countTurns : zwd (.selects RX7 yX7_countTurns yX7_countTurns) := ⟨tw_6 _ (List.mem_of_getElem? (i := 31) (by decide +kernel)), by decide +kernel⟩
theorem cl_X11_329 : zwd (.classLink RX11 329 "java/lang/ArithmeticException") := ⟨tw_6 _ (List.mem_of_getElem? (i := 33) (by decide +kernel)), by decide +kernel⟩
theorem ml_X11_334 : zwd (.methodLink RX11 334 yX7_countGoodTurns) := ⟨tw_6 _ (List.mem_of_getElem? (i := 36) (by decide +kernel)), by decide +kernel⟩
theorem im_X7_countGoodTurns : zwd (.instanceMethod yX7_countGoodTurns) := ⟨tw_6 _ (List.mem_of_getElem? (i := 37) (by decide +kernel)), by decide +kernel⟩
theorem sl_X7_countGoodTurns : zwd (.selects RX7 yX7_countGoodTurns yX7_countGoodTurns) := ⟨tw_6 _ (List.mem_of_getElem? (i := 38) (by decide +kernel)), by decide +kernel⟩
theorem cl_X7_72 : zwd (.classLink RX7 72 RX8) := ⟨tw_6 _ (List.mem_of_getElem? (i := 40) (by decide +kernel)), by decide +kernel⟩
theorem ml_X7_88 : zwd (.methodLink RX7 88 yX8_wasGood) := ⟨tw_6 _ (List.mem_of_getElem? (i := 41) (by decide +kernel)), by decide +kernel⟩
theorem im_X8_wasGood : zwd (.instanceMethod yX8_wasGood) := ⟨tw_6 _ (List.mem_of_getElem? (i := 42) (by decide +kernel)), by decide +kernel⟩
theorem sl_X8_wasGood : zwd (.selects RX8 yX8_wasGood yX8_wasGood) := ⟨tw_6 _ (List.mem_of_getElem? (i := 43) (by decide +kernel)), by decide +kernel⟩
theorem ml_L_246 : zwd (.methodLink RL 246 yL_meanMoney) := ⟨tw_6 _ (List.mem_of_getElem? (i := 45) (by decide +kernel)), by decide +kernel⟩
theorem st_L_meanMoney : zwd (.static yL_meanMoney) := ⟨tw_6 _ (List.mem_of_getElem? (i := 46) (by decide +kernel)), by decide +kernel⟩
theorem ml_L_120 : zwd (.methodLink RL 120 yX11_meanMoney) := ⟨tw_6 _ (List.mem_of_getElem? (i := 48) (by decide +kernel)), by decide +kernel⟩
theorem im_X11_meanMoney : zwd (.instanceMethod yX11_meanMoney) := ⟨tw_6 _ (List.mem_of_getElem? (i := 49) (by decide +kernel)), by decide +kernel⟩
theorem sl_X11_meanMoney : zwd (.selects RX11 yX11_meanMoney yX11_meanMoney) := ⟨tw_6 _ (List.mem_of_getElem? (i := 50) (by decide +kernel)), by decide +kernel⟩
theorem cl_L_125 : zwd (.classLink RL 125 RX16) := ⟨tw_6 _ (List.mem_of_getElem? (i := 53) (by decide +kernel)), by decide +kernel⟩
theorem ml_L_127 : zwd (.methodLink RL 127 yX16_init) := ⟨tw_6 _ (List.mem_of_getElem? (i := 55) (by decide +kernel)), by decide +kernel⟩
theorem im_X16_init : zwd (.instanceMethod yX16_init) := ⟨tw_6 _ (List.mem_of_getElem? (i := 56) (by decide +kernel)), by decide +kernel⟩
theorem ml_X16_1 : zwd (.methodLink RX16 1 objectInit) := ⟨tw_6 _ (List.mem_of_getElem? (i := 58) (by decide +kernel)), by decide +kernel⟩
theorem cl_X16_7 : zwd (.classLink RX16 7 RJx4a65c) := ⟨tw_6 _ (List.mem_of_getElem? (i := 59) (by decide +kernel)), by decide +kernel⟩
theorem ml_X16_9 : zwd (.methodLink RX16 9 yJx4a65c_init_da8c8) := ⟨tw_6 _ (List.mem_of_getElem? (i := 60) (by decide +kernel)), by decide +kernel⟩
theorem cl_X16_28 : zwd (.classLink RX16 28 "[[Z") := ⟨tw_6 _ (List.mem_of_getElem? (i := 61) (by decide +kernel)), by decide +kernel⟩
theorem ml_L_134 : zwd (.methodLink RL 134 yX16_thrown) := ⟨tw_6 _ (List.mem_of_getElem? (i := 119) (by decide +kernel)), by decide +kernel⟩
theorem im_X16_thrown : zwd (.instanceMethod yX16_thrown) := ⟨tw_6 _ (List.mem_of_getElem? (i := 120) (by decide +kernel)), by decide +kernel⟩
theorem sl_X16_thrown : zwd (.selects RX16 yX16_thrown yX16_thrown) := ⟨tw_6 _ (List.mem_of_getElem? (i := 121) (by decide +kernel)), by decide +kernel⟩
theorem ml_L_133 : zwd (.methodLink RL 133 yX16_addPitch) := ⟨tw_6 _ (List.mem_of_getElem? (i := 123) (by decide +kernel)), by decide +kernel⟩
theorem im_X16_addPitch : zwd (.instanceMethod yX16_addPitch) := ⟨tw_6 _ (List.mem_of_getElem? (i := 124) (by decide +kernel)), by decide +kernel⟩
theorem sl_X16_addPitch : zwd (.selects RX16 yX16_addPitch yX16_addPitch) := ⟨tw_6 _ (List.mem_of_getElem? (i := 125) (by decide +kernel)), by decide +kernel⟩
theorem ml_X16_54 : zwd (.methodLink RX16 54 yJx4a65c_iterator_32c93) := ⟨tw_6 _ (List.mem_of_getElem? (i := 127) (by decide +kernel)), by decide +kernel⟩
theorem im_Jx4a65c_iterator_32c93 : zwd (.instanceMethod yJx4a65c_iterator_32c93) := ⟨tw_6 _ (List.mem_of_getElem? (i := 128) (by decide +kernel)), by decide +kernel⟩
theorem sl_Jx4a65c_iterator_32c93 : zwd (.selects RJx4a65c yJx4a65c_iterator_32c93 yJx4a65c_iterator_32c93) := ⟨tw_6 _ (List.mem_of_getElem? (i := 129) (by decide +kernel)), by decide +kernel⟩
theorem cl_Jx4a65c_267 : zwd (.classLink RJx4a65c 267 RJx35411) := ⟨tw_6 _ (List.mem_of_getElem? (i := 131) (by decide +kernel)), by decide +kernel⟩
theorem ml_Jx4a65c_269 : zwd (.methodLink RJx4a65c 269 yJx35411_init_45d68) := ⟨tw_6 _ (List.mem_of_getElem? (i := 133) (by decide +kernel)), by decide +kernel⟩
theorem im_Jx35411_init_45d68 : zwd (.instanceMethod yJx35411_init_45d68) := ⟨tw_6 _ (List.mem_of_getElem? (i := 134) (by decide +kernel)), by decide +kernel⟩
theorem ml_Jx35411_7 : zwd (.methodLink RJx35411 7 objectInit) := ⟨tw_6 _ (List.mem_of_getElem? (i := 136) (by decide +kernel)), by decide +kernel⟩
theorem im_Jx35411_hasNext_aae02 : zwd (.instanceMethod yJx35411_hasNext_aae02) := ⟨tw_6 _ (List.mem_of_getElem? (i := 157) (by decide +kernel)), by decide +kernel⟩
theorem im_Jx35411_next_0502b : zwd (.instanceMethod yJx35411_next_0502b) := ⟨tw_6 _ (List.mem_of_getElem? (i := 166) (by decide +kernel)), by decide +kernel⟩
theorem ml_Jx35411_31 : zwd (.methodLink RJx35411 31 yJx35411_checkForComodification_da8c8) := ⟨tw_6 _ (List.mem_of_getElem? (i := 169) (by decide +kernel)), by decide +kernel⟩
theorem im_Jx35411_checkForComodification_da8c8 : zwd (.instanceMethod yJx35411_checkForComodification_da8c8) := ⟨tw_6 _ (List.mem_of_getElem? (i := 170) (by decide +kernel)), by decide +kernel⟩
theorem sl_Jx35411_checkForComodification_da8c8 : zwd (.selects RJx35411 yJx35411_checkForComodification_da8c8 yJx35411_checkForComodification_da8c8) := ⟨tw_6 _ (List.mem_of_getElem? (i := 171) (by decide +kernel)), by decide +kernel⟩
theorem cl_Jx35411_34 : zwd (.classLink RJx35411 34 "java/util/NoSuchElementException") := ⟨tw_6 _ (List.mem_of_getElem? (i := 173) (by decide +kernel)), by decide +kernel⟩
theorem cl_X16_68 : zwd (.classLink RX16 68 RX13) := ⟨tw_6 _ (List.mem_of_getElem? (i := 184) (by decide +kernel)), by decide +kernel⟩
theorem ml_X16_50 : zwd (.methodLink RX16 50 yX16_in) := ⟨tw_6 _ (List.mem_of_getElem? (i := 186) (by decide +kernel)), by decide +kernel⟩
theorem st_X16_in : zwd (.static yX16_in) := ⟨tw_6 _ (List.mem_of_getElem? (i := 187) (by decide +kernel)), by decide +kernel⟩
theorem ml_X16_46 : zwd (.methodLink RX16 46 yJx4a65c_size_8abf5) := ⟨tw_6 _ (List.mem_of_getElem? (i := 190) (by decide +kernel)), by decide +kernel⟩
theorem ml_X16_77 : zwd (.methodLink RX16 77 yX13_init) := ⟨tw_6 _ (List.mem_of_getElem? (i := 192) (by decide +kernel)), by decide +kernel⟩
theorem im_X13_init : zwd (.instanceMethod yX13_init) := ⟨tw_6 _ (List.mem_of_getElem? (i := 193) (by decide +kernel)), by decide +kernel⟩
theorem ml_X13_3 : zwd (.methodLink RX13 3 objectInit) := ⟨tw_6 _ (List.mem_of_getElem? (i := 195) (by decide +kernel)), by decide +kernel⟩
theorem cl_X13_15 : zwd (.classLink RX13 15 RJx4a65c) := ⟨tw_6 _ (List.mem_of_getElem? (i := 196) (by decide +kernel)), by decide +kernel⟩
theorem ml_X13_17 : zwd (.methodLink RX13 17 yJx4a65c_init_da8c8) := ⟨tw_6 _ (List.mem_of_getElem? (i := 197) (by decide +kernel)), by decide +kernel⟩
theorem ml_X16_80 : zwd (.methodLink RX16 80 yJx4a65c_add_9ea2d) := ⟨tw_6 _ (List.mem_of_getElem? (i := 219) (by decide +kernel)), by decide +kernel⟩
theorem ml_L_140 : zwd (.methodLink RL 140 yX16_setPassers) := ⟨tw_6 _ (List.mem_of_getElem? (i := 220) (by decide +kernel)), by decide +kernel⟩
theorem im_X16_setPassers : zwd (.instanceMethod yX16_setPassers) := ⟨tw_6 _ (List.mem_of_getElem? (i := 221) (by decide +kernel)), by decide +kernel⟩
theorem sl_X16_setPassers : zwd (.selects RX16 yX16_setPassers yX16_setPassers) := ⟨tw_6 _ (List.mem_of_getElem? (i := 222) (by decide +kernel)), by decide +kernel⟩
theorem ml_X16_84 : zwd (.methodLink RX16 84 yX16_isPitch) := ⟨tw_6 _ (List.mem_of_getElem? (i := 224) (by decide +kernel)), by decide +kernel⟩
theorem im_X16_isPitch : zwd (.instanceMethod yX16_isPitch) := ⟨tw_6 _ (List.mem_of_getElem? (i := 226) (by decide +kernel)), by decide +kernel⟩
theorem ml_X16_94 : zwd (.methodLink RX16 94 yJx4a65c_get_915e3) := ⟨tw_6 _ (List.mem_of_getElem? (i := 231) (by decide +kernel)), by decide +kernel⟩
theorem ml_L_144 : zwd (.methodLink RL 144 yX16_passersAt) := ⟨tw_6 _ (List.mem_of_getElem? (i := 232) (by decide +kernel)), by decide +kernel⟩
theorem im_X16_passersAt : zwd (.instanceMethod yX16_passersAt) := ⟨tw_6 _ (List.mem_of_getElem? (i := 233) (by decide +kernel)), by decide +kernel⟩
theorem sl_X16_passersAt : zwd (.selects RX16 yX16_passersAt yX16_passersAt) := ⟨tw_6 _ (List.mem_of_getElem? (i := 234) (by decide +kernel)), by decide +kernel⟩
theorem ml_X16_104 : zwd (.methodLink RX16 104 yX13_passers) := ⟨tw_6 _ (List.mem_of_getElem? (i := 237) (by decide +kernel)), by decide +kernel⟩
theorem im_X13_passers : zwd (.instanceMethod yX13_passers) := ⟨tw_6 _ (List.mem_of_getElem? (i := 238) (by decide +kernel)), by decide +kernel⟩
theorem sl_X13_passers : zwd (.selects RX13 yX13_passers yX13_passers) := ⟨tw_6 _ (List.mem_of_getElem? (i := 239) (by decide +kernel)), by decide +kernel⟩
theorem ml_L_148 : zwd (.methodLink RL 148 yX16_addAct) := ⟨tw_7 _ (List.mem_of_getElem? (i := 1) (by decide +kernel)), by decide +kernel⟩
theorem im_X16_addAct : zwd (.instanceMethod yX16_addAct) := ⟨tw_7 _ (List.mem_of_getElem? (i := 2) (by decide +kernel)), by decide +kernel⟩
theorem sl_X16_addAct : zwd (.selects RX16 yX16_addAct yX16_addAct) := ⟨tw_7 _ (List.mem_of_getElem? (i := 3) (by decide +kernel)), by decide +kernel⟩
theorem cl_X16_111 : zwd (.classLink RX16 111 RX12) := ⟨tw_7 _ (List.mem_of_getElem? (i := 7) (by decide +kernel)), by decide +kernel⟩
theorem ml_X16_113 : zwd (.methodLink RX16 113 yX12_init) := ⟨tw_7 _ (List.mem_of_getElem? (i := 9) (by decide +kernel)), by decide +kernel⟩
theorem im_X12_init : zwd (.instanceMethod yX12_init) := ⟨tw_7 _ (List.mem_of_getElem? (i := 10) (by decide +kernel)), by decide +kernel⟩
theorem ml_X12_1 : zwd (.methodLink RX12 1 objectInit) := ⟨tw_7 _ (List.mem_of_getElem? (i := 12) (by decide +kernel)), by decide +kernel⟩
theorem ml_L_151 : zwd (.methodLink RL 151 yX16_setLine) := ⟨tw_7 _ (List.mem_of_getElem? (i := 44) (by decide +kernel)), by decide +kernel⟩
theorem im_X16_setLine : zwd (.instanceMethod yX16_setLine) := ⟨tw_7 _ (List.mem_of_getElem? (i := 45) (by decide +kernel)), by decide +kernel⟩
theorem sl_X16_setLine : zwd (.selects RX16 yX16_setLine yX16_setLine) := ⟨tw_7 _ (List.mem_of_getElem? (i := 46) (by decide +kernel)), by decide +kernel⟩
theorem ml_X16_119 : zwd (.methodLink RX16 119 yX16_noAct) := ⟨tw_7 _ (List.mem_of_getElem? (i := 48) (by decide +kernel)), by decide +kernel⟩
theorem im_X16_noAct : zwd (.instanceMethod yX16_noAct) := ⟨tw_7 _ (List.mem_of_getElem? (i := 50) (by decide +kernel)), by decide +kernel⟩
theorem ml_X16_116 : zwd (.methodLink RX16 116 yX16_isAct) := ⟨tw_7 _ (List.mem_of_getElem? (i := 52) (by decide +kernel)), by decide +kernel⟩
theorem im_X16_isAct : zwd (.instanceMethod yX16_isAct) := ⟨tw_7 _ (List.mem_of_getElem? (i := 54) (by decide +kernel)), by decide +kernel⟩
theorem ml_L_155 : zwd (.methodLink RL 155 yX16_setPermit) := ⟨tw_7 _ (List.mem_of_getElem? (i := 56) (by decide +kernel)), by decide +kernel⟩
theorem im_X16_setPermit : zwd (.instanceMethod yX16_setPermit) := ⟨tw_7 _ (List.mem_of_getElem? (i := 57) (by decide +kernel)), by decide +kernel⟩
theorem sl_X16_setPermit : zwd (.selects RX16 yX16_setPermit yX16_setPermit) := ⟨tw_7 _ (List.mem_of_getElem? (i := 58) (by decide +kernel)), by decide +kernel⟩
theorem ml_L_158 : zwd (.methodLink RL 158 yX16_addCustom) := ⟨tw_7 _ (List.mem_of_getElem? (i := 60) (by decide +kernel)), by decide +kernel⟩
theorem im_X16_addCustom : zwd (.instanceMethod yX16_addCustom) := ⟨tw_7 _ (List.mem_of_getElem? (i := 61) (by decide +kernel)), by decide +kernel⟩
theorem sl_X16_addCustom : zwd (.selects RX16 yX16_addCustom yX16_addCustom) := ⟨tw_7 _ (List.mem_of_getElem? (i := 62) (by decide +kernel)), by decide +kernel⟩
theorem ml_X16_129 : zwd (.methodLink RX16 129 yX16_comesAhead) := ⟨tw_7 _ (List.mem_of_getElem? (i := 64) (by decide +kernel)), by decide +kernel⟩
theorem im_X16_comesAhead : zwd (.instanceMethod yX16_comesAhead) := ⟨tw_7 _ (List.mem_of_getElem? (i := 66) (by decide +kernel)), by decide +kernel⟩
theorem ml_L_161 : zwd (.methodLink RL 161 yX16_endCustom) := ⟨tw_7 _ (List.mem_of_getElem? (i := 68) (by decide +kernel)), by decide +kernel⟩
theorem im_X16_endCustom : zwd (.instanceMethod yX16_endCustom) := ⟨tw_7 _ (List.mem_of_getElem? (i := 69) (by decide +kernel)), by decide +kernel⟩
theorem sl_X16_endCustom : zwd (.selects RX16 yX16_endCustom yX16_endCustom) := ⟨tw_7 _ (List.mem_of_getElem? (i := 70) (by decide +kernel)), by decide +kernel⟩
theorem ml_L_165 : zwd (.methodLink RL 165 yX16_orders) := ⟨tw_7 _ (List.mem_of_getElem? (i := 72) (by decide +kernel)), by decide +kernel⟩
theorem im_X16_orders : zwd (.instanceMethod yX16_orders) := ⟨tw_7 _ (List.mem_of_getElem? (i := 73) (by decide +kernel)), by decide +kernel⟩
theorem sl_X16_orders : zwd (.selects RX16 yX16_orders yX16_orders) := ⟨tw_7 _ (List.mem_of_getElem? (i := 74) (by decide +kernel)), by decide +kernel⟩
theorem ml_X16_136 : zwd (.methodLink RX16 136 yX16_counts) := ⟨tw_7 _ (List.mem_of_getElem? (i := 76) (by decide +kernel)), by decide +kernel⟩
theorem im_X16_counts : zwd (.instanceMethod yX16_counts) := ⟨tw_7 _ (List.mem_of_getElem? (i := 78) (by decide +kernel)), by decide +kernel⟩
theorem ml_X16_133 : zwd (.methodLink RX16 133 yX16_isFree) := ⟨tw_7 _ (List.mem_of_getElem? (i := 80) (by decide +kernel)), by decide +kernel⟩
theorem im_X16_isFree : zwd (.instanceMethod yX16_isFree) := ⟨tw_7 _ (List.mem_of_getElem? (i := 82) (by decide +kernel)), by decide +kernel⟩
theorem ml_L_168 : zwd (.methodLink RL 168 yX16_orderAt) := ⟨tw_7 _ (List.mem_of_getElem? (i := 84) (by decide +kernel)), by decide +kernel⟩
theorem im_X16_orderAt : zwd (.instanceMethod yX16_orderAt) := ⟨tw_7 _ (List.mem_of_getElem? (i := 85) (by decide +kernel)), by decide +kernel⟩
theorem sl_X16_orderAt : zwd (.selects RX16 yX16_orderAt yX16_orderAt) := ⟨tw_7 _ (List.mem_of_getElem? (i := 86) (by decide +kernel)), by decide +kernel⟩
theorem ml_L_172 : zwd (.methodLink RL 172 yX16_drawLots) := ⟨tw_7 _ (List.mem_of_getElem? (i := 88) (by decide +kernel)), by decide +kernel⟩
theorem im_X16_drawLots : zwd (.instanceMethod yX16_drawLots) := ⟨tw_7 _ (List.mem_of_getElem? (i := 89) (by decide +kernel)), by decide +kernel⟩
theorem sl_X16_drawLots : zwd (.selects RX16 yX16_drawLots yX16_drawLots) := ⟨tw_7 _ (List.mem_of_getElem? (i := 90) (by decide +kernel)), by decide +kernel⟩
theorem ml_X16_140 : zwd (.methodLink RX16 140 yJx4a65c_clear_da8c8) := ⟨tw_7 _ (List.mem_of_getElem? (i := 92) (by decide +kernel)), by decide +kernel⟩
theorem ml_X16_146 : zwd (.methodLink RX16 146 yJ6_valueOf_2dffe) := ⟨tw_7 _ (List.mem_of_getElem? (i := 93) (by decide +kernel)), by decide +kernel⟩
theorem st_J6_valueOf_2dffe : zwd (.static yJ6_valueOf_2dffe) := ⟨tw_7 _ (List.mem_of_getElem? (i := 94) (by decide +kernel)), by decide +kernel⟩
theorem cl_J6_1 : zwd (.classLink RJ6 1 RJ6) := ⟨tw_7 _ (List.mem_of_getElem? (i := 100) (by decide +kernel)), by decide +kernel⟩
theorem ml_J6_199 : zwd (.methodLink RJ6 199 yJ6_init_d00df) := ⟨tw_7 _ (List.mem_of_getElem? (i := 102) (by decide +kernel)), by decide +kernel⟩
theorem im_J6_init_d00df : zwd (.instanceMethod yJ6_init_d00df) := ⟨tw_7 _ (List.mem_of_getElem? (i := 103) (by decide +kernel)), by decide +kernel⟩
theorem ml_J6_202 : zwd (.methodLink RJ6 202 yJxd2413_init_da8c8) := ⟨tw_7 _ (List.mem_of_getElem? (i := 105) (by decide +kernel)), by decide +kernel⟩
theorem im_Jxd2413_init_da8c8 : zwd (.instanceMethod yJxd2413_init_da8c8) := ⟨tw_7 _ (List.mem_of_getElem? (i := 106) (by decide +kernel)), by decide +kernel⟩
theorem ml_Jxd2413_1 : zwd (.methodLink RJxd2413 1 objectInit) := ⟨tw_7 _ (List.mem_of_getElem? (i := 108) (by decide +kernel)), by decide +kernel⟩
theorem cl_X16_147 : zwd (.classLink RX16 147 RJ6) := ⟨tw_7 _ (List.mem_of_getElem? (i := 115) (by decide +kernel)), by decide +kernel⟩
theorem ml_X16_156 : zwd (.methodLink RX16 156 yJ6_intValue_8abf5) := ⟨tw_7 _ (List.mem_of_getElem? (i := 116) (by decide +kernel)), by decide +kernel⟩
theorem im_J6_intValue_8abf5 : zwd (.instanceMethod yJ6_intValue_8abf5) := ⟨tw_7 _ (List.mem_of_getElem? (i := 117) (by decide +kernel)), by decide +kernel⟩
theorem sl_J6_intValue_8abf5 : zwd (.selects RJ6 yJ6_intValue_8abf5 yJ6_intValue_8abf5) := ⟨tw_7 _ (List.mem_of_getElem? (i := 118) (by decide +kernel)), by decide +kernel⟩
theorem ml_L_176 : zwd (.methodLink RL 176 yX16_lotAt) := ⟨tw_7 _ (List.mem_of_getElem? (i := 120) (by decide +kernel)), by decide +kernel⟩
theorem im_X16_lotAt : zwd (.instanceMethod yX16_lotAt) := ⟨tw_7 _ (List.mem_of_getElem? (i := 121) (by decide +kernel)), by decide +kernel⟩
theorem sl_X16_lotAt : zwd (.selects RX16 yX16_lotAt yX16_lotAt) := ⟨tw_7 _ (List.mem_of_getElem? (i := 122) (by decide +kernel)), by decide +kernel⟩
theorem ml_L_179 : zwd (.methodLink RL 179 yX16_seed) := ⟨tw_7 _ (List.mem_of_getElem? (i := 124) (by decide +kernel)), by decide +kernel⟩
theorem im_X16_seed : zwd (.instanceMethod yX16_seed) := ⟨tw_7 _ (List.mem_of_getElem? (i := 125) (by decide +kernel)), by decide +kernel⟩
theorem sl_X16_seed : zwd (.selects RX16 yX16_seed yX16_seed) := ⟨tw_7 _ (List.mem_of_getElem? (i := 126) (by decide +kernel)), by decide +kernel⟩
theorem ml_L_182 : zwd (.methodLink RL 182 yX16_addTurn) := ⟨tw_7 _ (List.mem_of_getElem? (i := 129) (by decide +kernel)), by decide +kernel⟩
theorem im_X16_addTurn : zwd (.instanceMethod yX16_addTurn) := ⟨tw_7 _ (List.mem_of_getElem? (i := 130) (by decide +kernel)), by decide +kernel⟩
theorem sl_X16_addTurn : zwd (.selects RX16 yX16_addTurn yX16_addTurn) := ⟨tw_7 _ (List.mem_of_getElem? (i := 131) (by decide +kernel)), by decide +kernel⟩
theorem cl_X16_167 : zwd (.classLink RX16 167 RX14) := ⟨tw_7 _ (List.mem_of_getElem? (i := 133) (by decide +kernel)), by decide +kernel⟩
theorem ml_X16_172 : zwd (.methodLink RX16 172 yX14_init) := ⟨tw_7 _ (List.mem_of_getElem? (i := 135) (by decide +kernel)), by decide +kernel⟩
theorem im_X14_init : zwd (.instanceMethod yX14_init) := ⟨tw_7 _ (List.mem_of_getElem? (i := 136) (by decide +kernel)), by decide +kernel⟩
theorem ml_X14_3 : zwd (.methodLink RX14 3 objectInit) := ⟨tw_7 _ (List.mem_of_getElem? (i := 138) (by decide +kernel)), by decide +kernel⟩
theorem ml_L_186 : zwd (.methodLink RL 186 yX16_turnsByLots) := ⟨tw_7 _ (List.mem_of_getElem? (i := 168) (by decide +kernel)), by decide +kernel⟩
theorem im_X16_turnsByLots : zwd (.instanceMethod yX16_turnsByLots) := ⟨tw_7 _ (List.mem_of_getElem? (i := 169) (by decide +kernel)), by decide +kernel⟩
theorem sl_X16_turnsByLots : zwd (.selects RX16 yX16_turnsByLots yX16_turnsByLots) := ⟨tw_7 _ (List.mem_of_getElem? (i := 170) (by decide +kernel)), by decide +kernel⟩
theorem ml_X16_175 : zwd (.methodLink RX16 175 yJx4a65c_isEmpty_aae02) := ⟨tw_7 _ (List.mem_of_getElem? (i := 172) (by decide +kernel)), by decide +kernel⟩
theorem im_Jx4a65c_isEmpty_aae02 : zwd (.instanceMethod yJx4a65c_isEmpty_aae02) := ⟨tw_7 _ (List.mem_of_getElem? (i := 173) (by decide +kernel)), by decide +kernel⟩
theorem sl_Jx4a65c_isEmpty_aae02 : zwd (.selects RJx4a65c yJx4a65c_isEmpty_aae02 yJx4a65c_isEmpty_aae02) := ⟨tw_7 _ (List.mem_of_getElem? (i := 174) (by decide +kernel)), by decide +kernel⟩
theorem ml_L_189 : zwd (.methodLink RL 189 yX16_exchange) := ⟨tw_7 _ (List.mem_of_getElem? (i := 176) (by decide +kernel)), by decide +kernel⟩
theorem im_X16_exchange : zwd (.instanceMethod yX16_exchange) := ⟨tw_7 _ (List.mem_of_getElem? (i := 177) (by decide +kernel)), by decide +kernel⟩
theorem sl_X16_exchange : zwd (.selects RX16 yX16_exchange yX16_exchange) := ⟨tw_7 _ (List.mem_of_getElem? (i := 178) (by decide +kernel)), by decide +kernel⟩
theorem ml_X16_178 : zwd (.methodLink RX16 178 yJx4a65c_init_4bcb3) := ⟨tw_7 _ (List.mem_of_getElem? (i := 180) (by decide +kernel)), by decide +kernel⟩
theorem im_Jx4a65c_init_4bcb3 : zwd (.instanceMethod yJx4a65c_init_4bcb3) := ⟨tw_7 _ (List.mem_of_getElem? (i := 181) (by decide +kernel)), by decide +kernel⟩
theorem im_Jx4a65c_toArray_d5877 : zwd (.instanceMethod yJx4a65c_toArray_d5877) := ⟨tw_7 _ (List.mem_of_getElem? (i := 190) (by decide +kernel)), by decide +kernel⟩
theorem cl_Jx4a65c_10 : zwd (.classLink RJx4a65c 10 RJx4a65c) := ⟨tw_7 _ (List.mem_of_getElem? (i := 199) (by decide +kernel)), by decide +kernel⟩
theorem cl_Jx4a65c_56 : zwd (.classLink RJx4a65c 56 "[Ljava/lang/Object;") := ⟨tw_7 _ (List.mem_of_getElem? (i := 200) (by decide +kernel)), by decide +kernel⟩
theorem ml_Jx4a65c_57 : zwd (.methodLink RJx4a65c 57 yJ7_copyOf_6403c) := ⟨tw_7 _ (List.mem_of_getElem? (i := 201) (by decide +kernel)), by decide +kernel⟩
theorem ml_X16_181 : zwd (.methodLink RX16 181 yJx4a65c_set_bcc79) := ⟨tw_7 _ (List.mem_of_getElem? (i := 204) (by decide +kernel)), by decide +kernel⟩
theorem ml_X16_185 : zwd (.methodLink RX16 185 yJx4a65c_addAll_f0b43) := ⟨tw_7 _ (List.mem_of_getElem? (i := 205) (by decide +kernel)), by decide +kernel⟩
theorem im_Jx4a65c_addAll_f0b43 : zwd (.instanceMethod yJx4a65c_addAll_f0b43) := ⟨tw_7 _ (List.mem_of_getElem? (i := 206) (by decide +kernel)), by decide +kernel⟩
theorem sl_Jx4a65c_addAll_f0b43 : zwd (.selects RJx4a65c yJx4a65c_addAll_f0b43 yJx4a65c_addAll_f0b43) := ⟨tw_7 _ (List.mem_of_getElem? (i := 207) (by decide +kernel)), by decide +kernel⟩
theorem ml_L_192 : zwd (.methodLink RL 192 yX16_turnAt) := ⟨tw_7 _ (List.mem_of_getElem? (i := 210) (by decide +kernel)), by decide +kernel⟩
theorem im_X16_turnAt : zwd (.instanceMethod yX16_turnAt) := ⟨tw_7 _ (List.mem_of_getElem? (i := 211) (by decide +kernel)), by decide +kernel⟩
theorem sl_X16_turnAt : zwd (.selects RX16 yX16_turnAt yX16_turnAt) := ⟨tw_7 _ (List.mem_of_getElem? (i := 212) (by decide +kernel)), by decide +kernel⟩
theorem ml_L_195 : zwd (.methodLink RL 195 yX16_setRain) := ⟨tw_7 _ (List.mem_of_getElem? (i := 214) (by decide +kernel)), by decide +kernel⟩
theorem im_X16_setRain : zwd (.instanceMethod yX16_setRain) := ⟨tw_7 _ (List.mem_of_getElem? (i := 215) (by decide +kernel)), by decide +kernel⟩
theorem sl_X16_setRain : zwd (.selects RX16 yX16_setRain yX16_setRain) := ⟨tw_7 _ (List.mem_of_getElem? (i := 216) (by decide +kernel)), by decide +kernel⟩
theorem ml_L_198 : zwd (.methodLink RL 198 yX16_setCold) := ⟨tw_7 _ (List.mem_of_getElem? (i := 218) (by decide +kernel)), by decide +kernel⟩
theorem im_X16_setCold : zwd (.instanceMethod yX16_setCold) := ⟨tw_7 _ (List.mem_of_getElem? (i := 219) (by decide +kernel)), by decide +kernel⟩
theorem sl_X16_setCold : zwd (.selects RX16 yX16_setCold yX16_setCold) := ⟨tw_7 _ (List.mem_of_getElem? (i := 220) (by decide +kernel)), by decide +kernel⟩
theorem ml_L_201 : zwd (.methodLink RL 201 yX16_setLaw) := ⟨tw_7 _ (List.mem_of_getElem? (i := 223) (by decide +kernel)), by decide +kernel⟩
theorem im_X16_setLaw : zwd (.instanceMethod yX16_setLaw) := ⟨tw_7 _ (List.mem_of_getElem? (i := 224) (by decide +kernel)), by decide +kernel⟩
theorem sl_X16_setLaw : zwd (.selects RX16 yX16_setLaw yX16_setLaw) := ⟨tw_7 _ (List.mem_of_getElem? (i := 225) (by decide +kernel)), by decide +kernel⟩
theorem ml_L_204 : zwd (.methodLink RL 204 yX16_addVisit) := ⟨tw_7 _ (List.mem_of_getElem? (i := 227) (by decide +kernel)), by decide +kernel⟩
theorem im_X16_addVisit : zwd (.instanceMethod yX16_addVisit) := ⟨tw_7 _ (List.mem_of_getElem? (i := 228) (by decide +kernel)), by decide +kernel⟩
theorem sl_X16_addVisit : zwd (.selects RX16 yX16_addVisit yX16_addVisit) := ⟨tw_7 _ (List.mem_of_getElem? (i := 229) (by decide +kernel)), by decide +kernel⟩
theorem cl_X16_200 : zwd (.classLink RX16 200 RX15) := ⟨tw_7 _ (List.mem_of_getElem? (i := 231) (by decide +kernel)), by decide +kernel⟩
theorem ml_X16_202 : zwd (.methodLink RX16 202 yX15_init) := ⟨tw_7 _ (List.mem_of_getElem? (i := 233) (by decide +kernel)), by decide +kernel⟩
theorem im_X15_init : zwd (.instanceMethod yX15_init) := ⟨tw_7 _ (List.mem_of_getElem? (i := 234) (by decide +kernel)), by decide +kernel⟩
theorem ml_X15_1 : zwd (.methodLink RX15 1 objectInit) := ⟨tw_7 _ (List.mem_of_getElem? (i := 236) (by decide +kernel)), by decide +kernel⟩
theorem ml_L_207 : zwd (.methodLink RL 207 yX16_join) := ⟨tw_8 _ (List.mem_of_getElem? (i := 13) (by decide +kernel)), by decide +kernel⟩
theorem im_X16_join : zwd (.instanceMethod yX16_join) := ⟨tw_8 _ (List.mem_of_getElem? (i := 14) (by decide +kernel)), by decide +kernel⟩
theorem sl_X16_join : zwd (.selects RX16 yX16_join yX16_join) := ⟨tw_8 _ (List.mem_of_getElem? (i := 15) (by decide +kernel)), by decide +kernel⟩
theorem ml_X16_208 : zwd (.methodLink RX16 208 yX16_partners) := ⟨tw_8 _ (List.mem_of_getElem? (i := 17) (by decide +kernel)), by decide +kernel⟩
theorem im_X16_partners : zwd (.instanceMethod yX16_partners) := ⟨tw_8 _ (List.mem_of_getElem? (i := 19) (by decide +kernel)), by decide +kernel⟩
theorem ml_L_210 : zwd (.methodLink RL 210 yX16_play) := ⟨tw_8 _ (List.mem_of_getElem? (i := 21) (by decide +kernel)), by decide +kernel⟩
theorem im_X16_play : zwd (.instanceMethod yX16_play) := ⟨tw_8 _ (List.mem_of_getElem? (i := 22) (by decide +kernel)), by decide +kernel⟩
theorem sl_X16_play : zwd (.selects RX16 yX16_play yX16_play) := ⟨tw_8 _ (List.mem_of_getElem? (i := 23) (by decide +kernel)), by decide +kernel⟩
theorem ml_X16_293 : zwd (.methodLink RX16 293 yX16_begins) := ⟨tw_8 _ (List.mem_of_getElem? (i := 25) (by decide +kernel)), by decide +kernel⟩
theorem im_X16_begins : zwd (.instanceMethod yX16_begins) := ⟨tw_8 _ (List.mem_of_getElem? (i := 27) (by decide +kernel)), by decide +kernel⟩
theorem ml_X16_297 : zwd (.methodLink RX16 297 yX16_visits) := ⟨tw_8 _ (List.mem_of_getElem? (i := 29) (by decide +kernel)), by decide +kernel⟩
theorem im_X16_visits : zwd (.instanceMethod yX16_visits) := ⟨tw_8 _ (List.mem_of_getElem? (i := 31) (by decide +kernel)), by decide +kernel⟩
theorem ml_X16_226 : zwd (.methodLink RX16 226 yX13_at) := ⟨tw_8 _ (List.mem_of_getElem? (i := 33) (by decide +kernel)), by decide +kernel⟩
theorem im_X13_at : zwd (.instanceMethod yX13_at) := ⟨tw_8 _ (List.mem_of_getElem? (i := 34) (by decide +kernel)), by decide +kernel⟩
theorem sl_X13_at : zwd (.selects RX13 yX13_at yX13_at) := ⟨tw_8 _ (List.mem_of_getElem? (i := 35) (by decide +kernel)), by decide +kernel⟩
theorem ml_X13_33 : zwd (.methodLink RX13 33 yJx4a65c_size_8abf5) := ⟨tw_8 _ (List.mem_of_getElem? (i := 37) (by decide +kernel)), by decide +kernel⟩
theorem ml_X13_37 : zwd (.methodLink RX13 37 yJx4a65c_get_915e3) := ⟨tw_8 _ (List.mem_of_getElem? (i := 38) (by decide +kernel)), by decide +kernel⟩
theorem cl_X13_41 : zwd (.classLink RX13 41 RX14) := ⟨tw_8 _ (List.mem_of_getElem? (i := 39) (by decide +kernel)), by decide +kernel⟩
theorem ml_X13_49 : zwd (.methodLinkNest RX13 49 yX16_in RX16) := ⟨tw_8 _ (List.mem_of_getElem? (i := 40) (by decide +kernel)), by decide +kernel⟩
theorem ml_X16_230 : zwd (.methodLink RX16 230 yJ9_abs_0f7a4) := ⟨tw_8 _ (List.mem_of_getElem? (i := 41) (by decide +kernel)), by decide +kernel⟩
theorem ml_X16_299 : zwd (.methodLink RX16 299 yX16_isDrowned) := ⟨tw_8 _ (List.mem_of_getElem? (i := 42) (by decide +kernel)), by decide +kernel⟩
theorem im_X16_isDrowned : zwd (.instanceMethod yX16_isDrowned) := ⟨tw_8 _ (List.mem_of_getElem? (i := 44) (by decide +kernel)), by decide +kernel⟩
theorem ml_X16_303 : zwd (.methodLink RX16 303 yX16_goesOn) := ⟨tw_8 _ (List.mem_of_getElem? (i := 46) (by decide +kernel)), by decide +kernel⟩
theorem im_X16_goesOn : zwd (.instanceMethod yX16_goesOn) := ⟨tw_8 _ (List.mem_of_getElem? (i := 48) (by decide +kernel)), by decide +kernel⟩
theorem ml_X16_263 : zwd (.methodLink RX16 263 yX16_rains) := ⟨tw_8 _ (List.mem_of_getElem? (i := 50) (by decide +kernel)), by decide +kernel⟩
theorem im_X16_rains : zwd (.instanceMethod yX16_rains) := ⟨tw_8 _ (List.mem_of_getElem? (i := 52) (by decide +kernel)), by decide +kernel⟩
theorem ml_X16_273 : zwd (.methodLink RX16 273 yJ9_min_7cf53) := ⟨tw_8 _ (List.mem_of_getElem? (i := 54) (by decide +kernel)), by decide +kernel⟩
theorem ml_X16_280 : zwd (.methodLink RX16 280 yJ9_max_7cf53) := ⟨tw_8 _ (List.mem_of_getElem? (i := 55) (by decide +kernel)), by decide +kernel⟩
theorem ml_X16_289 : zwd (.methodLink RX16 289 yX16_gives) := ⟨tw_8 _ (List.mem_of_getElem? (i := 56) (by decide +kernel)), by decide +kernel⟩
theorem im_X16_gives : zwd (.instanceMethod yX16_gives) := ⟨tw_8 _ (List.mem_of_getElem? (i := 58) (by decide +kernel)), by decide +kernel⟩
theorem ml_L_214 : zwd (.methodLink RL 214 yX16_of) := ⟨tw_8 _ (List.mem_of_getElem? (i := 60) (by decide +kernel)), by decide +kernel⟩
theorem im_X16_of : zwd (.instanceMethod yX16_of) := ⟨tw_8 _ (List.mem_of_getElem? (i := 61) (by decide +kernel)), by decide +kernel⟩
theorem sl_X16_of : zwd (.selects RX16 yX16_of yX16_of) := ⟨tw_8 _ (List.mem_of_getElem? (i := 62) (by decide +kernel)), by decide +kernel⟩
theorem ml_X16_309 : zwd (.methodLink RX16 309 yJ0_indexOf_0f7a4) := ⟨tw_8 _ (List.mem_of_getElem? (i := 65) (by decide +kernel)), by decide +kernel⟩
theorem im_J0_indexOf_0f7a4 : zwd (.instanceMethod yJ0_indexOf_0f7a4) := ⟨tw_8 _ (List.mem_of_getElem? (i := 66) (by decide +kernel)), by decide +kernel⟩
theorem sl_J0_indexOf_0f7a4 : zwd (.selects RJ0 yJ0_indexOf_0f7a4 yJ0_indexOf_0f7a4) := ⟨tw_8 _ (List.mem_of_getElem? (i := 67) (by decide +kernel)), by decide +kernel⟩
theorem ml_J0_633 : zwd (.methodLink RJ0 633 yJ0_indexOf_7cf53) := ⟨tw_8 _ (List.mem_of_getElem? (i := 69) (by decide +kernel)), by decide +kernel⟩
theorem im_J0_indexOf_7cf53 : zwd (.instanceMethod yJ0_indexOf_7cf53) := ⟨tw_8 _ (List.mem_of_getElem? (i := 70) (by decide +kernel)), by decide +kernel⟩
theorem sl_J0_indexOf_7cf53 : zwd (.selects RJ0 yJ0_indexOf_7cf53 yJ0_indexOf_7cf53) := ⟨tw_8 _ (List.mem_of_getElem? (i := 71) (by decide +kernel)), by decide +kernel⟩
theorem ml_J0_492 : zwd (.methodLink RJ0 492 yJ0_isLatin1_aae02) := ⟨tw_8 _ (List.mem_of_getElem? (i := 73) (by decide +kernel)), by decide +kernel⟩
theorem im_J0_isLatin1_aae02 : zwd (.instanceMethod yJ0_isLatin1_aae02) := ⟨tw_8 _ (List.mem_of_getElem? (i := 74) (by decide +kernel)), by decide +kernel⟩
theorem sl_J0_isLatin1_aae02 : zwd (.selects RJ0 yJ0_isLatin1_aae02 yJ0_isLatin1_aae02) := ⟨tw_8 _ (List.mem_of_getElem? (i := 75) (by decide +kernel)), by decide +kernel⟩
theorem ml_J0_505 : zwd (.methodLink RJ0 505 yJ0_length_8abf5) := ⟨tw_8 _ (List.mem_of_getElem? (i := 79) (by decide +kernel)), by decide +kernel⟩
theorem im_J0_length_8abf5 : zwd (.instanceMethod yJ0_length_8abf5) := ⟨tw_8 _ (List.mem_of_getElem? (i := 80) (by decide +kernel)), by decide +kernel⟩
theorem sl_J0_length_8abf5 : zwd (.selects RJ0 yJ0_length_8abf5 yJ0_length_8abf5) := ⟨tw_8 _ (List.mem_of_getElem? (i := 81) (by decide +kernel)), by decide +kernel⟩
theorem ml_J0_335 : zwd (.methodLink RJ0 335 yJ0_coder_7d493) := ⟨tw_8 _ (List.mem_of_getElem? (i := 83) (by decide +kernel)), by decide +kernel⟩
theorem im_J0_coder_7d493 : zwd (.instanceMethod yJ0_coder_7d493) := ⟨tw_8 _ (List.mem_of_getElem? (i := 84) (by decide +kernel)), by decide +kernel⟩
theorem sl_J0_coder_7d493 : zwd (.selects RJ0 yJ0_coder_7d493 yJ0_coder_7d493) := ⟨tw_8 _ (List.mem_of_getElem? (i := 85) (by decide +kernel)), by decide +kernel⟩
theorem ml_J0_637 : zwd (.methodLink RJ0 637 yJ1_indexOf_4cfef) := ⟨tw_8 _ (List.mem_of_getElem? (i := 87) (by decide +kernel)), by decide +kernel⟩
theorem st_J1_indexOf_4cfef : zwd (.static yJ1_indexOf_4cfef) := ⟨tw_8 _ (List.mem_of_getElem? (i := 88) (by decide +kernel)), by decide +kernel⟩
theorem ml_J1_88 : zwd (.methodLink RJ1 88 yJ1_canEncode_9a6ad) := ⟨tw_8 _ (List.mem_of_getElem? (i := 90) (by decide +kernel)), by decide +kernel⟩
theorem st_J1_canEncode_9a6ad : zwd (.static yJ1_canEncode_9a6ad) := ⟨tw_8 _ (List.mem_of_getElem? (i := 91) (by decide +kernel)), by decide +kernel⟩
theorem ml_J1_92 : zwd (.methodLink RJ1 92 yJ9_max_7cf53) := ⟨tw_8 _ (List.mem_of_getElem? (i := 93) (by decide +kernel)), by decide +kernel⟩
theorem ml_J1_38 : zwd (.methodLink RJ1 38 yJ9_min_7cf53) := ⟨tw_8 _ (List.mem_of_getElem? (i := 94) (by decide +kernel)), by decide +kernel⟩
theorem ml_J1_95 : zwd (.methodLink RJ1 95 yJ1_indexOfChar_4cfef) := ⟨tw_8 _ (List.mem_of_getElem? (i := 95) (by decide +kernel)), by decide +kernel⟩
theorem st_J1_indexOfChar_4cfef : zwd (.static yJ1_indexOfChar_4cfef) := ⟨tw_8 _ (List.mem_of_getElem? (i := 96) (by decide +kernel)), by decide +kernel⟩
theorem ml_J0_640 : zwd (.methodLink RJ0 640 yJ2_indexOf_4cfef) := ⟨tw_8 _ (List.mem_of_getElem? (i := 98) (by decide +kernel)), by decide +kernel⟩
theorem st_J2_indexOf_4cfef : zwd (.static yJ2_indexOf_4cfef) := ⟨tw_8 _ (List.mem_of_getElem? (i := 99) (by decide +kernel)), by decide +kernel⟩
theorem ml_J2_224 : zwd (.methodLink RJ2 224 yJ9_max_7cf53) := ⟨tw_8 _ (List.mem_of_getElem? (i := 101) (by decide +kernel)), by decide +kernel⟩
theorem ml_J2_183 : zwd (.methodLink RJ2 183 yJ9_min_7cf53) := ⟨tw_8 _ (List.mem_of_getElem? (i := 102) (by decide +kernel)), by decide +kernel⟩
theorem ml_J2_228 : zwd (.methodLink RJ2 228 yJ2_indexOfChar_4cfef) := ⟨tw_8 _ (List.mem_of_getElem? (i := 104) (by decide +kernel)), by decide +kernel⟩
theorem st_J2_indexOfChar_4cfef : zwd (.static yJ2_indexOfChar_4cfef) := ⟨tw_8 _ (List.mem_of_getElem? (i := 105) (by decide +kernel)), by decide +kernel⟩
theorem ml_J2_96 : zwd (.methodLink RJ2 96 yJ2_checkBoundsBeginEnd_d044e) := ⟨tw_8 _ (List.mem_of_getElem? (i := 107) (by decide +kernel)), by decide +kernel⟩
theorem st_J2_checkBoundsBeginEnd_d044e : zwd (.static yJ2_checkBoundsBeginEnd_d044e) := ⟨tw_8 _ (List.mem_of_getElem? (i := 108) (by decide +kernel)), by decide +kernel⟩
theorem ml_J2_48 : zwd (.methodLink RJ2 48 yJ2_length_9d52b) := ⟨tw_8 _ (List.mem_of_getElem? (i := 110) (by decide +kernel)), by decide +kernel⟩
theorem st_J2_length_9d52b : zwd (.static yJ2_length_9d52b) := ⟨tw_8 _ (List.mem_of_getElem? (i := 111) (by decide +kernel)), by decide +kernel⟩
theorem ml_J2_241 : zwd (.methodLink RJ2 241 yJ0_checkBoundsBeginEnd_23922) := ⟨tw_8 _ (List.mem_of_getElem? (i := 113) (by decide +kernel)), by decide +kernel⟩
theorem st_J0_checkBoundsBeginEnd_23922 : zwd (.static yJ0_checkBoundsBeginEnd_23922) := ⟨tw_8 _ (List.mem_of_getElem? (i := 114) (by decide +kernel)), by decide +kernel⟩
theorem ml_J0_1062 : zwd (.methodLink RJ0 1062 yJ3_checkFromToIndex_8c36e) := ⟨tw_8 _ (List.mem_of_getElem? (i := 118) (by decide +kernel)), by decide +kernel⟩
theorem st_J3_checkFromToIndex_8c36e : zwd (.static yJ3_checkFromToIndex_8c36e) := ⟨tw_8 _ (List.mem_of_getElem? (i := 119) (by decide +kernel)), by decide +kernel⟩
theorem ml_J2_244 : zwd (.methodLink RJ2 244 yJ2_indexOfCharUnsafe_4cfef) := ⟨tw_8 _ (List.mem_of_getElem? (i := 121) (by decide +kernel)), by decide +kernel⟩
theorem st_J2_indexOfCharUnsafe_4cfef : zwd (.static yJ2_indexOfCharUnsafe_4cfef) := ⟨tw_8 _ (List.mem_of_getElem? (i := 122) (by decide +kernel)), by decide +kernel⟩
theorem ml_J2_71 : zwd (.methodLink RJ2 71 yJ2_getChar_3b067) := ⟨tw_8 _ (List.mem_of_getElem? (i := 124) (by decide +kernel)), by decide +kernel⟩
theorem st_J2_getChar_3b067 : zwd (.static yJ2_getChar_3b067) := ⟨tw_8 _ (List.mem_of_getElem? (i := 125) (by decide +kernel)), by decide +kernel⟩
theorem ml_J2_232 : zwd (.methodLink RJ2 232 yJ2_indexOfSupplementary_4cfef) := ⟨tw_8 _ (List.mem_of_getElem? (i := 133) (by decide +kernel)), by decide +kernel⟩
theorem st_J2_indexOfSupplementary_4cfef : zwd (.static yJ2_indexOfSupplementary_4cfef) := ⟨tw_8 _ (List.mem_of_getElem? (i := 134) (by decide +kernel)), by decide +kernel⟩
theorem ml_J2_164 : zwd (.methodLink RJ2 164 yJ11_isValidCodePoint_9a6ad) := ⟨tw_8 _ (List.mem_of_getElem? (i := 136) (by decide +kernel)), by decide +kernel⟩
theorem st_J11_isValidCodePoint_9a6ad : zwd (.static yJ11_isValidCodePoint_9a6ad) := ⟨tw_8 _ (List.mem_of_getElem? (i := 137) (by decide +kernel)), by decide +kernel⟩
theorem ml_J2_157 : zwd (.methodLink RJ2 157 yJ11_highSurrogate_5068e) := ⟨tw_8 _ (List.mem_of_getElem? (i := 139) (by decide +kernel)), by decide +kernel⟩
theorem st_J11_highSurrogate_5068e : zwd (.static yJ11_highSurrogate_5068e) := ⟨tw_8 _ (List.mem_of_getElem? (i := 140) (by decide +kernel)), by decide +kernel⟩
theorem ml_J2_161 : zwd (.methodLink RJ2 161 yJ11_lowSurrogate_5068e) := ⟨tw_8 _ (List.mem_of_getElem? (i := 143) (by decide +kernel)), by decide +kernel⟩
theorem st_J11_lowSurrogate_5068e : zwd (.static yJ11_lowSurrogate_5068e) := ⟨tw_8 _ (List.mem_of_getElem? (i := 144) (by decide +kernel)), by decide +kernel⟩
theorem ml_X16_314 : zwd (.methodLink RX16 314 yX16_played) := ⟨tw_8 _ (List.mem_of_getElem? (i := 147) (by decide +kernel)), by decide +kernel⟩
theorem im_X16_played : zwd (.instanceMethod yX16_played) := ⟨tw_8 _ (List.mem_of_getElem? (i := 149) (by decide +kernel)), by decide +kernel⟩
theorem ml_L_217 : zwd (.methodLink RL 217 yX16_isBroken) := ⟨tw_8 _ (List.mem_of_getElem? (i := 151) (by decide +kernel)), by decide +kernel⟩
theorem im_X16_isBroken : zwd (.instanceMethod yX16_isBroken) := ⟨tw_8 _ (List.mem_of_getElem? (i := 152) (by decide +kernel)), by decide +kernel⟩
theorem sl_X16_isBroken : zwd (.selects RX16 yX16_isBroken yX16_isBroken) := ⟨tw_8 _ (List.mem_of_getElem? (i := 153) (by decide +kernel)), by decide +kernel⟩
theorem ml_L_220 : zwd (.methodLink RL 220 yX16_fineAt) := ⟨tw_8 _ (List.mem_of_getElem? (i := 155) (by decide +kernel)), by decide +kernel⟩
theorem im_X16_fineAt : zwd (.instanceMethod yX16_fineAt) := ⟨tw_8 _ (List.mem_of_getElem? (i := 156) (by decide +kernel)), by decide +kernel⟩
theorem sl_X16_fineAt : zwd (.selects RX16 yX16_fineAt yX16_fineAt) := ⟨tw_8 _ (List.mem_of_getElem? (i := 157) (by decide +kernel)), by decide +kernel⟩
theorem ml_X16_318 : zwd (.methodLink RX16 318 yX16_noVisit) := ⟨tw_8 _ (List.mem_of_getElem? (i := 159) (by decide +kernel)), by decide +kernel⟩
theorem im_X16_noVisit : zwd (.instanceMethod yX16_noVisit) := ⟨tw_8 _ (List.mem_of_getElem? (i := 161) (by decide +kernel)), by decide +kernel⟩
theorem ml_L_223 : zwd (.methodLink RL 223 yX16_sumAt) := ⟨tw_8 _ (List.mem_of_getElem? (i := 163) (by decide +kernel)), by decide +kernel⟩
theorem im_X16_sumAt : zwd (.instanceMethod yX16_sumAt) := ⟨tw_8 _ (List.mem_of_getElem? (i := 164) (by decide +kernel)), by decide +kernel⟩
theorem sl_X16_sumAt : zwd (.selects RX16 yX16_sumAt yX16_sumAt) := ⟨tw_8 _ (List.mem_of_getElem? (i := 165) (by decide +kernel)), by decide +kernel⟩
theorem ml_L_226 : zwd (.methodLink RL 226 yX16_money) := ⟨tw_8 _ (List.mem_of_getElem? (i := 167) (by decide +kernel)), by decide +kernel⟩
theorem im_X16_money : zwd (.instanceMethod yX16_money) := ⟨tw_8 _ (List.mem_of_getElem? (i := 168) (by decide +kernel)), by decide +kernel⟩
theorem sl_X16_money : zwd (.selects RX16 yX16_money yX16_money) := ⟨tw_8 _ (List.mem_of_getElem? (i := 169) (by decide +kernel)), by decide +kernel⟩
theorem ml_L_230 : zwd (.methodLink RL 230 yX16_fines) := ⟨tw_8 _ (List.mem_of_getElem? (i := 171) (by decide +kernel)), by decide +kernel⟩
theorem im_X16_fines : zwd (.instanceMethod yX16_fines) := ⟨tw_8 _ (List.mem_of_getElem? (i := 172) (by decide +kernel)), by decide +kernel⟩
theorem sl_X16_fines : zwd (.selects RX16 yX16_fines yX16_fines) := ⟨tw_8 _ (List.mem_of_getElem? (i := 173) (by decide +kernel)), by decide +kernel⟩
theorem ml_L_233 : zwd (.methodLink RL 233 yX16_nextDay) := ⟨tw_8 _ (List.mem_of_getElem? (i := 175) (by decide +kernel)), by decide +kernel⟩
theorem im_X16_nextDay : zwd (.instanceMethod yX16_nextDay) := ⟨tw_8 _ (List.mem_of_getElem? (i := 176) (by decide +kernel)), by decide +kernel⟩
theorem sl_X16_nextDay : zwd (.selects RX16 yX16_nextDay yX16_nextDay) := ⟨tw_8 _ (List.mem_of_getElem? (i := 177) (by decide +kernel)), by decide +kernel⟩
theorem ml_X16_321 : zwd (.methodLink RX16 321 yJx4a65c_remove_915e3) := ⟨tw_8 _ (List.mem_of_getElem? (i := 179) (by decide +kernel)), by decide +kernel⟩
theorem im_Jx4a65c_remove_915e3 : zwd (.instanceMethod yJx4a65c_remove_915e3) := ⟨tw_8 _ (List.mem_of_getElem? (i := 180) (by decide +kernel)), by decide +kernel⟩
theorem sl_Jx4a65c_remove_915e3 : zwd (.selects RJx4a65c yJx4a65c_remove_915e3 yJx4a65c_remove_915e3) := ⟨tw_8 _ (List.mem_of_getElem? (i := 181) (by decide +kernel)), by decide +kernel⟩
theorem ml_Jx4a65c_144 : zwd (.methodLink RJx4a65c 144 yJx4a65c_fastRemove_b59b0) := ⟨tw_8 _ (List.mem_of_getElem? (i := 183) (by decide +kernel)), by decide +kernel⟩
theorem im_Jx4a65c_fastRemove_b59b0 : zwd (.instanceMethod yJx4a65c_fastRemove_b59b0) := ⟨tw_8 _ (List.mem_of_getElem? (i := 185) (by decide +kernel)), by decide +kernel⟩
theorem ml_L_236 : zwd (.methodLink RL 236 yX16_diary) := ⟨tw_8 _ (List.mem_of_getElem? (i := 187) (by decide +kernel)), by decide +kernel⟩
theorem im_X16_diary : zwd (.instanceMethod yX16_diary) := ⟨tw_8 _ (List.mem_of_getElem? (i := 188) (by decide +kernel)), by decide +kernel⟩
theorem sl_X16_diary : zwd (.selects RX16 yX16_diary yX16_diary) := ⟨tw_8 _ (List.mem_of_getElem? (i := 189) (by decide +kernel)), by decide +kernel⟩
theorem ml_L_241 : zwd (.methodLink RL 241 yX16_checksum) := ⟨tw_8 _ (List.mem_of_getElem? (i := 191) (by decide +kernel)), by decide +kernel⟩
theorem im_X16_checksum : zwd (.instanceMethod yX16_checksum) := ⟨tw_8 _ (List.mem_of_getElem? (i := 192) (by decide +kernel)), by decide +kernel⟩
theorem sl_X16_checksum : zwd (.selects RX16 yX16_checksum yX16_checksum) := ⟨tw_8 _ (List.mem_of_getElem? (i := 193) (by decide +kernel)), by decide +kernel⟩
theorem ml_L_245 : zwd (.methodLink RL 245 yX16_goodShare) := ⟨tw_8 _ (List.mem_of_getElem? (i := 197) (by decide +kernel)), by decide +kernel⟩
theorem im_X16_goodShare : zwd (.instanceMethod yX16_goodShare) := ⟨tw_8 _ (List.mem_of_getElem? (i := 198) (by decide +kernel)), by decide +kernel⟩
theorem sl_X16_goodShare : zwd (.selects RX16 yX16_goodShare yX16_goodShare) := ⟨tw_8 _ (List.mem_of_getElem? (i := 199) (by decide +kernel)), by decide +kernel⟩
theorem ml_L_248 : zwd (.methodLink RL 248 yX16_meanMoney) := ⟨tw_8 _ (List.mem_of_getElem? (i := 201) (by decide +kernel)), by decide +kernel⟩
theorem im_X16_meanMoney : zwd (.instanceMethod yX16_meanMoney) := ⟨tw_8 _ (List.mem_of_getElem? (i := 202) (by decide +kernel)), by decide +kernel⟩
theorem sl_X16_meanMoney : zwd (.selects RX16 yX16_meanMoney yX16_meanMoney) := ⟨tw_8 _ (List.mem_of_getElem? (i := 203) (by decide +kernel)), by decide +kernel⟩
theorem ml_L_253 : zwd (.methodLink RL 253 yX16_isSound) := ⟨tw_8 _ (List.mem_of_getElem? (i := 205) (by decide +kernel)), by decide +kernel⟩
theorem im_X16_isSound : zwd (.instanceMethod yX16_isSound) := ⟨tw_8 _ (List.mem_of_getElem? (i := 206) (by decide +kernel)), by decide +kernel⟩
theorem sl_X16_isSound : zwd (.selects RX16 yX16_isSound yX16_isSound) := ⟨tw_8 _ (List.mem_of_getElem? (i := 207) (by decide +kernel)), by decide +kernel⟩
theorem w_oi : zwd (.instanceMethod objectInit) := ⟨tw_1 _ (List.mem_of_getElem? (i := 51) (by decide +kernel)), by decide +kernel⟩
theorem w_oc : zwd (.code objectInit ⟨#[0xb1]⟩ 1 none) := ⟨tw_1 _ (List.mem_of_getElem? (i := 52) (by decide +kernel)), by decide +kernel⟩
theorem w_ac_int : zwd (.arrayClass .int) := ⟨tw_1 _ (List.mem_of_getElem? (i := 113) (by decide +kernel)), by decide +kernel⟩
theorem w_ac_boolean : zwd (.arrayClass .boolean) := ⟨tw_6 _ (List.mem_of_getElem? (i := 118) (by decide +kernel)), by decide +kernel⟩
theorem w_ac_long : zwd (.arrayClass .long) := ⟨tw_8 _ (List.mem_of_getElem? (i := 209) (by decide +kernel)), by decide +kernel⟩
theorem w_ac_double : zwd (.arrayClass .double) := ⟨tw_8 _ (List.mem_of_getElem? (i := 210) (by decide +kernel)), by decide +kernel⟩
theorem w_ao : zwd (.arrayOver (.object "java/lang/Object")) := ⟨tw_3 _ (List.mem_of_getElem? (i := 108) (by decide +kernel)), by decide +kernel⟩
theorem ct_X5_47 : zwd (.constantLong RX5 47 48271) := ⟨tw_2 _ (List.mem_of_getElem? (i := 52) (by decide +kernel)), by decide +kernel⟩
theorem ct_X5_49 : zwd (.constantLong RX5 49 2147483647) := ⟨tw_2 _ (List.mem_of_getElem? (i := 53) (by decide +kernel)), by decide +kernel⟩
theorem ct_X11_319 : zwd (.constantLong RX11 319 7) := ⟨tw_2 _ (List.mem_of_getElem? (i := 66) (by decide +kernel)), by decide +kernel⟩
theorem ct_X11_321 : zwd (.constantLong RX11 321 31) := ⟨tw_2 _ (List.mem_of_getElem? (i := 82) (by decide +kernel)), by decide +kernel⟩
theorem ct_J8_200 : zwd (.constant RJ8 200 2147483639) := ⟨tw_3 _ (List.mem_of_getElem? (i := 66) (by decide +kernel)), by decide +kernel⟩
theorem ct_X11_183 : zwd (.constant RX11 183 2147483646) := ⟨tw_4 _ (List.mem_of_getElem? (i := 91) (by decide +kernel)), by decide +kernel⟩
theorem ct_J6_265 : zwd (.constant RJ6 265 1431655765) := ⟨tw_5 _ (List.mem_of_getElem? (i := 30) (by decide +kernel)), by decide +kernel⟩
theorem ct_J6_266 : zwd (.constant RJ6 266 858993459) := ⟨tw_5 _ (List.mem_of_getElem? (i := 31) (by decide +kernel)), by decide +kernel⟩
theorem ct_J6_267 : zwd (.constant RJ6 267 252645135) := ⟨tw_5 _ (List.mem_of_getElem? (i := 32) (by decide +kernel)), by decide +kernel⟩
theorem ct_X16_73 : zwd (.constantLong RX16 73 99) := ⟨tw_6 _ (List.mem_of_getElem? (i := 185) (by decide +kernel)), by decide +kernel⟩
theorem ct_X16_75 : zwd (.constantLong RX16 75 9) := ⟨tw_6 _ (List.mem_of_getElem? (i := 189) (by decide +kernel)), by decide +kernel⟩
theorem ct_X16_88 : zwd (.constantLong RX16 88 10) := ⟨tw_6 _ (List.mem_of_getElem? (i := 228) (by decide +kernel)), by decide +kernel⟩
theorem ct_X16_90 : zwd (.constantLong RX16 90 19) := ⟨tw_6 _ (List.mem_of_getElem? (i := 229) (by decide +kernel)), by decide +kernel⟩
theorem ct_X16_92 : zwd (.constantLong RX16 92 600) := ⟨tw_6 _ (List.mem_of_getElem? (i := 230) (by decide +kernel)), by decide +kernel⟩
theorem ct_X16_102 : zwd (.constantLong RX16 102 1199) := ⟨tw_6 _ (List.mem_of_getElem? (i := 236) (by decide +kernel)), by decide +kernel⟩
theorem ct_X16_107 : zwd (.constantLong RX16 107 5) := ⟨tw_7 _ (List.mem_of_getElem? (i := 5) (by decide +kernel)), by decide +kernel⟩
theorem ct_X16_109 : zwd (.constantLong RX16 109 60) := ⟨tw_7 _ (List.mem_of_getElem? (i := 6) (by decide +kernel)), by decide +kernel⟩
theorem ct_X16_152 : zwd (.constantLong RX16 152 48271) := ⟨tw_7 _ (List.mem_of_getElem? (i := 113) (by decide +kernel)), by decide +kernel⟩
theorem ct_X16_154 : zwd (.constantLong RX16 154 2147483647) := ⟨tw_7 _ (List.mem_of_getElem? (i := 114) (by decide +kernel)), by decide +kernel⟩
theorem ct_X16_159 : zwd (.constantLong RX16 159 2147483646) := ⟨tw_7 _ (List.mem_of_getElem? (i := 128) (by decide +kernel)), by decide +kernel⟩
theorem ct_X16_192 : zwd (.constantLong RX16 192 40) := ⟨tw_7 _ (List.mem_of_getElem? (i := 222) (by decide +kernel)), by decide +kernel⟩
theorem ct_J2_227 : zwd (.constant RJ2 227 65536) := ⟨tw_8 _ (List.mem_of_getElem? (i := 103) (by decide +kernel)), by decide +kernel⟩
theorem ct_J11_110 : zwd (.constant RJ11 110 55232) := ⟨tw_8 _ (List.mem_of_getElem? (i := 142) (by decide +kernel)), by decide +kernel⟩
theorem ct_J11_76 : zwd (.constant RJ11 76 56320) := ⟨tw_8 _ (List.mem_of_getElem? (i := 146) (by decide +kernel)), by decide +kernel⟩
theorem ct_X16_327 : zwd (.constantLong RX16 327 7) := ⟨tw_8 _ (List.mem_of_getElem? (i := 195) (by decide +kernel)), by decide +kernel⟩
theorem ct_X16_329 : zwd (.constantLong RX16 329 31) := ⟨tw_8 _ (List.mem_of_getElem? (i := 196) (by decide +kernel)), by decide +kernel⟩
theorem co_J6 : zwd (.castable RJ6 "java/lang/Object") := ⟨tw_8 _ (List.mem_of_getElem? (i := 213) (by decide +kernel)), by decide +kernel⟩
theorem co_X11 : zwd (.castable RX11 "java/lang/Object") := ⟨tw_8 _ (List.mem_of_getElem? (i := 214) (by decide +kernel)), by decide +kernel⟩
theorem co_X7 : zwd (.castable RX7 "java/lang/Object") := ⟨tw_8 _ (List.mem_of_getElem? (i := 215) (by decide +kernel)), by decide +kernel⟩
theorem co_Jx4a65c : zwd (.castable RJx4a65c "java/lang/Object") := ⟨tw_8 _ (List.mem_of_getElem? (i := 216) (by decide +kernel)), by decide +kernel⟩
theorem co_X1 : zwd (.castable RX1 "java/lang/Object") := ⟨tw_8 _ (List.mem_of_getElem? (i := 217) (by decide +kernel)), by decide +kernel⟩
theorem co_X5 : zwd (.castable RX5 "java/lang/Object") := ⟨tw_8 _ (List.mem_of_getElem? (i := 218) (by decide +kernel)), by decide +kernel⟩
theorem co_X10 : zwd (.castable RX10 "java/lang/Object") := ⟨tw_8 _ (List.mem_of_getElem? (i := 219) (by decide +kernel)), by decide +kernel⟩
theorem co_X4 : zwd (.castable RX4 "java/lang/Object") := ⟨tw_8 _ (List.mem_of_getElem? (i := 220) (by decide +kernel)), by decide +kernel⟩
theorem co_X2 : zwd (.castable RX2 "java/lang/Object") := ⟨tw_8 _ (List.mem_of_getElem? (i := 221) (by decide +kernel)), by decide +kernel⟩
theorem co_X3 : zwd (.castable RX3 "java/lang/Object") := ⟨tw_8 _ (List.mem_of_getElem? (i := 222) (by decide +kernel)), by decide +kernel⟩
theorem co_X16 : zwd (.castable RX16 "java/lang/Object") := ⟨tw_8 _ (List.mem_of_getElem? (i := 223) (by decide +kernel)), by decide +kernel⟩
theorem co_X6 : zwd (.castable RX6 "java/lang/Object") := ⟨tw_8 _ (List.mem_of_getElem? (i := 227) (by decide +kernel)), by decide +kernel⟩
theorem co_Jx35411 : zwd (.castable RJx35411 "java/lang/Object") := ⟨tw_8 _ (List.mem_of_getElem? (i := 228) (by decide +kernel)), by decide +kernel⟩
theorem co_X13 : zwd (.castable RX13 "java/lang/Object") := ⟨tw_8 _ (List.mem_of_getElem? (i := 230) (by decide +kernel)), by decide +kernel⟩
theorem co_Jx00060 : zwd (.castable RJx00060 "java/lang/Object") := ⟨tw_8 _ (List.mem_of_getElem? (i := 231) (by decide +kernel)), by decide +kernel⟩
theorem co_X0 : zwd (.castable RX0 "java/lang/Object") := ⟨tw_8 _ (List.mem_of_getElem? (i := 233) (by decide +kernel)), by decide +kernel⟩
theorem co_X12 : zwd (.castable RX12 "java/lang/Object") := ⟨tw_8 _ (List.mem_of_getElem? (i := 234) (by decide +kernel)), by decide +kernel⟩
theorem co_X8 : zwd (.castable RX8 "java/lang/Object") := ⟨tw_8 _ (List.mem_of_getElem? (i := 235) (by decide +kernel)), by decide +kernel⟩
theorem co_X14 : zwd (.castable RX14 "java/lang/Object") := ⟨tw_8 _ (List.mem_of_getElem? (i := 236) (by decide +kernel)), by decide +kernel⟩
theorem co_X9 : zwd (.castable RX9 "java/lang/Object") := ⟨tw_8 _ (List.mem_of_getElem? (i := 237) (by decide +kernel)), by decide +kernel⟩
theorem co_X15 : zwd (.castable RX15 "java/lang/Object") := ⟨tw_8 _ (List.mem_of_getElem? (i := 238) (by decide +kernel)), by decide +kernel⟩
theorem co_J0 : zwd (.castable RJ0 "java/lang/Object") := ⟨tw_9 _ (List.mem_of_getElem? (i := 1) (by decide +kernel)), by decide +kernel⟩
