/-! METHODS (by program) -/
def mth_X0_init : zMeth := (yX0_init, cX0_init, 7, none, [])
theorem ok_X0_init : zMok mth_X0_init 6 := ⟨rfl, by decide +kernel, ⟨by decide +kernel, by decide +kernel⟩, by decide +kernel, by decide, ⟨tw_3 _ (List.mem_of_getElem? (i := 188) (by decide +kernel)), by decide +kernel⟩, ⟨tw_1 _ (List.mem_of_getElem? (i := 32) (by decide +kernel)), by decide +kernel⟩⟩
def mth_X0_isUnlawfulFire : zMeth := (yX0_isUnlawfulFire, cX0_isUnlawfulFire, 1, (some .boolean), [])
theorem ok_X0_isUnlawfulFire : zMok mth_X0_isUnlawfulFire 0 := ⟨rfl, by decide +kernel, ⟨by decide +kernel, by decide +kernel⟩, by decide +kernel, by decide, ⟨tw_5 _ (List.mem_of_getElem? (i := 95) (by decide +kernel)), by decide +kernel⟩, ⟨tw_1 _ (List.mem_of_getElem? (i := 32) (by decide +kernel)), by decide +kernel⟩⟩
def mth_X1_init : zMeth := (yX1_init, cX1_init, 1, none, [])
theorem ok_X1_init : zMok mth_X1_init 0 := ⟨rfl, by decide +kernel, ⟨by decide +kernel, by decide +kernel⟩, by decide +kernel, by decide, ⟨tw_1 _ (List.mem_of_getElem? (i := 102) (by decide +kernel)), by decide +kernel⟩, ⟨tw_1 _ (List.mem_of_getElem? (i := 6) (by decide +kernel)), by decide +kernel⟩⟩
def mth_X1_has : zMeth := (yX1_has, cX1_has, 3, (some .boolean), [])
theorem ok_X1_has : zMok mth_X1_has 2 := ⟨rfl, by decide +kernel, ⟨by decide +kernel, by decide +kernel⟩, by decide +kernel, by decide, ⟨tw_4 _ (List.mem_of_getElem? (i := 31) (by decide +kernel)), by decide +kernel⟩, ⟨tw_1 _ (List.mem_of_getElem? (i := 6) (by decide +kernel)), by decide +kernel⟩⟩
def mth_X1_put : zMeth := (yX1_put, cX1_put, 3, none, [])
theorem ok_X1_put : zMok mth_X1_put 2 := ⟨rfl, by decide +kernel, ⟨by decide +kernel, by decide +kernel⟩, by decide +kernel, by decide, ⟨tw_4 _ (List.mem_of_getElem? (i := 35) (by decide +kernel)), by decide +kernel⟩, ⟨tw_1 _ (List.mem_of_getElem? (i := 6) (by decide +kernel)), by decide +kernel⟩⟩
def mth_X1_take : zMeth := (yX1_take, cX1_take, 3, none, [])
theorem ok_X1_take : zMok mth_X1_take 2 := ⟨rfl, by decide +kernel, ⟨by decide +kernel, by decide +kernel⟩, by decide +kernel, by decide, ⟨tw_4 _ (List.mem_of_getElem? (i := 46) (by decide +kernel)), by decide +kernel⟩, ⟨tw_1 _ (List.mem_of_getElem? (i := 6) (by decide +kernel)), by decide +kernel⟩⟩
def mth_X1_leads : zMeth := (yX1_leads, cX1_leads, 6, (some .boolean), [])
theorem ok_X1_leads : zMok mth_X1_leads 2 := ⟨rfl, by decide +kernel, ⟨by decide +kernel, by decide +kernel⟩, by decide +kernel, by decide, ⟨tw_4 _ (List.mem_of_getElem? (i := 26) (by decide +kernel)), by decide +kernel⟩, ⟨tw_1 _ (List.mem_of_getElem? (i := 6) (by decide +kernel)), by decide +kernel⟩⟩
def mth_X1_countOrders : zMeth := (yX1_countOrders, cX1_countOrders, 2, (some .int), [])
theorem ok_X1_countOrders : zMok mth_X1_countOrders 1 := ⟨rfl, by decide +kernel, ⟨by decide +kernel, by decide +kernel⟩, by decide +kernel, by decide, ⟨tw_2 _ (List.mem_of_getElem? (i := 28) (by decide +kernel)), by decide +kernel⟩, ⟨tw_1 _ (List.mem_of_getElem? (i := 6) (by decide +kernel)), by decide +kernel⟩⟩
def mth_X1_fillWays : zMeth := (yX1_fillWays, cX1_fillWays, 6, none, [])
theorem ok_X1_fillWays : zMok mth_X1_fillWays 1 := ⟨rfl, by decide +kernel, ⟨by decide +kernel, by decide +kernel⟩, by decide +kernel, by decide, ⟨tw_2 _ (List.mem_of_getElem? (i := 32) (by decide +kernel)), by decide +kernel⟩, ⟨tw_1 _ (List.mem_of_getElem? (i := 6) (by decide +kernel)), by decide +kernel⟩⟩
def mth_X1_isNext : zMeth := (yX1_isNext, cX1_isNext, 3, (some .boolean), [])
theorem ok_X1_isNext : zMok mth_X1_isNext 2 := ⟨rfl, by decide +kernel, ⟨by decide +kernel, by decide +kernel⟩, by decide +kernel, by decide, ⟨tw_2 _ (List.mem_of_getElem? (i := 36) (by decide +kernel)), by decide +kernel⟩, ⟨tw_1 _ (List.mem_of_getElem? (i := 6) (by decide +kernel)), by decide +kernel⟩⟩
def mth_X1_actOfOrder : zMeth := (yX1_actOfOrder, cX1_actOfOrder, 8, (some .int), [])
theorem ok_X1_actOfOrder : zMok mth_X1_actOfOrder 3 := ⟨rfl, by decide +kernel, ⟨by decide +kernel, by decide +kernel⟩, by decide +kernel, by decide, ⟨tw_4 _ (List.mem_of_getElem? (i := 75) (by decide +kernel)), by decide +kernel⟩, ⟨tw_1 _ (List.mem_of_getElem? (i := 6) (by decide +kernel)), by decide +kernel⟩⟩
def mth_X2_init : zMeth := (yX2_init, cX2_init, 4, none, [])
theorem ok_X2_init : zMok mth_X2_init 3 := ⟨rfl, by decide +kernel, ⟨by decide +kernel, by decide +kernel⟩, by decide +kernel, by decide, ⟨tw_1 _ (List.mem_of_getElem? (i := 182) (by decide +kernel)), by decide +kernel⟩, ⟨tw_1 _ (List.mem_of_getElem? (i := 10) (by decide +kernel)), by decide +kernel⟩⟩
def mth_X2_begin : zMeth := (yX2_begin, cX2_begin, 1, none, [])
theorem ok_X2_begin : zMok mth_X2_begin 0 := ⟨rfl, by decide +kernel, ⟨by decide +kernel, by decide +kernel⟩, by decide +kernel, by decide, ⟨tw_5 _ (List.mem_of_getElem? (i := 238) (by decide +kernel)), by decide +kernel⟩, ⟨tw_1 _ (List.mem_of_getElem? (i := 10) (by decide +kernel)), by decide +kernel⟩⟩
def mth_X2_run : zMeth := (yX2_run, cX2_run, 2, none, [])
theorem ok_X2_run : zMok mth_X2_run 0 := ⟨rfl, by decide +kernel, ⟨by decide +kernel, by decide +kernel⟩, by decide +kernel, by decide, ⟨tw_5 _ (List.mem_of_getElem? (i := 43) (by decide +kernel)), by decide +kernel⟩, ⟨tw_1 _ (List.mem_of_getElem? (i := 10) (by decide +kernel)), by decide +kernel⟩⟩
def mth_X2_payVisits : zMeth := (yX2_payVisits, cX2_payVisits, 5, none, [])
theorem ok_X2_payVisits : zMok mth_X2_payVisits 1 := ⟨rfl, by decide +kernel, ⟨by decide +kernel, by decide +kernel⟩, by decide +kernel, by decide, ⟨tw_5 _ (List.mem_of_getElem? (i := 84) (by decide +kernel)), by decide +kernel⟩, ⟨tw_1 _ (List.mem_of_getElem? (i := 10) (by decide +kernel)), by decide +kernel⟩⟩
def mth_X2_judge : zMeth := (yX2_judge, cX2_judge, 3, none, [])
theorem ok_X2_judge : zMok mth_X2_judge 2 := ⟨rfl, by decide +kernel, ⟨by decide +kernel, by decide +kernel⟩, by decide +kernel, by decide, ⟨tw_5 _ (List.mem_of_getElem? (i := 91) (by decide +kernel)), by decide +kernel⟩, ⟨tw_1 _ (List.mem_of_getElem? (i := 10) (by decide +kernel)), by decide +kernel⟩⟩
def mth_X2_playMinute : zMeth := (yX2_playMinute, cX2_playMinute, 5, none, [])
theorem ok_X2_playMinute : zMok mth_X2_playMinute 1 := ⟨rfl, by decide +kernel, ⟨by decide +kernel, by decide +kernel⟩, by decide +kernel, by decide, ⟨tw_5 _ (List.mem_of_getElem? (i := 114) (by decide +kernel)), by decide +kernel⟩, ⟨tw_1 _ (List.mem_of_getElem? (i := 10) (by decide +kernel)), by decide +kernel⟩⟩
def mth_X2_gather : zMeth := (yX2_gather, cX2_gather, 9, none, [])
theorem ok_X2_gather : zMok mth_X2_gather 3 := ⟨rfl, by decide +kernel, ⟨by decide +kernel, by decide +kernel⟩, by decide +kernel, by decide, ⟨tw_5 _ (List.mem_of_getElem? (i := 119) (by decide +kernel)), by decide +kernel⟩, ⟨tw_1 _ (List.mem_of_getElem? (i := 10) (by decide +kernel)), by decide +kernel⟩⟩
def mth_X2_endIfDue : zMeth := (yX2_endIfDue, cX2_endIfDue, 3, none, [])
theorem ok_X2_endIfDue : zMok mth_X2_endIfDue 2 := ⟨rfl, by decide +kernel, ⟨by decide +kernel, by decide +kernel⟩, by decide +kernel, by decide, ⟨tw_5 _ (List.mem_of_getElem? (i := 143) (by decide +kernel)), by decide +kernel⟩, ⟨tw_1 _ (List.mem_of_getElem? (i := 10) (by decide +kernel)), by decide +kernel⟩⟩
def mth_X3_init : zMeth := (yX3_init, cX3_init, 1, none, [])
theorem ok_X3_init : zMok mth_X3_init 0 := ⟨rfl, by decide +kernel, ⟨by decide +kernel, by decide +kernel⟩, by decide +kernel, by decide, ⟨tw_1 _ (List.mem_of_getElem? (i := 224) (by decide +kernel)), by decide +kernel⟩, ⟨tw_1 _ (List.mem_of_getElem? (i := 11) (by decide +kernel)), by decide +kernel⟩⟩
def mth_X3_write : zMeth := (yX3_write, cX3_write, 2, none, [])
theorem ok_X3_write : zMok mth_X3_write 1 := ⟨rfl, by decide +kernel, ⟨by decide +kernel, by decide +kernel⟩, by decide +kernel, by decide, ⟨tw_5 _ (List.mem_of_getElem? (i := 228) (by decide +kernel)), by decide +kernel⟩, ⟨tw_1 _ (List.mem_of_getElem? (i := 11) (by decide +kernel)), by decide +kernel⟩⟩
def mth_X4_init : zMeth := (yX4_init, cX4_init, 1, none, [])
theorem ok_X4_init : zMok mth_X4_init 0 := ⟨rfl, by decide +kernel, ⟨by decide +kernel, by decide +kernel⟩, by decide +kernel, by decide, ⟨tw_1 _ (List.mem_of_getElem? (i := 166) (by decide +kernel)), by decide +kernel⟩, ⟨tw_1 _ (List.mem_of_getElem? (i := 9) (by decide +kernel)), by decide +kernel⟩⟩
def mth_X5_init : zMeth := (yX5_init, cX5_init, 1, none, [])
theorem ok_X5_init : zMok mth_X5_init 0 := ⟨rfl, by decide +kernel, ⟨by decide +kernel, by decide +kernel⟩, by decide +kernel, by decide, ⟨tw_1 _ (List.mem_of_getElem? (i := 118) (by decide +kernel)), by decide +kernel⟩, ⟨tw_1 _ (List.mem_of_getElem? (i := 7) (by decide +kernel)), by decide +kernel⟩⟩
def mth_X5_draw : zMeth := (yX5_draw, cX5_draw, 5, none, [])
theorem ok_X5_draw : zMok mth_X5_draw 2 := ⟨rfl, by decide +kernel, ⟨by decide +kernel, by decide +kernel⟩, by decide +kernel, by decide, ⟨tw_2 _ (List.mem_of_getElem? (i := 44) (by decide +kernel)), by decide +kernel⟩, ⟨tw_1 _ (List.mem_of_getElem? (i := 7) (by decide +kernel)), by decide +kernel⟩⟩
def mth_X5_drawOne : zMeth := (yX5_drawOne, cX5_drawOne, 5, (some .int), [])
theorem ok_X5_drawOne : zMok mth_X5_drawOne 2 := ⟨rfl, by decide +kernel, ⟨by decide +kernel, by decide +kernel⟩, by decide +kernel, by decide, ⟨tw_2 _ (List.mem_of_getElem? (i := 51) (by decide +kernel)), by decide +kernel⟩, ⟨tw_1 _ (List.mem_of_getElem? (i := 7) (by decide +kernel)), by decide +kernel⟩⟩
def mth_X5_isFree : zMeth := (yX5_isFree, cX5_isFree, 3, (some .boolean), [])
theorem ok_X5_isFree : zMok mth_X5_isFree 2 := ⟨rfl, by decide +kernel, ⟨by decide +kernel, by decide +kernel⟩, by decide +kernel, by decide, ⟨tw_2 _ (List.mem_of_getElem? (i := 57) (by decide +kernel)), by decide +kernel⟩, ⟨tw_1 _ (List.mem_of_getElem? (i := 7) (by decide +kernel)), by decide +kernel⟩⟩
def mth_X5_isAllowed : zMeth := (yX5_isAllowed, cX5_isAllowed, 4, (some .boolean), [])
theorem ok_X5_isAllowed : zMok mth_X5_isAllowed 0 := ⟨rfl, by decide +kernel, ⟨by decide +kernel, by decide +kernel⟩, by decide +kernel, by decide, ⟨tw_2 _ (List.mem_of_getElem? (i := 110) (by decide +kernel)), by decide +kernel⟩, ⟨tw_1 _ (List.mem_of_getElem? (i := 7) (by decide +kernel)), by decide +kernel⟩⟩
def mth_X6_init : zMeth := (yX6_init, cX6_init, 4, none, [])
theorem ok_X6_init : zMok mth_X6_init 3 := ⟨rfl, by decide +kernel, ⟨by decide +kernel, by decide +kernel⟩, by decide +kernel, by decide, ⟨tw_3 _ (List.mem_of_getElem? (i := 6) (by decide +kernel)), by decide +kernel⟩, ⟨tw_1 _ (List.mem_of_getElem? (i := 21) (by decide +kernel)), by decide +kernel⟩⟩
def mth_X6_passersIn : zMeth := (yX6_passersIn, cX6_passersIn, 5, (some .int), [])
theorem ok_X6_passersIn : zMok mth_X6_passersIn 1 := ⟨rfl, by decide +kernel, ⟨by decide +kernel, by decide +kernel⟩, by decide +kernel, by decide, ⟨tw_3 _ (List.mem_of_getElem? (i := 175) (by decide +kernel)), by decide +kernel⟩, ⟨tw_1 _ (List.mem_of_getElem? (i := 21) (by decide +kernel)), by decide +kernel⟩⟩
def mth_X6_yardsTo : zMeth := (yX6_yardsTo, cX6_yardsTo, 2, (some .int), [])
theorem ok_X6_yardsTo : zMok mth_X6_yardsTo 1 := ⟨rfl, by decide +kernel, ⟨by decide +kernel, by decide +kernel⟩, by decide +kernel, by decide, ⟨tw_5 _ (List.mem_of_getElem? (i := 107) (by decide +kernel)), by decide +kernel⟩, ⟨tw_1 _ (List.mem_of_getElem? (i := 21) (by decide +kernel)), by decide +kernel⟩⟩
def mth_X6_loudnessAt : zMeth := (yX6_loudnessAt, cX6_loudnessAt, 3, (some .int), [])
theorem ok_X6_loudnessAt : zMok mth_X6_loudnessAt 2 := ⟨rfl, by decide +kernel, ⟨by decide +kernel, by decide +kernel⟩, by decide +kernel, by decide, ⟨tw_5 _ (List.mem_of_getElem? (i := 131) (by decide +kernel)), by decide +kernel⟩, ⟨tw_1 _ (List.mem_of_getElem? (i := 21) (by decide +kernel)), by decide +kernel⟩⟩
def mth_X6_openDay : zMeth := (yX6_openDay, cX6_openDay, 1, none, [])
theorem ok_X6_openDay : zMok mth_X6_openDay 0 := ⟨rfl, by decide +kernel, ⟨by decide +kernel, by decide +kernel⟩, by decide +kernel, by decide, ⟨tw_5 _ (List.mem_of_getElem? (i := 51) (by decide +kernel)), by decide +kernel⟩, ⟨tw_1 _ (List.mem_of_getElem? (i := 21) (by decide +kernel)), by decide +kernel⟩⟩
def mth_X6_openMinute : zMeth := (yX6_openMinute, cX6_openMinute, 2, none, [])
theorem ok_X6_openMinute : zMok mth_X6_openMinute 1 := ⟨rfl, by decide +kernel, ⟨by decide +kernel, by decide +kernel⟩, by decide +kernel, by decide, ⟨tw_5 _ (List.mem_of_getElem? (i := 67) (by decide +kernel)), by decide +kernel⟩, ⟨tw_1 _ (List.mem_of_getElem? (i := 21) (by decide +kernel)), by decide +kernel⟩⟩
def mth_X6_beginNext : zMeth := (yX6_beginNext, cX6_beginNext, 3, none, [])
theorem ok_X6_beginNext : zMok mth_X6_beginNext 1 := ⟨rfl, by decide +kernel, ⟨by decide +kernel, by decide +kernel⟩, by decide +kernel, by decide, ⟨tw_5 _ (List.mem_of_getElem? (i := 71) (by decide +kernel)), by decide +kernel⟩, ⟨tw_1 _ (List.mem_of_getElem? (i := 21) (by decide +kernel)), by decide +kernel⟩⟩
def mth_X6_isOver : zMeth := (yX6_isOver, cX6_isOver, 1, (some .boolean), [])
theorem ok_X6_isOver : zMok mth_X6_isOver 0 := ⟨rfl, by decide +kernel, ⟨by decide +kernel, by decide +kernel⟩, by decide +kernel, by decide, ⟨tw_5 _ (List.mem_of_getElem? (i := 59) (by decide +kernel)), by decide +kernel⟩, ⟨tw_1 _ (List.mem_of_getElem? (i := 21) (by decide +kernel)), by decide +kernel⟩⟩
def mth_X6_actsOfTurns : zMeth := (yX6_actsOfTurns, cX6_actsOfTurns, 3, (some .int), [])
theorem ok_X6_actsOfTurns : zMok mth_X6_actsOfTurns 0 := ⟨rfl, by decide +kernel, ⟨by decide +kernel, by decide +kernel⟩, by decide +kernel, by decide, ⟨tw_2 _ (List.mem_of_getElem? (i := 103) (by decide +kernel)), by decide +kernel⟩, ⟨tw_1 _ (List.mem_of_getElem? (i := 21) (by decide +kernel)), by decide +kernel⟩⟩
def mth_X6_hasTurnsApart : zMeth := (yX6_hasTurnsApart, cX6_hasTurnsApart, 4, (some .boolean), [])
theorem ok_X6_hasTurnsApart : zMok mth_X6_hasTurnsApart 0 := ⟨rfl, by decide +kernel, ⟨by decide +kernel, by decide +kernel⟩, by decide +kernel, by decide, ⟨tw_2 _ (List.mem_of_getElem? (i := 121) (by decide +kernel)), by decide +kernel⟩, ⟨tw_1 _ (List.mem_of_getElem? (i := 21) (by decide +kernel)), by decide +kernel⟩⟩
def mth_X7_init : zMeth := (yX7_init, cX7_init, 1, none, [])
theorem ok_X7_init : zMok mth_X7_init 0 := ⟨rfl, by decide +kernel, ⟨by decide +kernel, by decide +kernel⟩, by decide +kernel, by decide, ⟨tw_1 _ (List.mem_of_getElem? (i := 57) (by decide +kernel)), by decide +kernel⟩, ⟨tw_1 _ (List.mem_of_getElem? (i := 2) (by decide +kernel)), by decide +kernel⟩⟩
def mth_X7_hasPitchAt : zMeth := (yX7_hasPitchAt, cX7_hasPitchAt, 3, (some .boolean), [])
theorem ok_X7_hasPitchAt : zMok mth_X7_hasPitchAt 1 := ⟨rfl, by decide +kernel, ⟨by decide +kernel, by decide +kernel⟩, by decide +kernel, by decide, ⟨tw_2 _ (List.mem_of_getElem? (i := 210) (by decide +kernel)), by decide +kernel⟩, ⟨tw_1 _ (List.mem_of_getElem? (i := 2) (by decide +kernel)), by decide +kernel⟩⟩
def mth_X7_hasTurnElsewhere : zMeth := (yX7_hasTurnElsewhere, cX7_hasTurnElsewhere, 4, (some .boolean), [])
theorem ok_X7_hasTurnElsewhere : zMok mth_X7_hasTurnElsewhere 2 := ⟨rfl, by decide +kernel, ⟨by decide +kernel, by decide +kernel⟩, by decide +kernel, by decide, ⟨tw_4 _ (List.mem_of_getElem? (i := 107) (by decide +kernel)), by decide +kernel⟩, ⟨tw_1 _ (List.mem_of_getElem? (i := 2) (by decide +kernel)), by decide +kernel⟩⟩
def mth_X7_clearTurns : zMeth := (yX7_clearTurns, cX7_clearTurns, 2, none, [])
theorem ok_X7_clearTurns : zMok mth_X7_clearTurns 0 := ⟨rfl, by decide +kernel, ⟨by decide +kernel, by decide +kernel⟩, by decide +kernel, by decide, ⟨tw_4 _ (List.mem_of_getElem? (i := 167) (by decide +kernel)), by decide +kernel⟩, ⟨tw_1 _ (List.mem_of_getElem? (i := 2) (by decide +kernel)), by decide +kernel⟩⟩
def mth_X7_makePartners : zMeth := (yX7_makePartners, cX7_makePartners, 5, (some .int), [])
theorem ok_X7_makePartners : zMok mth_X7_makePartners 2 := ⟨rfl, by decide +kernel, ⟨by decide +kernel, by decide +kernel⟩, by decide +kernel, by decide, ⟨tw_5 _ (List.mem_of_getElem? (i := 26) (by decide +kernel)), by decide +kernel⟩, ⟨tw_1 _ (List.mem_of_getElem? (i := 2) (by decide +kernel)), by decide +kernel⟩⟩
def mth_X7_share : zMeth := (yX7_share, cX7_share, 6, none, [])
theorem ok_X7_share : zMok mth_X7_share 2 := ⟨rfl, by decide +kernel, ⟨by decide +kernel, by decide +kernel⟩, by decide +kernel, by decide, ⟨tw_5 _ (List.mem_of_getElem? (i := 159) (by decide +kernel)), by decide +kernel⟩, ⟨tw_1 _ (List.mem_of_getElem? (i := 2) (by decide +kernel)), by decide +kernel⟩⟩
def mth_X7_openDay : zMeth := (yX7_openDay, cX7_openDay, 2, none, [])
theorem ok_X7_openDay : zMok mth_X7_openDay 0 := ⟨rfl, by decide +kernel, ⟨by decide +kernel, by decide +kernel⟩, by decide +kernel, by decide, ⟨tw_5 _ (List.mem_of_getElem? (i := 47) (by decide +kernel)), by decide +kernel⟩, ⟨tw_1 _ (List.mem_of_getElem? (i := 2) (by decide +kernel)), by decide +kernel⟩⟩
def mth_X7_openMinute : zMeth := (yX7_openMinute, cX7_openMinute, 3, none, [])
theorem ok_X7_openMinute : zMok mth_X7_openMinute 1 := ⟨rfl, by decide +kernel, ⟨by decide +kernel, by decide +kernel⟩, by decide +kernel, by decide, ⟨tw_5 _ (List.mem_of_getElem? (i := 63) (by decide +kernel)), by decide +kernel⟩, ⟨tw_1 _ (List.mem_of_getElem? (i := 2) (by decide +kernel)), by decide +kernel⟩⟩
def mth_X7_isOver : zMeth := (yX7_isOver, cX7_isOver, 2, (some .boolean), [])
theorem ok_X7_isOver : zMok mth_X7_isOver 0 := ⟨rfl, by decide +kernel, ⟨by decide +kernel, by decide +kernel⟩, by decide +kernel, by decide, ⟨tw_5 _ (List.mem_of_getElem? (i := 55) (by decide +kernel)), by decide +kernel⟩, ⟨tw_1 _ (List.mem_of_getElem? (i := 2) (by decide +kernel)), by decide +kernel⟩⟩
def mth_X7_isDrowned : zMeth := (yX7_isDrowned, cX7_isDrowned, 6, (some .boolean), [])
theorem ok_X7_isDrowned : zMok mth_X7_isDrowned 2 := ⟨rfl, by decide +kernel, ⟨by decide +kernel, by decide +kernel⟩, by decide +kernel, by decide, ⟨tw_5 _ (List.mem_of_getElem? (i := 127) (by decide +kernel)), by decide +kernel⟩, ⟨tw_1 _ (List.mem_of_getElem? (i := 2) (by decide +kernel)), by decide +kernel⟩⟩
def mth_X7_hasPlayingNearer : zMeth := (yX7_hasPlayingNearer, cX7_hasPlayingNearer, 5, (some .boolean), [])
theorem ok_X7_hasPlayingNearer : zMok mth_X7_hasPlayingNearer 2 := ⟨rfl, by decide +kernel, ⟨by decide +kernel, by decide +kernel⟩, by decide +kernel, by decide, ⟨tw_5 _ (List.mem_of_getElem? (i := 103) (by decide +kernel)), by decide +kernel⟩, ⟨tw_1 _ (List.mem_of_getElem? (i := 2) (by decide +kernel)), by decide +kernel⟩⟩
def mth_X7_countTurns : zMeth := (yX7_countTurns, cX7_countTurns, 3, (some .int), [])
theorem ok_X7_countTurns : zMok mth_X7_countTurns 0 := ⟨rfl, by decide +kernel, ⟨by decide +kernel, by decide +kernel⟩, by decide +kernel, by decide, ⟨tw_6 _ (List.mem_of_getElem? (i := 32) (by decide +kernel)), by decide +kernel⟩, ⟨tw_1 _ (List.mem_of_getElem? (i := 2) (by decide +kernel)), by decide +kernel⟩⟩
def mth_X7_countGoodTurns : zMeth := (yX7_countGoodTurns, cX7_countGoodTurns, 5, (some .int), [])
theorem ok_X7_countGoodTurns : zMok mth_X7_countGoodTurns 0 := ⟨rfl, by decide +kernel, ⟨by decide +kernel, by decide +kernel⟩, by decide +kernel, by decide, ⟨tw_6 _ (List.mem_of_getElem? (i := 39) (by decide +kernel)), by decide +kernel⟩, ⟨tw_1 _ (List.mem_of_getElem? (i := 2) (by decide +kernel)), by decide +kernel⟩⟩
def mth_X7_sumMoney : zMeth := (yX7_sumMoney, cX7_sumMoney, 3, (some .int), [])
theorem ok_X7_sumMoney : zMok mth_X7_sumMoney 0 := ⟨rfl, by decide +kernel, ⟨by decide +kernel, by decide +kernel⟩, by decide +kernel, by decide, ⟨tw_2 _ (List.mem_of_getElem? (i := 91) (by decide +kernel)), by decide +kernel⟩, ⟨tw_1 _ (List.mem_of_getElem? (i := 2) (by decide +kernel)), by decide +kernel⟩⟩
def mth_X7_hasActsOnOnePitch : zMeth := (yX7_hasActsOnOnePitch, cX7_hasActsOnOnePitch, 4, (some .boolean), [])
theorem ok_X7_hasActsOnOnePitch : zMok mth_X7_hasActsOnOnePitch 0 := ⟨rfl, by decide +kernel, ⟨by decide +kernel, by decide +kernel⟩, by decide +kernel, by decide, ⟨tw_2 _ (List.mem_of_getElem? (i := 98) (by decide +kernel)), by decide +kernel⟩, ⟨tw_1 _ (List.mem_of_getElem? (i := 2) (by decide +kernel)), by decide +kernel⟩⟩
def mth_X7_hasTurnsApart : zMeth := (yX7_hasTurnsApart, cX7_hasTurnsApart, 2, (some .boolean), [])
theorem ok_X7_hasTurnsApart : zMok mth_X7_hasTurnsApart 0 := ⟨rfl, by decide +kernel, ⟨by decide +kernel, by decide +kernel⟩, by decide +kernel, by decide, ⟨tw_2 _ (List.mem_of_getElem? (i := 117) (by decide +kernel)), by decide +kernel⟩, ⟨tw_1 _ (List.mem_of_getElem? (i := 2) (by decide +kernel)), by decide +kernel⟩⟩
def mth_X8_init : zMeth := (yX8_init, cX8_init, 2, none, [])
theorem ok_X8_init : zMok mth_X8_init 1 := ⟨rfl, by decide +kernel, ⟨by decide +kernel, by decide +kernel⟩, by decide +kernel, by decide, ⟨tw_4 _ (List.mem_of_getElem? (i := 113) (by decide +kernel)), by decide +kernel⟩, ⟨tw_1 _ (List.mem_of_getElem? (i := 37) (by decide +kernel)), by decide +kernel⟩⟩
def mth_X8_open : zMeth := (yX8_open, cX8_open, 2, none, [])
theorem ok_X8_open : zMok mth_X8_open 1 := ⟨rfl, by decide +kernel, ⟨by decide +kernel, by decide +kernel⟩, by decide +kernel, by decide, ⟨tw_5 _ (List.mem_of_getElem? (i := 79) (by decide +kernel)), by decide +kernel⟩, ⟨tw_1 _ (List.mem_of_getElem? (i := 37) (by decide +kernel)), by decide +kernel⟩⟩
def mth_X8_lastIfBegunAt : zMeth := (yX8_lastIfBegunAt, cX8_lastIfBegunAt, 2, (some .int), [])
theorem ok_X8_lastIfBegunAt : zMok mth_X8_lastIfBegunAt 1 := ⟨rfl, by decide +kernel, ⟨by decide +kernel, by decide +kernel⟩, by decide +kernel, by decide, ⟨tw_5 _ (List.mem_of_getElem? (i := 75) (by decide +kernel)), by decide +kernel⟩, ⟨tw_1 _ (List.mem_of_getElem? (i := 37) (by decide +kernel)), by decide +kernel⟩⟩
def mth_X8_move : zMeth := (yX8_move, cX8_move, 3, none, [])
theorem ok_X8_move : zMok mth_X8_move 2 := ⟨rfl, by decide +kernel, ⟨by decide +kernel, by decide +kernel⟩, by decide +kernel, by decide, ⟨tw_5 _ (List.mem_of_getElem? (i := 138) (by decide +kernel)), by decide +kernel⟩, ⟨tw_1 _ (List.mem_of_getElem? (i := 37) (by decide +kernel)), by decide +kernel⟩⟩
def mth_X8_breaksNow : zMeth := (yX8_breaksNow, cX8_breaksNow, 1, (some .boolean), [])
theorem ok_X8_breaksNow : zMok mth_X8_breaksNow 0 := ⟨rfl, by decide +kernel, ⟨by decide +kernel, by decide +kernel⟩, by decide +kernel, by decide, ⟨tw_5 _ (List.mem_of_getElem? (i := 147) (by decide +kernel)), by decide +kernel⟩, ⟨tw_1 _ (List.mem_of_getElem? (i := 37) (by decide +kernel)), by decide +kernel⟩⟩
def mth_X8_breakAt : zMeth := (yX8_breakAt, cX8_breakAt, 2, none, [])
theorem ok_X8_breakAt : zMok mth_X8_breakAt 1 := ⟨rfl, by decide +kernel, ⟨by decide +kernel, by decide +kernel⟩, by decide +kernel, by decide, ⟨tw_5 _ (List.mem_of_getElem? (i := 151) (by decide +kernel)), by decide +kernel⟩, ⟨tw_1 _ (List.mem_of_getElem? (i := 37) (by decide +kernel)), by decide +kernel⟩⟩
def mth_X8_passHat : zMeth := (yX8_passHat, cX8_passHat, 4, none, [])
theorem ok_X8_passHat : zMok mth_X8_passHat 1 := ⟨rfl, by decide +kernel, ⟨by decide +kernel, by decide +kernel⟩, by decide +kernel, by decide, ⟨tw_5 _ (List.mem_of_getElem? (i := 155) (by decide +kernel)), by decide +kernel⟩, ⟨tw_1 _ (List.mem_of_getElem? (i := 37) (by decide +kernel)), by decide +kernel⟩⟩
def mth_X8_wasGood : zMeth := (yX8_wasGood, cX8_wasGood, 1, (some .boolean), [])
theorem ok_X8_wasGood : zMok mth_X8_wasGood 0 := ⟨rfl, by decide +kernel, ⟨by decide +kernel, by decide +kernel⟩, by decide +kernel, by decide, ⟨tw_6 _ (List.mem_of_getElem? (i := 44) (by decide +kernel)), by decide +kernel⟩, ⟨tw_1 _ (List.mem_of_getElem? (i := 37) (by decide +kernel)), by decide +kernel⟩⟩
def mth_X8_tell : zMeth := (yX8_tell, cX8_tell, 2, (some .int), [])
theorem ok_X8_tell : zMok mth_X8_tell 1 := ⟨rfl, by decide +kernel, ⟨by decide +kernel, by decide +kernel⟩, by decide +kernel, by decide, ⟨tw_5 _ (List.mem_of_getElem? (i := 184) (by decide +kernel)), by decide +kernel⟩, ⟨tw_1 _ (List.mem_of_getElem? (i := 37) (by decide +kernel)), by decide +kernel⟩⟩
def mth_X9_init : zMeth := (yX9_init, cX9_init, 3, none, [])
theorem ok_X9_init : zMok mth_X9_init 2 := ⟨rfl, by decide +kernel, ⟨by decide +kernel, by decide +kernel⟩, by decide +kernel, by decide, ⟨tw_4 _ (List.mem_of_getElem? (i := 236) (by decide +kernel)), by decide +kernel⟩, ⟨tw_1 _ (List.mem_of_getElem? (i := 39) (by decide +kernel)), by decide +kernel⟩⟩
def mth_X9_fine : zMeth := (yX9_fine, cX9_fine, 3, none, [])
theorem ok_X9_fine : zMok mth_X9_fine 2 := ⟨rfl, by decide +kernel, ⟨by decide +kernel, by decide +kernel⟩, by decide +kernel, by decide, ⟨tw_5 _ (List.mem_of_getElem? (i := 99) (by decide +kernel)), by decide +kernel⟩, ⟨tw_1 _ (List.mem_of_getElem? (i := 39) (by decide +kernel)), by decide +kernel⟩⟩
def mth_X10_init : zMeth := (yX10_init, cX10_init, 1, none, [])
theorem ok_X10_init : zMok mth_X10_init 0 := ⟨rfl, by decide +kernel, ⟨by decide +kernel, by decide +kernel⟩, by decide +kernel, by decide, ⟨tw_1 _ (List.mem_of_getElem? (i := 147) (by decide +kernel)), by decide +kernel⟩, ⟨tw_1 _ (List.mem_of_getElem? (i := 8) (by decide +kernel)), by decide +kernel⟩⟩
def mth_X10_isRaining : zMeth := (yX10_isRaining, cX10_isRaining, 2, (some .boolean), [])
theorem ok_X10_isRaining : zMok mth_X10_isRaining 1 := ⟨rfl, by decide +kernel, ⟨by decide +kernel, by decide +kernel⟩, by decide +kernel, by decide, ⟨tw_5 _ (List.mem_of_getElem? (i := 123) (by decide +kernel)), by decide +kernel⟩, ⟨tw_1 _ (List.mem_of_getElem? (i := 8) (by decide +kernel)), by decide +kernel⟩⟩
def mth_X10_rainMinutes : zMeth := (yX10_rainMinutes, cX10_rainMinutes, 1, (some .int), [])
theorem ok_X10_rainMinutes : zMok mth_X10_rainMinutes 0 := ⟨rfl, by decide +kernel, ⟨by decide +kernel, by decide +kernel⟩, by decide +kernel, by decide, ⟨tw_4 _ (List.mem_of_getElem? (i := 209) (by decide +kernel)), by decide +kernel⟩, ⟨tw_1 _ (List.mem_of_getElem? (i := 8) (by decide +kernel)), by decide +kernel⟩⟩
def mth_X10_endRain : zMeth := (yX10_endRain, cX10_endRain, 1, none, [])
theorem ok_X10_endRain : zMok mth_X10_endRain 0 := ⟨rfl, by decide +kernel, ⟨by decide +kernel, by decide +kernel⟩, by decide +kernel, by decide, ⟨tw_5 _ (List.mem_of_getElem? (i := 234) (by decide +kernel)), by decide +kernel⟩, ⟨tw_1 _ (List.mem_of_getElem? (i := 8) (by decide +kernel)), by decide +kernel⟩⟩
def mth_X11_init : zMeth := (yX11_init, cX11_init, 1, none, [])
theorem ok_X11_init : zMok mth_X11_init 0 := ⟨rfl, by decide +kernel, ⟨by decide +kernel, by decide +kernel⟩, by decide +kernel, by decide, ⟨tw_1 _ (List.mem_of_getElem? (i := 49) (by decide +kernel)), by decide +kernel⟩, ⟨tw_1 _ (List.mem_of_getElem? (i := 1) (by decide +kernel)), by decide +kernel⟩⟩
def mth_X11_addPitch : zMeth := (yX11_addPitch, cX11_addPitch, 4, (some .int), [])
theorem ok_X11_addPitch : zMok mth_X11_addPitch 3 := ⟨rfl, by decide +kernel, ⟨by decide +kernel, by decide +kernel⟩, by decide +kernel, by decide, ⟨tw_2 _ (List.mem_of_getElem? (i := 131) (by decide +kernel)), by decide +kernel⟩, ⟨tw_1 _ (List.mem_of_getElem? (i := 1) (by decide +kernel)), by decide +kernel⟩⟩
def mth_X11_setPassers : zMeth := (yX11_setPassers, cX11_setPassers, 6, (some .int), [])
theorem ok_X11_setPassers : zMok mth_X11_setPassers 3 := ⟨rfl, by decide +kernel, ⟨by decide +kernel, by decide +kernel⟩, by decide +kernel, by decide, ⟨tw_3 _ (List.mem_of_getElem? (i := 146) (by decide +kernel)), by decide +kernel⟩, ⟨tw_1 _ (List.mem_of_getElem? (i := 1) (by decide +kernel)), by decide +kernel⟩⟩
def mth_X11_passersAt : zMeth := (yX11_passersAt, cX11_passersAt, 3, (some .int), [])
theorem ok_X11_passersAt : zMok mth_X11_passersAt 2 := ⟨rfl, by decide +kernel, ⟨by decide +kernel, by decide +kernel⟩, by decide +kernel, by decide, ⟨tw_3 _ (List.mem_of_getElem? (i := 171) (by decide +kernel)), by decide +kernel⟩, ⟨tw_1 _ (List.mem_of_getElem? (i := 1) (by decide +kernel)), by decide +kernel⟩⟩
def mth_X11_addAct : zMeth := (yX11_addAct, cX11_addAct, 7, (some .int), [])
theorem ok_X11_addAct : zMok mth_X11_addAct 5 := ⟨rfl, by decide +kernel, ⟨by decide +kernel, by decide +kernel⟩, by decide +kernel, by decide, ⟨tw_3 _ (List.mem_of_getElem? (i := 183) (by decide +kernel)), by decide +kernel⟩, ⟨tw_1 _ (List.mem_of_getElem? (i := 1) (by decide +kernel)), by decide +kernel⟩⟩
def mth_X11_setLine : zMeth := (yX11_setLine, cX11_setLine, 5, (some .int), [])
theorem ok_X11_setLine : zMok mth_X11_setLine 2 := ⟨rfl, by decide +kernel, ⟨by decide +kernel, by decide +kernel⟩, by decide +kernel, by decide, ⟨tw_3 _ (List.mem_of_getElem? (i := 238) (by decide +kernel)), by decide +kernel⟩, ⟨tw_1 _ (List.mem_of_getElem? (i := 1) (by decide +kernel)), by decide +kernel⟩⟩
def mth_X11_setPermit : zMeth := (yX11_setPermit, cX11_setPermit, 5, (some .boolean), [])
theorem ok_X11_setPermit : zMok mth_X11_setPermit 2 := ⟨rfl, by decide +kernel, ⟨by decide +kernel, by decide +kernel⟩, by decide +kernel, by decide, ⟨tw_4 _ (List.mem_of_getElem? (i := 10) (by decide +kernel)), by decide +kernel⟩, ⟨tw_1 _ (List.mem_of_getElem? (i := 1) (by decide +kernel)), by decide +kernel⟩⟩
def mth_X11_addCustom : zMeth := (yX11_addCustom, cX11_addCustom, 4, (some .boolean), [])
theorem ok_X11_addCustom : zMok mth_X11_addCustom 2 := ⟨rfl, by decide +kernel, ⟨by decide +kernel, by decide +kernel⟩, by decide +kernel, by decide, ⟨tw_4 _ (List.mem_of_getElem? (i := 17) (by decide +kernel)), by decide +kernel⟩, ⟨tw_1 _ (List.mem_of_getElem? (i := 1) (by decide +kernel)), by decide +kernel⟩⟩
def mth_X11_endCustom : zMeth := (yX11_endCustom, cX11_endCustom, 4, (some .boolean), [])
theorem ok_X11_endCustom : zMok mth_X11_endCustom 2 := ⟨rfl, by decide +kernel, ⟨by decide +kernel, by decide +kernel⟩, by decide +kernel, by decide, ⟨tw_4 _ (List.mem_of_getElem? (i := 42) (by decide +kernel)), by decide +kernel⟩, ⟨tw_1 _ (List.mem_of_getElem? (i := 1) (by decide +kernel)), by decide +kernel⟩⟩
def mth_X11_orders : zMeth := (yX11_orders, cX11_orders, 1, (some .int), [])
theorem ok_X11_orders : zMok mth_X11_orders 0 := ⟨rfl, by decide +kernel, ⟨by decide +kernel, by decide +kernel⟩, by decide +kernel, by decide, ⟨tw_2 _ (List.mem_of_getElem? (i := 20) (by decide +kernel)), by decide +kernel⟩, ⟨tw_1 _ (List.mem_of_getElem? (i := 1) (by decide +kernel)), by decide +kernel⟩⟩
def mth_X11_orderAt : zMeth := (yX11_orderAt, cX11_orderAt, 4, (some .int), [])
theorem ok_X11_orderAt : zMok mth_X11_orderAt 2 := ⟨rfl, by decide +kernel, ⟨by decide +kernel, by decide +kernel⟩, by decide +kernel, by decide, ⟨tw_4 _ (List.mem_of_getElem? (i := 54) (by decide +kernel)), by decide +kernel⟩, ⟨tw_1 _ (List.mem_of_getElem? (i := 1) (by decide +kernel)), by decide +kernel⟩⟩
def mth_X11_drawLots : zMeth := (yX11_drawLots, cX11_drawLots, 1, (some .int), [])
theorem ok_X11_drawLots : zMok mth_X11_drawLots 0 := ⟨rfl, by decide +kernel, ⟨by decide +kernel, by decide +kernel⟩, by decide +kernel, by decide, ⟨tw_2 _ (List.mem_of_getElem? (i := 40) (by decide +kernel)), by decide +kernel⟩, ⟨tw_1 _ (List.mem_of_getElem? (i := 1) (by decide +kernel)), by decide +kernel⟩⟩
def mth_X11_lotAt : zMeth := (yX11_lotAt, cX11_lotAt, 2, (some .int), [])
theorem ok_X11_lotAt : zMok mth_X11_lotAt 1 := ⟨rfl, by decide +kernel, ⟨by decide +kernel, by decide +kernel⟩, by decide +kernel, by decide, ⟨tw_4 _ (List.mem_of_getElem? (i := 82) (by decide +kernel)), by decide +kernel⟩, ⟨tw_1 _ (List.mem_of_getElem? (i := 1) (by decide +kernel)), by decide +kernel⟩⟩
def mth_X11_seed : zMeth := (yX11_seed, cX11_seed, 3, (some .int), [])
theorem ok_X11_seed : zMok mth_X11_seed 1 := ⟨rfl, by decide +kernel, ⟨by decide +kernel, by decide +kernel⟩, by decide +kernel, by decide, ⟨tw_4 _ (List.mem_of_getElem? (i := 90) (by decide +kernel)), by decide +kernel⟩, ⟨tw_1 _ (List.mem_of_getElem? (i := 1) (by decide +kernel)), by decide +kernel⟩⟩
def mth_X11_addTurn : zMeth := (yX11_addTurn, cX11_addTurn, 4, (some .int), [])
theorem ok_X11_addTurn : zMok mth_X11_addTurn 2 := ⟨rfl, by decide +kernel, ⟨by decide +kernel, by decide +kernel⟩, by decide +kernel, by decide, ⟨tw_4 _ (List.mem_of_getElem? (i := 98) (by decide +kernel)), by decide +kernel⟩, ⟨tw_1 _ (List.mem_of_getElem? (i := 1) (by decide +kernel)), by decide +kernel⟩⟩
def mth_X11_turnsByLots : zMeth := (yX11_turnsByLots, cX11_turnsByLots, 4, (some .int), [])
theorem ok_X11_turnsByLots : zMok mth_X11_turnsByLots 0 := ⟨rfl, by decide +kernel, ⟨by decide +kernel, by decide +kernel⟩, by decide +kernel, by decide, ⟨tw_4 _ (List.mem_of_getElem? (i := 162) (by decide +kernel)), by decide +kernel⟩, ⟨tw_1 _ (List.mem_of_getElem? (i := 1) (by decide +kernel)), by decide +kernel⟩⟩
def mth_X11_exchange : zMeth := (yX11_exchange, cX11_exchange, 7, (some .boolean), [])
theorem ok_X11_exchange : zMok mth_X11_exchange 3 := ⟨rfl, by decide +kernel, ⟨by decide +kernel, by decide +kernel⟩, by decide +kernel, by decide, ⟨tw_4 _ (List.mem_of_getElem? (i := 178) (by decide +kernel)), by decide +kernel⟩, ⟨tw_1 _ (List.mem_of_getElem? (i := 1) (by decide +kernel)), by decide +kernel⟩⟩
def mth_X11_turnAt : zMeth := (yX11_turnAt, cX11_turnAt, 4, (some .int), [])
theorem ok_X11_turnAt : zMok mth_X11_turnAt 2 := ⟨rfl, by decide +kernel, ⟨by decide +kernel, by decide +kernel⟩, by decide +kernel, by decide, ⟨tw_4 _ (List.mem_of_getElem? (i := 198) (by decide +kernel)), by decide +kernel⟩, ⟨tw_1 _ (List.mem_of_getElem? (i := 1) (by decide +kernel)), by decide +kernel⟩⟩
def mth_X11_setRain : zMeth := (yX11_setRain, cX11_setRain, 4, (some .int), [])
theorem ok_X11_setRain : zMok mth_X11_setRain 2 := ⟨rfl, by decide +kernel, ⟨by decide +kernel, by decide +kernel⟩, by decide +kernel, by decide, ⟨tw_4 _ (List.mem_of_getElem? (i := 205) (by decide +kernel)), by decide +kernel⟩, ⟨tw_1 _ (List.mem_of_getElem? (i := 1) (by decide +kernel)), by decide +kernel⟩⟩
def mth_X11_setCold : zMeth := (yX11_setCold, cX11_setCold, 3, (some .int), [])
theorem ok_X11_setCold : zMok mth_X11_setCold 1 := ⟨rfl, by decide +kernel, ⟨by decide +kernel, by decide +kernel⟩, by decide +kernel, by decide, ⟨tw_4 _ (List.mem_of_getElem? (i := 216) (by decide +kernel)), by decide +kernel⟩, ⟨tw_1 _ (List.mem_of_getElem? (i := 1) (by decide +kernel)), by decide +kernel⟩⟩
def mth_X11_setLaw : zMeth := (yX11_setLaw, cX11_setLaw, 4, (some .int), [])
theorem ok_X11_setLaw : zMok mth_X11_setLaw 2 := ⟨rfl, by decide +kernel, ⟨by decide +kernel, by decide +kernel⟩, by decide +kernel, by decide, ⟨tw_4 _ (List.mem_of_getElem? (i := 223) (by decide +kernel)), by decide +kernel⟩, ⟨tw_1 _ (List.mem_of_getElem? (i := 1) (by decide +kernel)), by decide +kernel⟩⟩
def mth_X11_addVisit : zMeth := (yX11_addVisit, cX11_addVisit, 3, (some .int), [])
theorem ok_X11_addVisit : zMok mth_X11_addVisit 2 := ⟨rfl, by decide +kernel, ⟨by decide +kernel, by decide +kernel⟩, by decide +kernel, by decide, ⟨tw_4 _ (List.mem_of_getElem? (i := 230) (by decide +kernel)), by decide +kernel⟩, ⟨tw_1 _ (List.mem_of_getElem? (i := 1) (by decide +kernel)), by decide +kernel⟩⟩
def mth_X11_join : zMeth := (yX11_join, cX11_join, 3, (some .int), [])
theorem ok_X11_join : zMok mth_X11_join 2 := ⟨rfl, by decide +kernel, ⟨by decide +kernel, by decide +kernel⟩, by decide +kernel, by decide, ⟨tw_5 _ (List.mem_of_getElem? (i := 22) (by decide +kernel)), by decide +kernel⟩, ⟨tw_1 _ (List.mem_of_getElem? (i := 1) (by decide +kernel)), by decide +kernel⟩⟩
def mth_X11_play : zMeth := (yX11_play, cX11_play, 1, (some .int), [])
theorem ok_X11_play : zMok mth_X11_play 0 := ⟨rfl, by decide +kernel, ⟨by decide +kernel, by decide +kernel⟩, by decide +kernel, by decide, ⟨tw_5 _ (List.mem_of_getElem? (i := 39) (by decide +kernel)), by decide +kernel⟩, ⟨tw_1 _ (List.mem_of_getElem? (i := 1) (by decide +kernel)), by decide +kernel⟩⟩
def mth_X11_of : zMeth := (yX11_of, cX11_of, 4, (some .int), [])
theorem ok_X11_of : zMok mth_X11_of 3 := ⟨rfl, by decide +kernel, ⟨by decide +kernel, by decide +kernel⟩, by decide +kernel, by decide, ⟨tw_5 _ (List.mem_of_getElem? (i := 166) (by decide +kernel)), by decide +kernel⟩, ⟨tw_1 _ (List.mem_of_getElem? (i := 1) (by decide +kernel)), by decide +kernel⟩⟩
def mth_X11_isBroken : zMeth := (yX11_isBroken, cX11_isBroken, 3, (some .boolean), [])
theorem ok_X11_isBroken : zMok mth_X11_isBroken 2 := ⟨rfl, by decide +kernel, ⟨by decide +kernel, by decide +kernel⟩, by decide +kernel, by decide, ⟨tw_5 _ (List.mem_of_getElem? (i := 191) (by decide +kernel)), by decide +kernel⟩, ⟨tw_1 _ (List.mem_of_getElem? (i := 1) (by decide +kernel)), by decide +kernel⟩⟩
def mth_X11_fineAt : zMeth := (yX11_fineAt, cX11_fineAt, 2, (some .char), [])
theorem ok_X11_fineAt : zMok mth_X11_fineAt 1 := ⟨rfl, by decide +kernel, ⟨by decide +kernel, by decide +kernel⟩, by decide +kernel, by decide, ⟨tw_5 _ (List.mem_of_getElem? (i := 198) (by decide +kernel)), by decide +kernel⟩, ⟨tw_1 _ (List.mem_of_getElem? (i := 1) (by decide +kernel)), by decide +kernel⟩⟩
def mth_X11_sumAt : zMeth := (yX11_sumAt, cX11_sumAt, 2, (some .int), [])
theorem ok_X11_sumAt : zMok mth_X11_sumAt 1 := ⟨rfl, by decide +kernel, ⟨by decide +kernel, by decide +kernel⟩, by decide +kernel, by decide, ⟨tw_5 _ (List.mem_of_getElem? (i := 210) (by decide +kernel)), by decide +kernel⟩, ⟨tw_1 _ (List.mem_of_getElem? (i := 1) (by decide +kernel)), by decide +kernel⟩⟩
def mth_X11_money : zMeth := (yX11_money, cX11_money, 2, (some .int), [])
theorem ok_X11_money : zMok mth_X11_money 1 := ⟨rfl, by decide +kernel, ⟨by decide +kernel, by decide +kernel⟩, by decide +kernel, by decide, ⟨tw_5 _ (List.mem_of_getElem? (i := 217) (by decide +kernel)), by decide +kernel⟩, ⟨tw_1 _ (List.mem_of_getElem? (i := 1) (by decide +kernel)), by decide +kernel⟩⟩
def mth_X11_fines : zMeth := (yX11_fines, cX11_fines, 1, (some .int), [])
theorem ok_X11_fines : zMok mth_X11_fines 0 := ⟨rfl, by decide +kernel, ⟨by decide +kernel, by decide +kernel⟩, by decide +kernel, by decide, ⟨tw_2 _ (List.mem_of_getElem? (i := 61) (by decide +kernel)), by decide +kernel⟩, ⟨tw_1 _ (List.mem_of_getElem? (i := 1) (by decide +kernel)), by decide +kernel⟩⟩
def mth_X11_nextDay : zMeth := (yX11_nextDay, cX11_nextDay, 1, (some .int), [])
theorem ok_X11_nextDay : zMok mth_X11_nextDay 0 := ⟨rfl, by decide +kernel, ⟨by decide +kernel, by decide +kernel⟩, by decide +kernel, by decide, ⟨tw_5 _ (List.mem_of_getElem? (i := 224) (by decide +kernel)), by decide +kernel⟩, ⟨tw_1 _ (List.mem_of_getElem? (i := 1) (by decide +kernel)), by decide +kernel⟩⟩
def mth_X11_diary : zMeth := (yX11_diary, cX11_diary, 2, (some .int), [])
theorem ok_X11_diary : zMok mth_X11_diary 1 := ⟨rfl, by decide +kernel, ⟨by decide +kernel, by decide +kernel⟩, by decide +kernel, by decide, ⟨tw_6 _ (List.mem_of_getElem? (i := 6) (by decide +kernel)), by decide +kernel⟩, ⟨tw_1 _ (List.mem_of_getElem? (i := 1) (by decide +kernel)), by decide +kernel⟩⟩
def mth_X11_checksum : zMeth := (yX11_checksum, cX11_checksum, 5, (some .long), [])
theorem ok_X11_checksum : zMok mth_X11_checksum 0 := ⟨rfl, by decide +kernel, ⟨by decide +kernel, by decide +kernel⟩, by decide +kernel, by decide, ⟨tw_2 _ (List.mem_of_getElem? (i := 65) (by decide +kernel)), by decide +kernel⟩, ⟨tw_1 _ (List.mem_of_getElem? (i := 1) (by decide +kernel)), by decide +kernel⟩⟩
def mth_X11_goodShare : zMeth := (yX11_goodShare, cX11_goodShare, 2, (some .float), [])
theorem ok_X11_goodShare : zMok mth_X11_goodShare 0 := ⟨rfl, by decide +kernel, ⟨by decide +kernel, by decide +kernel⟩, by decide +kernel, by decide, ⟨tw_6 _ (List.mem_of_getElem? (i := 28) (by decide +kernel)), by decide +kernel⟩, ⟨tw_1 _ (List.mem_of_getElem? (i := 1) (by decide +kernel)), by decide +kernel⟩⟩
def mth_X11_meanMoney : zMeth := (yX11_meanMoney, cX11_meanMoney, 2, (some .double), [])
theorem ok_X11_meanMoney : zMok mth_X11_meanMoney 0 := ⟨rfl, by decide +kernel, ⟨by decide +kernel, by decide +kernel⟩, by decide +kernel, by decide, ⟨tw_6 _ (List.mem_of_getElem? (i := 51) (by decide +kernel)), by decide +kernel⟩, ⟨tw_1 _ (List.mem_of_getElem? (i := 1) (by decide +kernel)), by decide +kernel⟩⟩
def mth_X11_isSound : zMeth := (yX11_isSound, cX11_isSound, 1, (some .boolean), [])
theorem ok_X11_isSound : zMok mth_X11_isSound 0 := ⟨rfl, by decide +kernel, ⟨by decide +kernel, by decide +kernel⟩, by decide +kernel, by decide, ⟨tw_2 _ (List.mem_of_getElem? (i := 87) (by decide +kernel)), by decide +kernel⟩, ⟨tw_1 _ (List.mem_of_getElem? (i := 1) (by decide +kernel)), by decide +kernel⟩⟩
def mth_X11_isIndex : zMeth := (yX11_isIndex, cX11_isIndex, 2, (some .boolean), [])
theorem ok_X11_isIndex : zMok mth_X11_isIndex 2 := ⟨rfl, by decide +kernel, ⟨by decide +kernel, by decide +kernel⟩, by decide +kernel, by decide, ⟨tw_2 _ (List.mem_of_getElem? (i := 113) (by decide +kernel)), by decide +kernel⟩, ⟨tw_1 _ (List.mem_of_getElem? (i := 1) (by decide +kernel)), by decide +kernel⟩⟩
def mth_X11_requireRange : zMeth := (yX11_requireRange, cX11_requireRange, 3, none, [])
theorem ok_X11_requireRange : zMok mth_X11_requireRange 3 := ⟨rfl, by decide +kernel, ⟨by decide +kernel, by decide +kernel⟩, by decide +kernel, by decide, ⟨tw_2 _ (List.mem_of_getElem? (i := 134) (by decide +kernel)), by decide +kernel⟩, ⟨tw_1 _ (List.mem_of_getElem? (i := 1) (by decide +kernel)), by decide +kernel⟩⟩
def mth_X11_requireThing : zMeth := (yX11_requireThing, cX11_requireThing, 1, none, [])
theorem ok_X11_requireThing : zMok mth_X11_requireThing 1 := ⟨rfl, by decide +kernel, ⟨by decide +kernel, by decide +kernel⟩, by decide +kernel, by decide, ⟨tw_5 _ (List.mem_of_getElem? (i := 169) (by decide +kernel)), by decide +kernel⟩, ⟨tw_1 _ (List.mem_of_getElem? (i := 1) (by decide +kernel)), by decide +kernel⟩⟩
def mth_X11_requirePitch : zMeth := (yX11_requirePitch, cX11_requirePitch, 2, none, [])
theorem ok_X11_requirePitch : zMok mth_X11_requirePitch 1 := ⟨rfl, by decide +kernel, ⟨by decide +kernel, by decide +kernel⟩, by decide +kernel, by decide, ⟨tw_3 _ (List.mem_of_getElem? (i := 150) (by decide +kernel)), by decide +kernel⟩, ⟨tw_1 _ (List.mem_of_getElem? (i := 1) (by decide +kernel)), by decide +kernel⟩⟩
def mth_X11_requireAct : zMeth := (yX11_requireAct, cX11_requireAct, 2, none, [])
theorem ok_X11_requireAct : zMok mth_X11_requireAct 1 := ⟨rfl, by decide +kernel, ⟨by decide +kernel, by decide +kernel⟩, by decide +kernel, by decide, ⟨tw_4 _ (List.mem_of_getElem? (i := 2) (by decide +kernel)), by decide +kernel⟩, ⟨tw_1 _ (List.mem_of_getElem? (i := 1) (by decide +kernel)), by decide +kernel⟩⟩
def mth_X11_requireTwoActs : zMeth := (yX11_requireTwoActs, cX11_requireTwoActs, 3, none, [])
theorem ok_X11_requireTwoActs : zMok mth_X11_requireTwoActs 2 := ⟨rfl, by decide +kernel, ⟨by decide +kernel, by decide +kernel⟩, by decide +kernel, by decide, ⟨tw_4 _ (List.mem_of_getElem? (i := 21) (by decide +kernel)), by decide +kernel⟩, ⟨tw_1 _ (List.mem_of_getElem? (i := 1) (by decide +kernel)), by decide +kernel⟩⟩
def mth_X11_requireNotPlayed : zMeth := (yX11_requireNotPlayed, cX11_requireNotPlayed, 1, none, [])
theorem ok_X11_requireNotPlayed : zMok mth_X11_requireNotPlayed 0 := ⟨rfl, by decide +kernel, ⟨by decide +kernel, by decide +kernel⟩, by decide +kernel, by decide, ⟨tw_4 _ (List.mem_of_getElem? (i := 102) (by decide +kernel)), by decide +kernel⟩, ⟨tw_1 _ (List.mem_of_getElem? (i := 1) (by decide +kernel)), by decide +kernel⟩⟩
def mth_X11_requirePlayed : zMeth := (yX11_requirePlayed, cX11_requirePlayed, 1, none, [])
theorem ok_X11_requirePlayed : zMok mth_X11_requirePlayed 0 := ⟨rfl, by decide +kernel, ⟨by decide +kernel, by decide +kernel⟩, by decide +kernel, by decide, ⟨tw_5 _ (List.mem_of_getElem? (i := 174) (by decide +kernel)), by decide +kernel⟩, ⟨tw_1 _ (List.mem_of_getElem? (i := 1) (by decide +kernel)), by decide +kernel⟩⟩
def mth_X11_requirePlayedTurn : zMeth := (yX11_requirePlayedTurn, cX11_requirePlayedTurn, 4, none, [])
theorem ok_X11_requirePlayedTurn : zMok mth_X11_requirePlayedTurn 2 := ⟨rfl, by decide +kernel, ⟨by decide +kernel, by decide +kernel⟩, by decide +kernel, by decide, ⟨tw_5 _ (List.mem_of_getElem? (i := 179) (by decide +kernel)), by decide +kernel⟩, ⟨tw_1 _ (List.mem_of_getElem? (i := 1) (by decide +kernel)), by decide +kernel⟩⟩
def mth_X11_requireVisit : zMeth := (yX11_requireVisit, cX11_requireVisit, 2, none, [])
theorem ok_X11_requireVisit : zMok mth_X11_requireVisit 1 := ⟨rfl, by decide +kernel, ⟨by decide +kernel, by decide +kernel⟩, by decide +kernel, by decide, ⟨tw_5 _ (List.mem_of_getElem? (i := 202) (by decide +kernel)), by decide +kernel⟩, ⟨tw_1 _ (List.mem_of_getElem? (i := 1) (by decide +kernel)), by decide +kernel⟩⟩
def mth_X11_allowsExchange : zMeth := (yX11_allowsExchange, cX11_allowsExchange, 7, (some .boolean), [])
theorem ok_X11_allowsExchange : zMok mth_X11_allowsExchange 3 := ⟨rfl, by decide +kernel, ⟨by decide +kernel, by decide +kernel⟩, by decide +kernel, by decide, ⟨tw_4 _ (List.mem_of_getElem? (i := 183) (by decide +kernel)), by decide +kernel⟩, ⟨tw_1 _ (List.mem_of_getElem? (i := 1) (by decide +kernel)), by decide +kernel⟩⟩
def mth_X11_exchanged : zMeth := (yX11_exchanged, cX11_exchanged, 3, (some .int), [])
theorem ok_X11_exchanged : zMok mth_X11_exchanged 3 := ⟨rfl, by decide +kernel, ⟨by decide +kernel, by decide +kernel⟩, by decide +kernel, by decide, ⟨tw_4 _ (List.mem_of_getElem? (i := 186) (by decide +kernel)), by decide +kernel⟩, ⟨tw_1 _ (List.mem_of_getElem? (i := 1) (by decide +kernel)), by decide +kernel⟩⟩
def mth_X12_init : zMeth := (yX12_init, cX12_init, 7, none, [])
theorem ok_X12_init : zMok mth_X12_init 6 := ⟨rfl, by decide +kernel, ⟨by decide +kernel, by decide +kernel⟩, by decide +kernel, by decide, ⟨tw_7 _ (List.mem_of_getElem? (i := 11) (by decide +kernel)), by decide +kernel⟩, ⟨tw_1 _ (List.mem_of_getElem? (i := 33) (by decide +kernel)), by decide +kernel⟩⟩
def mth_X13_init : zMeth := (yX13_init, cX13_init, 4, none, [])
theorem ok_X13_init : zMok mth_X13_init 3 := ⟨rfl, by decide +kernel, ⟨by decide +kernel, by decide +kernel⟩, by decide +kernel, by decide, ⟨tw_6 _ (List.mem_of_getElem? (i := 194) (by decide +kernel)), by decide +kernel⟩, ⟨tw_1 _ (List.mem_of_getElem? (i := 28) (by decide +kernel)), by decide +kernel⟩⟩
def mth_X13_passers : zMeth := (yX13_passers, cX13_passers, 4, (some .int), [])
theorem ok_X13_passers : zMok mth_X13_passers 1 := ⟨rfl, by decide +kernel, ⟨by decide +kernel, by decide +kernel⟩, by decide +kernel, by decide, ⟨tw_7 _ (List.mem_of_getElem? (i := 0) (by decide +kernel)), by decide +kernel⟩, ⟨tw_1 _ (List.mem_of_getElem? (i := 28) (by decide +kernel)), by decide +kernel⟩⟩
def mth_X13_at : zMeth := (yX13_at, cX13_at, 4, (some (.object "HatpitchModel$Turn")), [])
theorem ok_X13_at : zMok mth_X13_at 1 := ⟨rfl, by decide +kernel, ⟨by decide +kernel, by decide +kernel⟩, by decide +kernel, by decide, ⟨tw_8 _ (List.mem_of_getElem? (i := 36) (by decide +kernel)), by decide +kernel⟩, ⟨tw_1 _ (List.mem_of_getElem? (i := 28) (by decide +kernel)), by decide +kernel⟩⟩
def mth_X14_init : zMeth := (yX14_init, cX14_init, 2, none, [])
theorem ok_X14_init : zMok mth_X14_init 1 := ⟨rfl, by decide +kernel, ⟨by decide +kernel, by decide +kernel⟩, by decide +kernel, by decide, ⟨tw_7 _ (List.mem_of_getElem? (i := 137) (by decide +kernel)), by decide +kernel⟩, ⟨tw_1 _ (List.mem_of_getElem? (i := 38) (by decide +kernel)), by decide +kernel⟩⟩
def mth_X15_init : zMeth := (yX15_init, cX15_init, 3, none, [])
theorem ok_X15_init : zMok mth_X15_init 2 := ⟨rfl, by decide +kernel, ⟨by decide +kernel, by decide +kernel⟩, by decide +kernel, by decide, ⟨tw_7 _ (List.mem_of_getElem? (i := 235) (by decide +kernel)), by decide +kernel⟩, ⟨tw_1 _ (List.mem_of_getElem? (i := 40) (by decide +kernel)), by decide +kernel⟩⟩
def mth_X16_in : zMeth := (yX16_in, cX16_in, 6, (some .boolean), [])
theorem ok_X16_in : zMok mth_X16_in 3 := ⟨rfl, by decide +kernel, ⟨by decide +kernel, by decide +kernel⟩, by decide +kernel, by decide, ⟨tw_6 _ (List.mem_of_getElem? (i := 188) (by decide +kernel)), by decide +kernel⟩, ⟨tw_1 _ (List.mem_of_getElem? (i := 12) (by decide +kernel)), by decide +kernel⟩⟩
def mth_X16_init : zMeth := (yX16_init, cX16_init, 1, none, [])
theorem ok_X16_init : zMok mth_X16_init 0 := ⟨rfl, by decide +kernel, ⟨by decide +kernel, by decide +kernel⟩, by decide +kernel, by decide, ⟨tw_6 _ (List.mem_of_getElem? (i := 57) (by decide +kernel)), by decide +kernel⟩, ⟨tw_1 _ (List.mem_of_getElem? (i := 12) (by decide +kernel)), by decide +kernel⟩⟩
def mth_X16_thrown : zMeth := (yX16_thrown, cX16_thrown, 1, (some .int), [])
theorem ok_X16_thrown : zMok mth_X16_thrown 0 := ⟨rfl, by decide +kernel, ⟨by decide +kernel, by decide +kernel⟩, by decide +kernel, by decide, ⟨tw_6 _ (List.mem_of_getElem? (i := 122) (by decide +kernel)), by decide +kernel⟩, ⟨tw_1 _ (List.mem_of_getElem? (i := 12) (by decide +kernel)), by decide +kernel⟩⟩
def mth_X16_isPitch : zMeth := (yX16_isPitch, cX16_isPitch, 2, (some .boolean), [])
theorem ok_X16_isPitch : zMok mth_X16_isPitch 1 := ⟨rfl, by decide +kernel, ⟨by decide +kernel, by decide +kernel⟩, by decide +kernel, by decide, ⟨tw_6 _ (List.mem_of_getElem? (i := 227) (by decide +kernel)), by decide +kernel⟩, ⟨tw_1 _ (List.mem_of_getElem? (i := 12) (by decide +kernel)), by decide +kernel⟩⟩
def mth_X16_isAct : zMeth := (yX16_isAct, cX16_isAct, 2, (some .boolean), [])
theorem ok_X16_isAct : zMok mth_X16_isAct 1 := ⟨rfl, by decide +kernel, ⟨by decide +kernel, by decide +kernel⟩, by decide +kernel, by decide, ⟨tw_7 _ (List.mem_of_getElem? (i := 55) (by decide +kernel)), by decide +kernel⟩, ⟨tw_1 _ (List.mem_of_getElem? (i := 12) (by decide +kernel)), by decide +kernel⟩⟩
def mth_X16_addPitch : zMeth := (yX16_addPitch, cX16_addPitch, 7, (some .int), [])
theorem ok_X16_addPitch : zMok mth_X16_addPitch 3 := ⟨rfl, by decide +kernel, ⟨by decide +kernel, by decide +kernel⟩, by decide +kernel, by decide, ⟨tw_6 _ (List.mem_of_getElem? (i := 126) (by decide +kernel)), by decide +kernel⟩, ⟨tw_1 _ (List.mem_of_getElem? (i := 12) (by decide +kernel)), by decide +kernel⟩⟩
def mth_X16_setPassers : zMeth := (yX16_setPassers, cX16_setPassers, 5, (some .int), [])
theorem ok_X16_setPassers : zMok mth_X16_setPassers 3 := ⟨rfl, by decide +kernel, ⟨by decide +kernel, by decide +kernel⟩, by decide +kernel, by decide, ⟨tw_6 _ (List.mem_of_getElem? (i := 223) (by decide +kernel)), by decide +kernel⟩, ⟨tw_1 _ (List.mem_of_getElem? (i := 12) (by decide +kernel)), by decide +kernel⟩⟩
def mth_X16_passersAt : zMeth := (yX16_passersAt, cX16_passersAt, 3, (some .int), [])
theorem ok_X16_passersAt : zMok mth_X16_passersAt 2 := ⟨rfl, by decide +kernel, ⟨by decide +kernel, by decide +kernel⟩, by decide +kernel, by decide, ⟨tw_6 _ (List.mem_of_getElem? (i := 235) (by decide +kernel)), by decide +kernel⟩, ⟨tw_1 _ (List.mem_of_getElem? (i := 12) (by decide +kernel)), by decide +kernel⟩⟩
def mth_X16_addAct : zMeth := (yX16_addAct, cX16_addAct, 7, (some .int), [])
theorem ok_X16_addAct : zMok mth_X16_addAct 5 := ⟨rfl, by decide +kernel, ⟨by decide +kernel, by decide +kernel⟩, by decide +kernel, by decide, ⟨tw_7 _ (List.mem_of_getElem? (i := 4) (by decide +kernel)), by decide +kernel⟩, ⟨tw_1 _ (List.mem_of_getElem? (i := 12) (by decide +kernel)), by decide +kernel⟩⟩
def mth_X16_noAct : zMeth := (yX16_noAct, cX16_noAct, 2, (some .boolean), [])
theorem ok_X16_noAct : zMok mth_X16_noAct 1 := ⟨rfl, by decide +kernel, ⟨by decide +kernel, by decide +kernel⟩, by decide +kernel, by decide, ⟨tw_7 _ (List.mem_of_getElem? (i := 51) (by decide +kernel)), by decide +kernel⟩, ⟨tw_1 _ (List.mem_of_getElem? (i := 12) (by decide +kernel)), by decide +kernel⟩⟩
def mth_X16_setLine : zMeth := (yX16_setLine, cX16_setLine, 4, (some .int), [])
theorem ok_X16_setLine : zMok mth_X16_setLine 2 := ⟨rfl, by decide +kernel, ⟨by decide +kernel, by decide +kernel⟩, by decide +kernel, by decide, ⟨tw_7 _ (List.mem_of_getElem? (i := 47) (by decide +kernel)), by decide +kernel⟩, ⟨tw_1 _ (List.mem_of_getElem? (i := 12) (by decide +kernel)), by decide +kernel⟩⟩
def mth_X16_setPermit : zMeth := (yX16_setPermit, cX16_setPermit, 4, (some .boolean), [])
theorem ok_X16_setPermit : zMok mth_X16_setPermit 2 := ⟨rfl, by decide +kernel, ⟨by decide +kernel, by decide +kernel⟩, by decide +kernel, by decide, ⟨tw_7 _ (List.mem_of_getElem? (i := 59) (by decide +kernel)), by decide +kernel⟩, ⟨tw_1 _ (List.mem_of_getElem? (i := 12) (by decide +kernel)), by decide +kernel⟩⟩
def mth_X16_comesAhead : zMeth := (yX16_comesAhead, cX16_comesAhead, 5, (some .boolean), [])
theorem ok_X16_comesAhead : zMok mth_X16_comesAhead 2 := ⟨rfl, by decide +kernel, ⟨by decide +kernel, by decide +kernel⟩, by decide +kernel, by decide, ⟨tw_7 _ (List.mem_of_getElem? (i := 67) (by decide +kernel)), by decide +kernel⟩, ⟨tw_1 _ (List.mem_of_getElem? (i := 12) (by decide +kernel)), by decide +kernel⟩⟩
def mth_X16_addCustom : zMeth := (yX16_addCustom, cX16_addCustom, 4, (some .boolean), [])
theorem ok_X16_addCustom : zMok mth_X16_addCustom 2 := ⟨rfl, by decide +kernel, ⟨by decide +kernel, by decide +kernel⟩, by decide +kernel, by decide, ⟨tw_7 _ (List.mem_of_getElem? (i := 63) (by decide +kernel)), by decide +kernel⟩, ⟨tw_1 _ (List.mem_of_getElem? (i := 12) (by decide +kernel)), by decide +kernel⟩⟩
def mth_X16_endCustom : zMeth := (yX16_endCustom, cX16_endCustom, 4, (some .boolean), [])
theorem ok_X16_endCustom : zMok mth_X16_endCustom 2 := ⟨rfl, by decide +kernel, ⟨by decide +kernel, by decide +kernel⟩, by decide +kernel, by decide, ⟨tw_7 _ (List.mem_of_getElem? (i := 71) (by decide +kernel)), by decide +kernel⟩, ⟨tw_1 _ (List.mem_of_getElem? (i := 12) (by decide +kernel)), by decide +kernel⟩⟩
def mth_X16_isFree : zMeth := (yX16_isFree, cX16_isFree, 5, (some .boolean), [])
theorem ok_X16_isFree : zMok mth_X16_isFree 2 := ⟨rfl, by decide +kernel, ⟨by decide +kernel, by decide +kernel⟩, by decide +kernel, by decide, ⟨tw_7 _ (List.mem_of_getElem? (i := 83) (by decide +kernel)), by decide +kernel⟩, ⟨tw_1 _ (List.mem_of_getElem? (i := 12) (by decide +kernel)), by decide +kernel⟩⟩
def mth_X16_counts : zMeth := (yX16_counts, cX16_counts, 4, (some (.array .int)), [])
theorem ok_X16_counts : zMok mth_X16_counts 0 := ⟨rfl, by decide +kernel, ⟨by decide +kernel, by decide +kernel⟩, by decide +kernel, by decide, ⟨tw_7 _ (List.mem_of_getElem? (i := 79) (by decide +kernel)), by decide +kernel⟩, ⟨tw_1 _ (List.mem_of_getElem? (i := 12) (by decide +kernel)), by decide +kernel⟩⟩
def mth_X16_orders : zMeth := (yX16_orders, cX16_orders, 1, (some .int), [])
theorem ok_X16_orders : zMok mth_X16_orders 0 := ⟨rfl, by decide +kernel, ⟨by decide +kernel, by decide +kernel⟩, by decide +kernel, by decide, ⟨tw_7 _ (List.mem_of_getElem? (i := 75) (by decide +kernel)), by decide +kernel⟩, ⟨tw_1 _ (List.mem_of_getElem? (i := 12) (by decide +kernel)), by decide +kernel⟩⟩
def mth_X16_orderAt : zMeth := (yX16_orderAt, cX16_orderAt, 9, (some .int), [])
theorem ok_X16_orderAt : zMok mth_X16_orderAt 2 := ⟨rfl, by decide +kernel, ⟨by decide +kernel, by decide +kernel⟩, by decide +kernel, by decide, ⟨tw_7 _ (List.mem_of_getElem? (i := 87) (by decide +kernel)), by decide +kernel⟩, ⟨tw_1 _ (List.mem_of_getElem? (i := 12) (by decide +kernel)), by decide +kernel⟩⟩
def mth_X16_drawLots : zMeth := (yX16_drawLots, cX16_drawLots, 5, (some .int), [])
theorem ok_X16_drawLots : zMok mth_X16_drawLots 0 := ⟨rfl, by decide +kernel, ⟨by decide +kernel, by decide +kernel⟩, by decide +kernel, by decide, ⟨tw_7 _ (List.mem_of_getElem? (i := 91) (by decide +kernel)), by decide +kernel⟩, ⟨tw_1 _ (List.mem_of_getElem? (i := 12) (by decide +kernel)), by decide +kernel⟩⟩
def mth_X16_lotAt : zMeth := (yX16_lotAt, cX16_lotAt, 2, (some .int), [])
theorem ok_X16_lotAt : zMok mth_X16_lotAt 1 := ⟨rfl, by decide +kernel, ⟨by decide +kernel, by decide +kernel⟩, by decide +kernel, by decide, ⟨tw_7 _ (List.mem_of_getElem? (i := 123) (by decide +kernel)), by decide +kernel⟩, ⟨tw_1 _ (List.mem_of_getElem? (i := 12) (by decide +kernel)), by decide +kernel⟩⟩
def mth_X16_seed : zMeth := (yX16_seed, cX16_seed, 3, (some .int), [])
theorem ok_X16_seed : zMok mth_X16_seed 1 := ⟨rfl, by decide +kernel, ⟨by decide +kernel, by decide +kernel⟩, by decide +kernel, by decide, ⟨tw_7 _ (List.mem_of_getElem? (i := 127) (by decide +kernel)), by decide +kernel⟩, ⟨tw_1 _ (List.mem_of_getElem? (i := 12) (by decide +kernel)), by decide +kernel⟩⟩
def mth_X16_addTurn : zMeth := (yX16_addTurn, cX16_addTurn, 7, (some .int), [])
theorem ok_X16_addTurn : zMok mth_X16_addTurn 2 := ⟨rfl, by decide +kernel, ⟨by decide +kernel, by decide +kernel⟩, by decide +kernel, by decide, ⟨tw_7 _ (List.mem_of_getElem? (i := 132) (by decide +kernel)), by decide +kernel⟩, ⟨tw_1 _ (List.mem_of_getElem? (i := 12) (by decide +kernel)), by decide +kernel⟩⟩
def mth_X16_turnsByLots : zMeth := (yX16_turnsByLots, cX16_turnsByLots, 3, (some .int), [])
theorem ok_X16_turnsByLots : zMok mth_X16_turnsByLots 0 := ⟨rfl, by decide +kernel, ⟨by decide +kernel, by decide +kernel⟩, by decide +kernel, by decide, ⟨tw_7 _ (List.mem_of_getElem? (i := 171) (by decide +kernel)), by decide +kernel⟩, ⟨tw_1 _ (List.mem_of_getElem? (i := 12) (by decide +kernel)), by decide +kernel⟩⟩
def mth_X16_exchange : zMeth := (yX16_exchange, cX16_exchange, 12, (some .boolean), [])
theorem ok_X16_exchange : zMok mth_X16_exchange 3 := ⟨rfl, by decide +kernel, ⟨by decide +kernel, by decide +kernel⟩, by decide +kernel, by decide, ⟨tw_7 _ (List.mem_of_getElem? (i := 179) (by decide +kernel)), by decide +kernel⟩, ⟨tw_1 _ (List.mem_of_getElem? (i := 12) (by decide +kernel)), by decide +kernel⟩⟩
def mth_X16_turnAt : zMeth := (yX16_turnAt, cX16_turnAt, 3, (some .int), [])
theorem ok_X16_turnAt : zMok mth_X16_turnAt 2 := ⟨rfl, by decide +kernel, ⟨by decide +kernel, by decide +kernel⟩, by decide +kernel, by decide, ⟨tw_7 _ (List.mem_of_getElem? (i := 213) (by decide +kernel)), by decide +kernel⟩, ⟨tw_1 _ (List.mem_of_getElem? (i := 12) (by decide +kernel)), by decide +kernel⟩⟩
def mth_X16_setRain : zMeth := (yX16_setRain, cX16_setRain, 4, (some .int), [])
theorem ok_X16_setRain : zMok mth_X16_setRain 2 := ⟨rfl, by decide +kernel, ⟨by decide +kernel, by decide +kernel⟩, by decide +kernel, by decide, ⟨tw_7 _ (List.mem_of_getElem? (i := 217) (by decide +kernel)), by decide +kernel⟩, ⟨tw_1 _ (List.mem_of_getElem? (i := 12) (by decide +kernel)), by decide +kernel⟩⟩
def mth_X16_setCold : zMeth := (yX16_setCold, cX16_setCold, 3, (some .int), [])
theorem ok_X16_setCold : zMok mth_X16_setCold 1 := ⟨rfl, by decide +kernel, ⟨by decide +kernel, by decide +kernel⟩, by decide +kernel, by decide, ⟨tw_7 _ (List.mem_of_getElem? (i := 221) (by decide +kernel)), by decide +kernel⟩, ⟨tw_1 _ (List.mem_of_getElem? (i := 12) (by decide +kernel)), by decide +kernel⟩⟩
def mth_X16_setLaw : zMeth := (yX16_setLaw, cX16_setLaw, 4, (some .int), [])
theorem ok_X16_setLaw : zMok mth_X16_setLaw 2 := ⟨rfl, by decide +kernel, ⟨by decide +kernel, by decide +kernel⟩, by decide +kernel, by decide, ⟨tw_7 _ (List.mem_of_getElem? (i := 226) (by decide +kernel)), by decide +kernel⟩, ⟨tw_1 _ (List.mem_of_getElem? (i := 12) (by decide +kernel)), by decide +kernel⟩⟩
def mth_X16_addVisit : zMeth := (yX16_addVisit, cX16_addVisit, 3, (some .int), [])
theorem ok_X16_addVisit : zMok mth_X16_addVisit 2 := ⟨rfl, by decide +kernel, ⟨by decide +kernel, by decide +kernel⟩, by decide +kernel, by decide, ⟨tw_7 _ (List.mem_of_getElem? (i := 230) (by decide +kernel)), by decide +kernel⟩, ⟨tw_1 _ (List.mem_of_getElem? (i := 12) (by decide +kernel)), by decide +kernel⟩⟩
def mth_X16_partners : zMeth := (yX16_partners, cX16_partners, 5, (some .int), [])
theorem ok_X16_partners : zMok mth_X16_partners 1 := ⟨rfl, by decide +kernel, ⟨by decide +kernel, by decide +kernel⟩, by decide +kernel, by decide, ⟨tw_8 _ (List.mem_of_getElem? (i := 20) (by decide +kernel)), by decide +kernel⟩, ⟨tw_1 _ (List.mem_of_getElem? (i := 12) (by decide +kernel)), by decide +kernel⟩⟩
def mth_X16_join : zMeth := (yX16_join, cX16_join, 6, (some .int), [])
theorem ok_X16_join : zMok mth_X16_join 2 := ⟨rfl, by decide +kernel, ⟨by decide +kernel, by decide +kernel⟩, by decide +kernel, by decide, ⟨tw_8 _ (List.mem_of_getElem? (i := 16) (by decide +kernel)), by decide +kernel⟩, ⟨tw_1 _ (List.mem_of_getElem? (i := 12) (by decide +kernel)), by decide +kernel⟩⟩
def mth_X16_rains : zMeth := (yX16_rains, cX16_rains, 2, (some .boolean), [])
theorem ok_X16_rains : zMok mth_X16_rains 1 := ⟨rfl, by decide +kernel, ⟨by decide +kernel, by decide +kernel⟩, by decide +kernel, by decide, ⟨tw_8 _ (List.mem_of_getElem? (i := 53) (by decide +kernel)), by decide +kernel⟩, ⟨tw_1 _ (List.mem_of_getElem? (i := 12) (by decide +kernel)), by decide +kernel⟩⟩
def mth_X16_begins : zMeth := (yX16_begins, cX16_begins, 7, none, [])
theorem ok_X16_begins : zMok mth_X16_begins 2 := ⟨rfl, by decide +kernel, ⟨by decide +kernel, by decide +kernel⟩, by decide +kernel, by decide, ⟨tw_8 _ (List.mem_of_getElem? (i := 28) (by decide +kernel)), by decide +kernel⟩, ⟨tw_1 _ (List.mem_of_getElem? (i := 12) (by decide +kernel)), by decide +kernel⟩⟩
def mth_X16_visits : zMeth := (yX16_visits, cX16_visits, 10, none, [])
theorem ok_X16_visits : zMok mth_X16_visits 1 := ⟨rfl, by decide +kernel, ⟨by decide +kernel, by decide +kernel⟩, by decide +kernel, by decide, ⟨tw_8 _ (List.mem_of_getElem? (i := 32) (by decide +kernel)), by decide +kernel⟩, ⟨tw_1 _ (List.mem_of_getElem? (i := 12) (by decide +kernel)), by decide +kernel⟩⟩
def mth_X16_isDrowned : zMeth := (yX16_isDrowned, cX16_isDrowned, 9, (some .boolean), [])
theorem ok_X16_isDrowned : zMok mth_X16_isDrowned 3 := ⟨rfl, by decide +kernel, ⟨by decide +kernel, by decide +kernel⟩, by decide +kernel, by decide, ⟨tw_8 _ (List.mem_of_getElem? (i := 45) (by decide +kernel)), by decide +kernel⟩, ⟨tw_1 _ (List.mem_of_getElem? (i := 12) (by decide +kernel)), by decide +kernel⟩⟩
def mth_X16_gives : zMeth := (yX16_gives, cX16_gives, 9, none, [])
theorem ok_X16_gives : zMok mth_X16_gives 3 := ⟨rfl, by decide +kernel, ⟨by decide +kernel, by decide +kernel⟩, by decide +kernel, by decide, ⟨tw_8 _ (List.mem_of_getElem? (i := 59) (by decide +kernel)), by decide +kernel⟩, ⟨tw_1 _ (List.mem_of_getElem? (i := 12) (by decide +kernel)), by decide +kernel⟩⟩
def mth_X16_goesOn : zMeth := (yX16_goesOn, cX16_goesOn, 9, none, [])
theorem ok_X16_goesOn : zMok mth_X16_goesOn 4 := ⟨rfl, by decide +kernel, ⟨by decide +kernel, by decide +kernel⟩, by decide +kernel, by decide, ⟨tw_8 _ (List.mem_of_getElem? (i := 49) (by decide +kernel)), by decide +kernel⟩, ⟨tw_1 _ (List.mem_of_getElem? (i := 12) (by decide +kernel)), by decide +kernel⟩⟩
def mth_X16_play : zMeth := (yX16_play, cX16_play, 5, (some .int), [])
theorem ok_X16_play : zMok mth_X16_play 0 := ⟨rfl, by decide +kernel, ⟨by decide +kernel, by decide +kernel⟩, by decide +kernel, by decide, ⟨tw_8 _ (List.mem_of_getElem? (i := 24) (by decide +kernel)), by decide +kernel⟩, ⟨tw_1 _ (List.mem_of_getElem? (i := 12) (by decide +kernel)), by decide +kernel⟩⟩
def mth_X16_played : zMeth := (yX16_played, cX16_played, 5, (some (.object "HatpitchModel$Turn")), [])
theorem ok_X16_played : zMok mth_X16_played 3 := ⟨rfl, by decide +kernel, ⟨by decide +kernel, by decide +kernel⟩, by decide +kernel, by decide, ⟨tw_8 _ (List.mem_of_getElem? (i := 150) (by decide +kernel)), by decide +kernel⟩, ⟨tw_1 _ (List.mem_of_getElem? (i := 12) (by decide +kernel)), by decide +kernel⟩⟩
def mth_X16_of : zMeth := (yX16_of, cX16_of, 5, (some .int), [])
theorem ok_X16_of : zMok mth_X16_of 3 := ⟨rfl, by decide +kernel, ⟨by decide +kernel, by decide +kernel⟩, by decide +kernel, by decide, ⟨tw_8 _ (List.mem_of_getElem? (i := 63) (by decide +kernel)), by decide +kernel⟩, ⟨tw_1 _ (List.mem_of_getElem? (i := 12) (by decide +kernel)), by decide +kernel⟩⟩
def mth_X16_isBroken : zMeth := (yX16_isBroken, cX16_isBroken, 4, (some .boolean), [])
theorem ok_X16_isBroken : zMok mth_X16_isBroken 2 := ⟨rfl, by decide +kernel, ⟨by decide +kernel, by decide +kernel⟩, by decide +kernel, by decide, ⟨tw_8 _ (List.mem_of_getElem? (i := 154) (by decide +kernel)), by decide +kernel⟩, ⟨tw_1 _ (List.mem_of_getElem? (i := 12) (by decide +kernel)), by decide +kernel⟩⟩
def mth_X16_noVisit : zMeth := (yX16_noVisit, cX16_noVisit, 2, (some .boolean), [])
theorem ok_X16_noVisit : zMok mth_X16_noVisit 1 := ⟨rfl, by decide +kernel, ⟨by decide +kernel, by decide +kernel⟩, by decide +kernel, by decide, ⟨tw_8 _ (List.mem_of_getElem? (i := 162) (by decide +kernel)), by decide +kernel⟩, ⟨tw_1 _ (List.mem_of_getElem? (i := 12) (by decide +kernel)), by decide +kernel⟩⟩
def mth_X16_fineAt : zMeth := (yX16_fineAt, cX16_fineAt, 2, (some .char), [])
theorem ok_X16_fineAt : zMok mth_X16_fineAt 1 := ⟨rfl, by decide +kernel, ⟨by decide +kernel, by decide +kernel⟩, by decide +kernel, by decide, ⟨tw_8 _ (List.mem_of_getElem? (i := 158) (by decide +kernel)), by decide +kernel⟩, ⟨tw_1 _ (List.mem_of_getElem? (i := 12) (by decide +kernel)), by decide +kernel⟩⟩
def mth_X16_sumAt : zMeth := (yX16_sumAt, cX16_sumAt, 2, (some .int), [])
theorem ok_X16_sumAt : zMok mth_X16_sumAt 1 := ⟨rfl, by decide +kernel, ⟨by decide +kernel, by decide +kernel⟩, by decide +kernel, by decide, ⟨tw_8 _ (List.mem_of_getElem? (i := 166) (by decide +kernel)), by decide +kernel⟩, ⟨tw_1 _ (List.mem_of_getElem? (i := 12) (by decide +kernel)), by decide +kernel⟩⟩
def mth_X16_money : zMeth := (yX16_money, cX16_money, 2, (some .int), [])
theorem ok_X16_money : zMok mth_X16_money 1 := ⟨rfl, by decide +kernel, ⟨by decide +kernel, by decide +kernel⟩, by decide +kernel, by decide, ⟨tw_8 _ (List.mem_of_getElem? (i := 170) (by decide +kernel)), by decide +kernel⟩, ⟨tw_1 _ (List.mem_of_getElem? (i := 12) (by decide +kernel)), by decide +kernel⟩⟩
def mth_X16_fines : zMeth := (yX16_fines, cX16_fines, 1, (some .int), [])
theorem ok_X16_fines : zMok mth_X16_fines 0 := ⟨rfl, by decide +kernel, ⟨by decide +kernel, by decide +kernel⟩, by decide +kernel, by decide, ⟨tw_8 _ (List.mem_of_getElem? (i := 174) (by decide +kernel)), by decide +kernel⟩, ⟨tw_1 _ (List.mem_of_getElem? (i := 12) (by decide +kernel)), by decide +kernel⟩⟩
def mth_X16_nextDay : zMeth := (yX16_nextDay, cX16_nextDay, 3, (some .int), [])
theorem ok_X16_nextDay : zMok mth_X16_nextDay 0 := ⟨rfl, by decide +kernel, ⟨by decide +kernel, by decide +kernel⟩, by decide +kernel, by decide, ⟨tw_8 _ (List.mem_of_getElem? (i := 178) (by decide +kernel)), by decide +kernel⟩, ⟨tw_1 _ (List.mem_of_getElem? (i := 12) (by decide +kernel)), by decide +kernel⟩⟩
def mth_X16_diary : zMeth := (yX16_diary, cX16_diary, 2, (some .int), [])
theorem ok_X16_diary : zMok mth_X16_diary 1 := ⟨rfl, by decide +kernel, ⟨by decide +kernel, by decide +kernel⟩, by decide +kernel, by decide, ⟨tw_8 _ (List.mem_of_getElem? (i := 190) (by decide +kernel)), by decide +kernel⟩, ⟨tw_1 _ (List.mem_of_getElem? (i := 12) (by decide +kernel)), by decide +kernel⟩⟩
def mth_X16_checksum : zMeth := (yX16_checksum, cX16_checksum, 5, (some .long), [])
theorem ok_X16_checksum : zMok mth_X16_checksum 0 := ⟨rfl, by decide +kernel, ⟨by decide +kernel, by decide +kernel⟩, by decide +kernel, by decide, ⟨tw_8 _ (List.mem_of_getElem? (i := 194) (by decide +kernel)), by decide +kernel⟩, ⟨tw_1 _ (List.mem_of_getElem? (i := 12) (by decide +kernel)), by decide +kernel⟩⟩
def mth_X16_goodShare : zMeth := (yX16_goodShare, cX16_goodShare, 7, (some .float), [])
theorem ok_X16_goodShare : zMok mth_X16_goodShare 0 := ⟨rfl, by decide +kernel, ⟨by decide +kernel, by decide +kernel⟩, by decide +kernel, by decide, ⟨tw_8 _ (List.mem_of_getElem? (i := 200) (by decide +kernel)), by decide +kernel⟩, ⟨tw_1 _ (List.mem_of_getElem? (i := 12) (by decide +kernel)), by decide +kernel⟩⟩
def mth_X16_meanMoney : zMeth := (yX16_meanMoney, cX16_meanMoney, 4, (some .double), [])
theorem ok_X16_meanMoney : zMok mth_X16_meanMoney 0 := ⟨rfl, by decide +kernel, ⟨by decide +kernel, by decide +kernel⟩, by decide +kernel, by decide, ⟨tw_8 _ (List.mem_of_getElem? (i := 204) (by decide +kernel)), by decide +kernel⟩, ⟨tw_1 _ (List.mem_of_getElem? (i := 12) (by decide +kernel)), by decide +kernel⟩⟩
def mth_X16_isSound : zMeth := (yX16_isSound, cX16_isSound, 1, (some .boolean), [])
theorem ok_X16_isSound : zMok mth_X16_isSound 0 := ⟨rfl, by decide +kernel, ⟨by decide +kernel, by decide +kernel⟩, by decide +kernel, by decide, ⟨tw_8 _ (List.mem_of_getElem? (i := 208) (by decide +kernel)), by decide +kernel⟩, ⟨tw_1 _ (List.mem_of_getElem? (i := 12) (by decide +kernel)), by decide +kernel⟩⟩
def mth_Jx00060_init_a7421 : zMeth := (yJx00060_init_a7421, cJx00060_init_a7421, 2, none, [])
theorem ok_Jx00060_init_a7421 : zMok mth_Jx00060_init_a7421 1 := ⟨rfl, by decide +kernel, ⟨by decide +kernel, by decide +kernel⟩, by decide +kernel, by decide, ⟨tw_3 _ (List.mem_of_getElem? (i := 122) (by decide +kernel)), by decide +kernel⟩, ⟨tw_1 _ (List.mem_of_getElem? (i := 30) (by decide +kernel)), by decide +kernel⟩⟩
def mth_J11_isValidCodePoint_9a6ad : zMeth := (yJ11_isValidCodePoint_9a6ad, cJ11_isValidCodePoint_9a6ad, 2, (some .boolean), [])
theorem ok_J11_isValidCodePoint_9a6ad : zMok mth_J11_isValidCodePoint_9a6ad 1 := ⟨rfl, by decide +kernel, ⟨by decide +kernel, by decide +kernel⟩, by decide +kernel, by decide, ⟨tw_8 _ (List.mem_of_getElem? (i := 138) (by decide +kernel)), by decide +kernel⟩, ⟨tw_1 _ (List.mem_of_getElem? (i := 43) (by decide +kernel)), by decide +kernel⟩⟩
def mth_J11_highSurrogate_5068e : zMeth := (yJ11_highSurrogate_5068e, cJ11_highSurrogate_5068e, 1, (some .char), [])
theorem ok_J11_highSurrogate_5068e : zMok mth_J11_highSurrogate_5068e 1 := ⟨rfl, by decide +kernel, ⟨by decide +kernel, by decide +kernel⟩, by decide +kernel, by decide, ⟨tw_8 _ (List.mem_of_getElem? (i := 141) (by decide +kernel)), by decide +kernel⟩, ⟨tw_1 _ (List.mem_of_getElem? (i := 43) (by decide +kernel)), by decide +kernel⟩⟩
def mth_J11_lowSurrogate_5068e : zMeth := (yJ11_lowSurrogate_5068e, cJ11_lowSurrogate_5068e, 1, (some .char), [])
theorem ok_J11_lowSurrogate_5068e : zMok mth_J11_lowSurrogate_5068e 1 := ⟨rfl, by decide +kernel, ⟨by decide +kernel, by decide +kernel⟩, by decide +kernel, by decide, ⟨tw_8 _ (List.mem_of_getElem? (i := 145) (by decide +kernel)), by decide +kernel⟩, ⟨tw_1 _ (List.mem_of_getElem? (i := 43) (by decide +kernel)), by decide +kernel⟩⟩
def mth_J6_valueOf_2dffe : zMeth := (yJ6_valueOf_2dffe, cJ6_valueOf_2dffe, 1, (some (.object "java/lang/Integer")), [])
theorem ok_J6_valueOf_2dffe : zMok mth_J6_valueOf_2dffe 1 := ⟨rfl, by decide +kernel, ⟨by decide +kernel, by decide +kernel⟩, by decide +kernel, by decide, ⟨tw_7 _ (List.mem_of_getElem? (i := 95) (by decide +kernel)), by decide +kernel⟩, ⟨tw_1 _ (List.mem_of_getElem? (i := 35) (by decide +kernel)), by decide +kernel⟩⟩
def mth_J6_init_d00df : zMeth := (yJ6_init_d00df, cJ6_init_d00df, 2, none, [])
theorem ok_J6_init_d00df : zMok mth_J6_init_d00df 1 := ⟨rfl, by decide +kernel, ⟨by decide +kernel, by decide +kernel⟩, by decide +kernel, by decide, ⟨tw_7 _ (List.mem_of_getElem? (i := 104) (by decide +kernel)), by decide +kernel⟩, ⟨tw_1 _ (List.mem_of_getElem? (i := 35) (by decide +kernel)), by decide +kernel⟩⟩
def mth_J6_intValue_8abf5 : zMeth := (yJ6_intValue_8abf5, cJ6_intValue_8abf5, 1, (some .int), [])
theorem ok_J6_intValue_8abf5 : zMok mth_J6_intValue_8abf5 0 := ⟨rfl, by decide +kernel, ⟨by decide +kernel, by decide +kernel⟩, by decide +kernel, by decide, ⟨tw_7 _ (List.mem_of_getElem? (i := 119) (by decide +kernel)), by decide +kernel⟩, ⟨tw_1 _ (List.mem_of_getElem? (i := 35) (by decide +kernel)), by decide +kernel⟩⟩
def mth_J6_bitCount_0f7a4 : zMeth := (yJ6_bitCount_0f7a4, cJ6_bitCount_0f7a4, 1, (some .int), [])
theorem ok_J6_bitCount_0f7a4 : zMok mth_J6_bitCount_0f7a4 1 := ⟨rfl, by decide +kernel, ⟨by decide +kernel, by decide +kernel⟩, by decide +kernel, by decide, ⟨tw_5 _ (List.mem_of_getElem? (i := 29) (by decide +kernel)), by decide +kernel⟩, ⟨tw_1 _ (List.mem_of_getElem? (i := 35) (by decide +kernel)), by decide +kernel⟩⟩
def mth_Jxd2413_init_da8c8 : zMeth := (yJxd2413_init_da8c8, cJxd2413_init_da8c8, 1, none, [])
theorem ok_Jxd2413_init_da8c8 : zMok mth_Jxd2413_init_da8c8 0 := ⟨rfl, by decide +kernel, ⟨by decide +kernel, by decide +kernel⟩, by decide +kernel, by decide, ⟨tw_7 _ (List.mem_of_getElem? (i := 107) (by decide +kernel)), by decide +kernel⟩, ⟨tw_1 _ (List.mem_of_getElem? (i := 34) (by decide +kernel)), by decide +kernel⟩⟩
def mth_J0_length_8abf5 : zMeth := (yJ0_length_8abf5, cJ0_length_8abf5, 1, (some .int), [])
theorem ok_J0_length_8abf5 : zMok mth_J0_length_8abf5 0 := ⟨rfl, by decide +kernel, ⟨by decide +kernel, by decide +kernel⟩, by decide +kernel, by decide, ⟨tw_8 _ (List.mem_of_getElem? (i := 82) (by decide +kernel)), by decide +kernel⟩, ⟨tw_1 _ (List.mem_of_getElem? (i := 31) (by decide +kernel)), by decide +kernel⟩⟩
def mth_J0_indexOf_0f7a4 : zMeth := (yJ0_indexOf_0f7a4, cJ0_indexOf_0f7a4, 2, (some .int), [])
theorem ok_J0_indexOf_0f7a4 : zMok mth_J0_indexOf_0f7a4 1 := ⟨rfl, by decide +kernel, ⟨by decide +kernel, by decide +kernel⟩, by decide +kernel, by decide, ⟨tw_8 _ (List.mem_of_getElem? (i := 68) (by decide +kernel)), by decide +kernel⟩, ⟨tw_1 _ (List.mem_of_getElem? (i := 31) (by decide +kernel)), by decide +kernel⟩⟩
def mth_J0_indexOf_7cf53 : zMeth := (yJ0_indexOf_7cf53, cJ0_indexOf_7cf53, 3, (some .int), [])
theorem ok_J0_indexOf_7cf53 : zMok mth_J0_indexOf_7cf53 2 := ⟨rfl, by decide +kernel, ⟨by decide +kernel, by decide +kernel⟩, by decide +kernel, by decide, ⟨tw_8 _ (List.mem_of_getElem? (i := 72) (by decide +kernel)), by decide +kernel⟩, ⟨tw_1 _ (List.mem_of_getElem? (i := 31) (by decide +kernel)), by decide +kernel⟩⟩
def mth_J0_coder_7d493 : zMeth := (yJ0_coder_7d493, cJ0_coder_7d493, 1, (some .byte), [])
theorem ok_J0_coder_7d493 : zMok mth_J0_coder_7d493 0 := ⟨rfl, by decide +kernel, ⟨by decide +kernel, by decide +kernel⟩, by decide +kernel, by decide, ⟨tw_8 _ (List.mem_of_getElem? (i := 86) (by decide +kernel)), by decide +kernel⟩, ⟨tw_1 _ (List.mem_of_getElem? (i := 31) (by decide +kernel)), by decide +kernel⟩⟩
def mth_J0_isLatin1_aae02 : zMeth := (yJ0_isLatin1_aae02, cJ0_isLatin1_aae02, 1, (some .boolean), [])
theorem ok_J0_isLatin1_aae02 : zMok mth_J0_isLatin1_aae02 0 := ⟨rfl, by decide +kernel, ⟨by decide +kernel, by decide +kernel⟩, by decide +kernel, by decide, ⟨tw_8 _ (List.mem_of_getElem? (i := 76) (by decide +kernel)), by decide +kernel⟩, ⟨tw_1 _ (List.mem_of_getElem? (i := 31) (by decide +kernel)), by decide +kernel⟩⟩
def mth_J0_checkBoundsBeginEnd_23922 : zMeth := (yJ0_checkBoundsBeginEnd_23922, cJ0_checkBoundsBeginEnd_23922, 3, none, [])
theorem ok_J0_checkBoundsBeginEnd_23922 : zMok mth_J0_checkBoundsBeginEnd_23922 3 := ⟨rfl, by decide +kernel, ⟨by decide +kernel, by decide +kernel⟩, by decide +kernel, by decide, ⟨tw_8 _ (List.mem_of_getElem? (i := 115) (by decide +kernel)), by decide +kernel⟩, ⟨tw_1 _ (List.mem_of_getElem? (i := 31) (by decide +kernel)), by decide +kernel⟩⟩
def mth_J1_canEncode_9a6ad : zMeth := (yJ1_canEncode_9a6ad, cJ1_canEncode_9a6ad, 1, (some .boolean), [])
theorem ok_J1_canEncode_9a6ad : zMok mth_J1_canEncode_9a6ad 1 := ⟨rfl, by decide +kernel, ⟨by decide +kernel, by decide +kernel⟩, by decide +kernel, by decide, ⟨tw_8 _ (List.mem_of_getElem? (i := 92) (by decide +kernel)), by decide +kernel⟩, ⟨tw_1 _ (List.mem_of_getElem? (i := 41) (by decide +kernel)), by decide +kernel⟩⟩
def mth_J1_indexOf_4cfef : zMeth := (yJ1_indexOf_4cfef, cJ1_indexOf_4cfef, 4, (some .int), [])
theorem ok_J1_indexOf_4cfef : zMok mth_J1_indexOf_4cfef 4 := ⟨rfl, by decide +kernel, ⟨by decide +kernel, by decide +kernel⟩, by decide +kernel, by decide, ⟨tw_8 _ (List.mem_of_getElem? (i := 89) (by decide +kernel)), by decide +kernel⟩, ⟨tw_1 _ (List.mem_of_getElem? (i := 41) (by decide +kernel)), by decide +kernel⟩⟩
def mth_J1_indexOfChar_4cfef : zMeth := (yJ1_indexOfChar_4cfef, cJ1_indexOfChar_4cfef, 6, (some .int), [])
theorem ok_J1_indexOfChar_4cfef : zMok mth_J1_indexOfChar_4cfef 4 := ⟨rfl, by decide +kernel, ⟨by decide +kernel, by decide +kernel⟩, by decide +kernel, by decide, ⟨tw_8 _ (List.mem_of_getElem? (i := 97) (by decide +kernel)), by decide +kernel⟩, ⟨tw_1 _ (List.mem_of_getElem? (i := 41) (by decide +kernel)), by decide +kernel⟩⟩
def mth_J2_getChar_3b067 : zMeth := (yJ2_getChar_3b067, cJ2_getChar_3b067, 2, (some .char), [])
theorem ok_J2_getChar_3b067 : zMok mth_J2_getChar_3b067 2 := ⟨rfl, by decide +kernel, ⟨by decide +kernel, by decide +kernel⟩, by decide +kernel, by decide, ⟨tw_8 _ (List.mem_of_getElem? (i := 126) (by decide +kernel)), by decide +kernel⟩, ⟨tw_1 _ (List.mem_of_getElem? (i := 42) (by decide +kernel)), by decide +kernel⟩⟩
def mth_J2_length_9d52b : zMeth := (yJ2_length_9d52b, cJ2_length_9d52b, 1, (some .int), [])
theorem ok_J2_length_9d52b : zMok mth_J2_length_9d52b 1 := ⟨rfl, by decide +kernel, ⟨by decide +kernel, by decide +kernel⟩, by decide +kernel, by decide, ⟨tw_8 _ (List.mem_of_getElem? (i := 112) (by decide +kernel)), by decide +kernel⟩, ⟨tw_1 _ (List.mem_of_getElem? (i := 42) (by decide +kernel)), by decide +kernel⟩⟩
def mth_J2_indexOf_4cfef : zMeth := (yJ2_indexOf_4cfef, cJ2_indexOf_4cfef, 4, (some .int), [])
theorem ok_J2_indexOf_4cfef : zMok mth_J2_indexOf_4cfef 4 := ⟨rfl, by decide +kernel, ⟨by decide +kernel, by decide +kernel⟩, by decide +kernel, by decide, ⟨tw_8 _ (List.mem_of_getElem? (i := 100) (by decide +kernel)), by decide +kernel⟩, ⟨tw_1 _ (List.mem_of_getElem? (i := 42) (by decide +kernel)), by decide +kernel⟩⟩
def mth_J2_indexOfChar_4cfef : zMeth := (yJ2_indexOfChar_4cfef, cJ2_indexOfChar_4cfef, 4, (some .int), [])
theorem ok_J2_indexOfChar_4cfef : zMok mth_J2_indexOfChar_4cfef 4 := ⟨rfl, by decide +kernel, ⟨by decide +kernel, by decide +kernel⟩, by decide +kernel, by decide, ⟨tw_8 _ (List.mem_of_getElem? (i := 106) (by decide +kernel)), by decide +kernel⟩, ⟨tw_1 _ (List.mem_of_getElem? (i := 42) (by decide +kernel)), by decide +kernel⟩⟩
def mth_J2_indexOfCharUnsafe_4cfef : zMeth := (yJ2_indexOfCharUnsafe_4cfef, cJ2_indexOfCharUnsafe_4cfef, 5, (some .int), [])
theorem ok_J2_indexOfCharUnsafe_4cfef : zMok mth_J2_indexOfCharUnsafe_4cfef 4 := ⟨rfl, by decide +kernel, ⟨by decide +kernel, by decide +kernel⟩, by decide +kernel, by decide, ⟨tw_8 _ (List.mem_of_getElem? (i := 123) (by decide +kernel)), by decide +kernel⟩, ⟨tw_1 _ (List.mem_of_getElem? (i := 42) (by decide +kernel)), by decide +kernel⟩⟩
def mth_J2_indexOfSupplementary_4cfef : zMeth := (yJ2_indexOfSupplementary_4cfef, cJ2_indexOfSupplementary_4cfef, 7, (some .int), [])
theorem ok_J2_indexOfSupplementary_4cfef : zMok mth_J2_indexOfSupplementary_4cfef 4 := ⟨rfl, by decide +kernel, ⟨by decide +kernel, by decide +kernel⟩, by decide +kernel, by decide, ⟨tw_8 _ (List.mem_of_getElem? (i := 135) (by decide +kernel)), by decide +kernel⟩, ⟨tw_1 _ (List.mem_of_getElem? (i := 42) (by decide +kernel)), by decide +kernel⟩⟩
def mth_J2_checkBoundsBeginEnd_d044e : zMeth := (yJ2_checkBoundsBeginEnd_d044e, cJ2_checkBoundsBeginEnd_d044e, 3, none, [])
theorem ok_J2_checkBoundsBeginEnd_d044e : zMok mth_J2_checkBoundsBeginEnd_d044e 3 := ⟨rfl, by decide +kernel, ⟨by decide +kernel, by decide +kernel⟩, by decide +kernel, by decide, ⟨tw_8 _ (List.mem_of_getElem? (i := 109) (by decide +kernel)), by decide +kernel⟩, ⟨tw_1 _ (List.mem_of_getElem? (i := 42) (by decide +kernel)), by decide +kernel⟩⟩
def mth_Jxa1e45_init_da8c8 : zMeth := (yJxa1e45_init_da8c8, cJxa1e45_init_da8c8, 1, none, [])
theorem ok_Jxa1e45_init_da8c8 : zMok mth_Jxa1e45_init_da8c8 0 := ⟨rfl, by decide +kernel, ⟨by decide +kernel, by decide +kernel⟩, by decide +kernel, by decide, ⟨tw_1 _ (List.mem_of_getElem? (i := 69) (by decide +kernel)), by decide +kernel⟩, ⟨tw_1 _ (List.mem_of_getElem? (i := 3) (by decide +kernel)), by decide +kernel⟩⟩
def mth_Jxc12de_init_da8c8 : zMeth := (yJxc12de_init_da8c8, cJxc12de_init_da8c8, 1, none, [])
theorem ok_Jxc12de_init_da8c8 : zMok mth_Jxc12de_init_da8c8 0 := ⟨rfl, by decide +kernel, ⟨by decide +kernel, by decide +kernel⟩, by decide +kernel, by decide, ⟨tw_1 _ (List.mem_of_getElem? (i := 66) (by decide +kernel)), by decide +kernel⟩, ⟨tw_1 _ (List.mem_of_getElem? (i := 4) (by decide +kernel)), by decide +kernel⟩⟩
def mth_Jx35411_init_45d68 : zMeth := (yJx35411_init_45d68, cJx35411_init_45d68, 2, none, [])
theorem ok_Jx35411_init_45d68 : zMok mth_Jx35411_init_45d68 1 := ⟨rfl, by decide +kernel, ⟨by decide +kernel, by decide +kernel⟩, by decide +kernel, by decide, ⟨tw_6 _ (List.mem_of_getElem? (i := 135) (by decide +kernel)), by decide +kernel⟩, ⟨tw_1 _ (List.mem_of_getElem? (i := 26) (by decide +kernel)), by decide +kernel⟩⟩
def mth_Jx35411_hasNext_aae02 : zMeth := (yJx35411_hasNext_aae02, cJx35411_hasNext_aae02, 1, (some .boolean), [])
theorem ok_Jx35411_hasNext_aae02 : zMok mth_Jx35411_hasNext_aae02 0 := ⟨rfl, by decide +kernel, ⟨by decide +kernel, by decide +kernel⟩, by decide +kernel, by decide, ⟨tw_6 _ (List.mem_of_getElem? (i := 159) (by decide +kernel)), by decide +kernel⟩, ⟨tw_1 _ (List.mem_of_getElem? (i := 26) (by decide +kernel)), by decide +kernel⟩⟩
def mth_Jx35411_next_0502b : zMeth := (yJx35411_next_0502b, cJx35411_next_0502b, 3, (some (.object "java/lang/Object")), [])
theorem ok_Jx35411_next_0502b : zMok mth_Jx35411_next_0502b 0 := ⟨rfl, by decide +kernel, ⟨by decide +kernel, by decide +kernel⟩, by decide +kernel, by decide, ⟨tw_6 _ (List.mem_of_getElem? (i := 168) (by decide +kernel)), by decide +kernel⟩, ⟨tw_1 _ (List.mem_of_getElem? (i := 26) (by decide +kernel)), by decide +kernel⟩⟩
def mth_Jx35411_checkForComodification_da8c8 : zMeth := (yJx35411_checkForComodification_da8c8, cJx35411_checkForComodification_da8c8, 1, none, [])
theorem ok_Jx35411_checkForComodification_da8c8 : zMok mth_Jx35411_checkForComodification_da8c8 0 := ⟨rfl, by decide +kernel, ⟨by decide +kernel, by decide +kernel⟩, by decide +kernel, by decide, ⟨tw_6 _ (List.mem_of_getElem? (i := 172) (by decide +kernel)), by decide +kernel⟩, ⟨tw_1 _ (List.mem_of_getElem? (i := 26) (by decide +kernel)), by decide +kernel⟩⟩
def mth_Jx4a65c_init_da8c8 : zMeth := (yJx4a65c_init_da8c8, cJx4a65c_init_da8c8, 1, none, [])
theorem ok_Jx4a65c_init_da8c8 : zMok mth_Jx4a65c_init_da8c8 0 := ⟨rfl, by decide +kernel, ⟨by decide +kernel, by decide +kernel⟩, by decide +kernel, by decide, ⟨tw_1 _ (List.mem_of_getElem? (i := 63) (by decide +kernel)), by decide +kernel⟩, ⟨tw_1 _ (List.mem_of_getElem? (i := 5) (by decide +kernel)), by decide +kernel⟩⟩
def mth_Jx4a65c_init_4bcb3 : zMeth := (yJx4a65c_init_4bcb3, cJx4a65c_init_4bcb3, 3, none, [])
theorem ok_Jx4a65c_init_4bcb3 : zMok mth_Jx4a65c_init_4bcb3 1 := ⟨rfl, by decide +kernel, ⟨by decide +kernel, by decide +kernel⟩, by decide +kernel, by decide, ⟨tw_7 _ (List.mem_of_getElem? (i := 182) (by decide +kernel)), by decide +kernel⟩, ⟨tw_1 _ (List.mem_of_getElem? (i := 5) (by decide +kernel)), by decide +kernel⟩⟩
def mth_Jx4a65c_grow_92f84 : zMeth := (yJx4a65c_grow_92f84, cJx4a65c_grow_92f84, 4, (some (.array (.object "java/lang/Object"))), [])
theorem ok_Jx4a65c_grow_92f84 : zMok mth_Jx4a65c_grow_92f84 1 := ⟨rfl, by decide +kernel, ⟨by decide +kernel, by decide +kernel⟩, by decide +kernel, by decide, ⟨tw_3 _ (List.mem_of_getElem? (i := 59) (by decide +kernel)), by decide +kernel⟩, ⟨tw_1 _ (List.mem_of_getElem? (i := 5) (by decide +kernel)), by decide +kernel⟩⟩
def mth_Jx4a65c_grow_d5877 : zMeth := (yJx4a65c_grow_d5877, cJx4a65c_grow_d5877, 1, (some (.array (.object "java/lang/Object"))), [])
theorem ok_Jx4a65c_grow_d5877 : zMok mth_Jx4a65c_grow_d5877 0 := ⟨rfl, by decide +kernel, ⟨by decide +kernel, by decide +kernel⟩, by decide +kernel, by decide, ⟨tw_3 _ (List.mem_of_getElem? (i := 55) (by decide +kernel)), by decide +kernel⟩, ⟨tw_1 _ (List.mem_of_getElem? (i := 5) (by decide +kernel)), by decide +kernel⟩⟩
def mth_Jx4a65c_size_8abf5 : zMeth := (yJx4a65c_size_8abf5, cJx4a65c_size_8abf5, 1, (some .int), [])
theorem ok_Jx4a65c_size_8abf5 : zMok mth_Jx4a65c_size_8abf5 0 := ⟨rfl, by decide +kernel, ⟨by decide +kernel, by decide +kernel⟩, by decide +kernel, by decide, ⟨tw_2 _ (List.mem_of_getElem? (i := 24) (by decide +kernel)), by decide +kernel⟩, ⟨tw_1 _ (List.mem_of_getElem? (i := 5) (by decide +kernel)), by decide +kernel⟩⟩
def mth_Jx4a65c_isEmpty_aae02 : zMeth := (yJx4a65c_isEmpty_aae02, cJx4a65c_isEmpty_aae02, 1, (some .boolean), [])
theorem ok_Jx4a65c_isEmpty_aae02 : zMok mth_Jx4a65c_isEmpty_aae02 0 := ⟨rfl, by decide +kernel, ⟨by decide +kernel, by decide +kernel⟩, by decide +kernel, by decide, ⟨tw_7 _ (List.mem_of_getElem? (i := 175) (by decide +kernel)), by decide +kernel⟩, ⟨tw_1 _ (List.mem_of_getElem? (i := 5) (by decide +kernel)), by decide +kernel⟩⟩
def mth_Jx4a65c_toArray_d5877 : zMeth := (yJx4a65c_toArray_d5877, cJx4a65c_toArray_d5877, 1, (some (.array (.object "java/lang/Object"))), [])
theorem ok_Jx4a65c_toArray_d5877 : zMok mth_Jx4a65c_toArray_d5877 0 := ⟨rfl, by decide +kernel, ⟨by decide +kernel, by decide +kernel⟩, by decide +kernel, by decide, ⟨tw_7 _ (List.mem_of_getElem? (i := 192) (by decide +kernel)), by decide +kernel⟩, ⟨tw_1 _ (List.mem_of_getElem? (i := 5) (by decide +kernel)), by decide +kernel⟩⟩
def mth_Jx4a65c_elementData_915e3 : zMeth := (yJx4a65c_elementData_915e3, cJx4a65c_elementData_915e3, 2, (some (.object "java/lang/Object")), [])
theorem ok_Jx4a65c_elementData_915e3 : zMok mth_Jx4a65c_elementData_915e3 1 := ⟨rfl, by decide +kernel, ⟨by decide +kernel, by decide +kernel⟩, by decide +kernel, by decide, ⟨tw_2 _ (List.mem_of_getElem? (i := 80) (by decide +kernel)), by decide +kernel⟩, ⟨tw_1 _ (List.mem_of_getElem? (i := 5) (by decide +kernel)), by decide +kernel⟩⟩
def mth_Jx4a65c_get_915e3 : zMeth := (yJx4a65c_get_915e3, cJx4a65c_get_915e3, 2, (some (.object "java/lang/Object")), [])
theorem ok_Jx4a65c_get_915e3 : zMok mth_Jx4a65c_get_915e3 1 := ⟨rfl, by decide +kernel, ⟨by decide +kernel, by decide +kernel⟩, by decide +kernel, by decide, ⟨tw_2 _ (List.mem_of_getElem? (i := 70) (by decide +kernel)), by decide +kernel⟩, ⟨tw_1 _ (List.mem_of_getElem? (i := 5) (by decide +kernel)), by decide +kernel⟩⟩
def mth_Jx4a65c_set_bcc79 : zMeth := (yJx4a65c_set_bcc79, cJx4a65c_set_bcc79, 4, (some (.object "java/lang/Object")), [])
theorem ok_Jx4a65c_set_bcc79 : zMok mth_Jx4a65c_set_bcc79 2 := ⟨rfl, by decide +kernel, ⟨by decide +kernel, by decide +kernel⟩, by decide +kernel, by decide, ⟨tw_4 _ (List.mem_of_getElem? (i := 191) (by decide +kernel)), by decide +kernel⟩, ⟨tw_1 _ (List.mem_of_getElem? (i := 5) (by decide +kernel)), by decide +kernel⟩⟩
def mth_Jx4a65c_add_72be8 : zMeth := (yJx4a65c_add_72be8, cJx4a65c_add_72be8, 4, none, [])
theorem ok_Jx4a65c_add_72be8 : zMok mth_Jx4a65c_add_72be8 3 := ⟨rfl, by decide +kernel, ⟨by decide +kernel, by decide +kernel⟩, by decide +kernel, by decide, ⟨tw_3 _ (List.mem_of_getElem? (i := 51) (by decide +kernel)), by decide +kernel⟩, ⟨tw_1 _ (List.mem_of_getElem? (i := 5) (by decide +kernel)), by decide +kernel⟩⟩
def mth_Jx4a65c_add_9ea2d : zMeth := (yJx4a65c_add_9ea2d, cJx4a65c_add_9ea2d, 2, (some .boolean), [])
theorem ok_Jx4a65c_add_9ea2d : zMok mth_Jx4a65c_add_9ea2d 1 := ⟨rfl, by decide +kernel, ⟨by decide +kernel, by decide +kernel⟩, by decide +kernel, by decide, ⟨tw_3 _ (List.mem_of_getElem? (i := 47) (by decide +kernel)), by decide +kernel⟩, ⟨tw_1 _ (List.mem_of_getElem? (i := 5) (by decide +kernel)), by decide +kernel⟩⟩
def mth_Jx4a65c_remove_915e3 : zMeth := (yJx4a65c_remove_915e3, cJx4a65c_remove_915e3, 4, (some (.object "java/lang/Object")), [])
theorem ok_Jx4a65c_remove_915e3 : zMok mth_Jx4a65c_remove_915e3 1 := ⟨rfl, by decide +kernel, ⟨by decide +kernel, by decide +kernel⟩, by decide +kernel, by decide, ⟨tw_8 _ (List.mem_of_getElem? (i := 182) (by decide +kernel)), by decide +kernel⟩, ⟨tw_1 _ (List.mem_of_getElem? (i := 5) (by decide +kernel)), by decide +kernel⟩⟩
def mth_Jx4a65c_fastRemove_b59b0 : zMeth := (yJx4a65c_fastRemove_b59b0, cJx4a65c_fastRemove_b59b0, 4, none, [])
theorem ok_Jx4a65c_fastRemove_b59b0 : zMok mth_Jx4a65c_fastRemove_b59b0 2 := ⟨rfl, by decide +kernel, ⟨by decide +kernel, by decide +kernel⟩, by decide +kernel, by decide, ⟨tw_8 _ (List.mem_of_getElem? (i := 186) (by decide +kernel)), by decide +kernel⟩, ⟨tw_1 _ (List.mem_of_getElem? (i := 5) (by decide +kernel)), by decide +kernel⟩⟩
def mth_Jx4a65c_clear_da8c8 : zMeth := (yJx4a65c_clear_da8c8, cJx4a65c_clear_da8c8, 4, none, [])
theorem ok_Jx4a65c_clear_da8c8 : zMok mth_Jx4a65c_clear_da8c8 0 := ⟨rfl, by decide +kernel, ⟨by decide +kernel, by decide +kernel⟩, by decide +kernel, by decide, ⟨tw_4 _ (List.mem_of_getElem? (i := 171) (by decide +kernel)), by decide +kernel⟩, ⟨tw_1 _ (List.mem_of_getElem? (i := 5) (by decide +kernel)), by decide +kernel⟩⟩
def mth_Jx4a65c_addAll_f0b43 : zMeth := (yJx4a65c_addAll_f0b43, cJx4a65c_addAll_f0b43, 6, (some .boolean), [])
theorem ok_Jx4a65c_addAll_f0b43 : zMok mth_Jx4a65c_addAll_f0b43 1 := ⟨rfl, by decide +kernel, ⟨by decide +kernel, by decide +kernel⟩, by decide +kernel, by decide, ⟨tw_7 _ (List.mem_of_getElem? (i := 208) (by decide +kernel)), by decide +kernel⟩, ⟨tw_1 _ (List.mem_of_getElem? (i := 5) (by decide +kernel)), by decide +kernel⟩⟩
def mth_Jx4a65c_iterator_32c93 : zMeth := (yJx4a65c_iterator_32c93, cJx4a65c_iterator_32c93, 1, (some (.object "java/util/Iterator")), [])
theorem ok_Jx4a65c_iterator_32c93 : zMok mth_Jx4a65c_iterator_32c93 0 := ⟨rfl, by decide +kernel, ⟨by decide +kernel, by decide +kernel⟩, by decide +kernel, by decide, ⟨tw_6 _ (List.mem_of_getElem? (i := 130) (by decide +kernel)), by decide +kernel⟩, ⟨tw_1 _ (List.mem_of_getElem? (i := 5) (by decide +kernel)), by decide +kernel⟩⟩
def mth_J7_copyOf_1904c : zMeth := (yJ7_copyOf_1904c, cJ7_copyOf_1904c, 2, (some (.array (.object "java/lang/Object"))), [])
theorem ok_J7_copyOf_1904c : zMok mth_J7_copyOf_1904c 2 := ⟨rfl, by decide +kernel, ⟨by decide +kernel, by decide +kernel⟩, by decide +kernel, by decide, ⟨tw_3 _ (List.mem_of_getElem? (i := 72) (by decide +kernel)), by decide +kernel⟩, ⟨tw_1 _ (List.mem_of_getElem? (i := 24) (by decide +kernel)), by decide +kernel⟩⟩
def mth_J7_copyOf_6403c : zMeth := (yJ7_copyOf_6403c, cJ7_copyOf_6403c, 4, (some (.array (.object "java/lang/Object"))), [])
theorem ok_J7_copyOf_6403c : zMok mth_J7_copyOf_6403c 3 := ⟨rfl, by decide +kernel, ⟨by decide +kernel, by decide +kernel⟩, by decide +kernel, by decide, ⟨tw_3 _ (List.mem_of_getElem? (i := 106) (by decide +kernel)), by decide +kernel⟩, ⟨tw_1 _ (List.mem_of_getElem? (i := 24) (by decide +kernel)), by decide +kernel⟩⟩
def mth_J15_checkIndex_7cf53 : zMeth := (yJ15_checkIndex_7cf53, cJ15_checkIndex_7cf53, 2, (some .int), [])
theorem ok_J15_checkIndex_7cf53 : zMok mth_J15_checkIndex_7cf53 2 := ⟨rfl, by decide +kernel, ⟨by decide +kernel, by decide +kernel⟩, by decide +kernel, by decide, ⟨tw_2 _ (List.mem_of_getElem? (i := 73) (by decide +kernel)), by decide +kernel⟩, ⟨tw_1 _ (List.mem_of_getElem? (i := 17) (by decide +kernel)), by decide +kernel⟩⟩
def mth_J8_newLength_cabcc : zMeth := (yJ8_newLength_cabcc, cJ8_newLength_cabcc, 4, (some .int), [])
theorem ok_J8_newLength_cabcc : zMok mth_J8_newLength_cabcc 3 := ⟨rfl, by decide +kernel, ⟨by decide +kernel, by decide +kernel⟩, by decide +kernel, by decide, ⟨tw_3 _ (List.mem_of_getElem? (i := 62) (by decide +kernel)), by decide +kernel⟩, ⟨tw_1 _ (List.mem_of_getElem? (i := 22) (by decide +kernel)), by decide +kernel⟩⟩
def mth_J8_hugeLength_7cf53 : zMeth := (yJ8_hugeLength_7cf53, cJ8_hugeLength_7cf53, 3, (some .int), [])
theorem ok_J8_hugeLength_7cf53 : zMok mth_J8_hugeLength_7cf53 2 := ⟨rfl, by decide +kernel, ⟨by decide +kernel, by decide +kernel⟩, by decide +kernel, by decide, ⟨tw_3 _ (List.mem_of_getElem? (i := 69) (by decide +kernel)), by decide +kernel⟩, ⟨tw_1 _ (List.mem_of_getElem? (i := 22) (by decide +kernel)), by decide +kernel⟩⟩
def mth_J3_checkIndex_8e157 : zMeth := (yJ3_checkIndex_8e157, cJ3_checkIndex_8e157, 3, (some .int), [])
theorem ok_J3_checkIndex_8e157 : zMok mth_J3_checkIndex_8e157 3 := ⟨rfl, by decide +kernel, ⟨by decide +kernel, by decide +kernel⟩, by decide +kernel, by decide, ⟨tw_2 _ (List.mem_of_getElem? (i := 76) (by decide +kernel)), by decide +kernel⟩, ⟨tw_1 _ (List.mem_of_getElem? (i := 18) (by decide +kernel)), by decide +kernel⟩⟩
def mth_J3_checkFromToIndex_8c36e : zMeth := (yJ3_checkFromToIndex_8c36e, cJ3_checkFromToIndex_8c36e, 4, (some .int), [])
theorem ok_J3_checkFromToIndex_8c36e : zMok mth_J3_checkFromToIndex_8c36e 4 := ⟨rfl, by decide +kernel, ⟨by decide +kernel, by decide +kernel⟩, by decide +kernel, by decide, ⟨tw_8 _ (List.mem_of_getElem? (i := 120) (by decide +kernel)), by decide +kernel⟩, ⟨tw_1 _ (List.mem_of_getElem? (i := 18) (by decide +kernel)), by decide +kernel⟩⟩
def mth_L_addPitch : zMeth := (yL_addPitch, cL_addPitch, 6, (some .int), [(0, 12, 15, 13), (0, 12, 19, 15), (0, 12, 23, 17)])
def mth_L_setPassers : zMeth := (yL_setPassers, cL_setPassers, 6, (some .int), [(0, 12, 15, 23), (0, 12, 19, 13)])
def mth_L_passersAt : zMeth := (yL_passersAt, cL_passersAt, 5, (some .int), [(0, 10, 13, 23), (0, 10, 17, 13)])
def mth_L_addAct : zMeth := (yL_addAct, cL_addAct, 8, (some .int), [(0, 16, 19, 13), (0, 16, 23, 17)])
def mth_L_setLine : zMeth := (yL_setLine, cL_setLine, 5, (some .int), [(0, 10, 13, 23), (0, 10, 17, 13)])
def mth_L_setPermit : zMeth := (yL_setPermit, cL_setPermit, 5, (some .int), [(0, 17, 20, 23)])
def mth_L_addCustom : zMeth := (yL_addCustom, cL_addCustom, 5, (some .int), [(0, 17, 20, 23), (0, 17, 24, 13), (0, 17, 28, 15)])
def mth_L_endCustom : zMeth := (yL_endCustom, cL_endCustom, 5, (some .int), [(0, 17, 20, 23)])
def mth_L_orderAt : zMeth := (yL_orderAt, cL_orderAt, 5, (some .int), [(0, 10, 13, 50)])
def mth_L_lotAt : zMeth := (yL_lotAt, cL_lotAt, 4, (some .int), [(0, 9, 12, 50)])
def mth_L_seed : zMeth := (yL_seed, cL_seed, 4, (some .int), [(0, 9, 12, 13)])
def mth_L_addTurn : zMeth := (yL_addTurn, cL_addTurn, 5, (some .int), [(0, 10, 13, 23), (0, 10, 17, 17), (0, 10, 21, 15)])
def mth_L_turnsByLots : zMeth := (yL_turnsByLots, cL_turnsByLots, 3, (some .int), [(0, 8, 11, 17), (0, 8, 14, 15)])
def mth_L_exchange : zMeth := (yL_exchange, cL_exchange, 6, (some .int), [(0, 19, 22, 23), (0, 19, 26, 17), (0, 19, 30, 15)])
def mth_L_turnAt : zMeth := (yL_turnAt, cL_turnAt, 5, (some .int), [(0, 10, 13, 23), (0, 10, 17, 50)])
def mth_L_setRain : zMeth := (yL_setRain, cL_setRain, 5, (some .int), [(0, 10, 13, 13)])
def mth_L_setCold : zMeth := (yL_setCold, cL_setCold, 4, (some .int), [(0, 9, 12, 13)])
def mth_L_setLaw : zMeth := (yL_setLaw, cL_setLaw, 5, (some .int), [(0, 10, 13, 13)])
def mth_L_addVisit : zMeth := (yL_addVisit, cL_addVisit, 5, (some .int), [(0, 10, 13, 23), (0, 10, 17, 13), (0, 10, 21, 17)])
def mth_L_join : zMeth := (yL_join, cL_join, 5, (some .int), [(0, 10, 13, 23), (0, 10, 17, 13)])
def mth_L_play : zMeth := (yL_play, cL_play, 3, (some .int), [(0, 8, 11, 17)])
def mth_L_of : zMeth := (yL_of, cL_of, 6, (some .int), [(0, 12, 15, 23), (0, 12, 19, 13), (0, 12, 23, 17), (0, 12, 27, 50)])
def mth_L_isBroken : zMeth := (yL_isBroken, cL_isBroken, 5, (some .int), [(0, 17, 20, 23), (0, 17, 24, 17), (0, 17, 28, 50)])
def mth_L_fineAt : zMeth := (yL_fineAt, cL_fineAt, 4, (some .int), [(0, 9, 12, 17), (0, 9, 15, 50)])
def mth_L_sumAt : zMeth := (yL_sumAt, cL_sumAt, 4, (some .int), [(0, 9, 12, 17), (0, 9, 15, 50)])
def mth_L_money : zMeth := (yL_money, cL_money, 4, (some .int), [(0, 9, 12, 23)])
def mth_L_nextDay : zMeth := (yL_nextDay, cL_nextDay, 3, (some .int), [(0, 8, 11, 17)])
def mth_L_diary : zMeth := (yL_diary, cL_diary, 4, (some .int), [(0, 9, 12, 50)])
def mth_L_goodShare : zMeth := (yL_goodShare, cL_goodShare, 3, (some .int), [(0, 8, 11, 17), (0, 8, 14, 118)])
def mth_L_meanMoney : zMeth := (yL_meanMoney, cL_meanMoney, 3, (some .int), [(0, 7, 10, 118)])
def mth_L_law : zMeth := (yL_law, cL_law, 9, (some .boolean), [])
