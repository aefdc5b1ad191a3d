def mX0_init : ZMI := (yX0_init, cX0_init, 1, none)
theorem cw_X0_init : zCW mX0_init 0 := ⟨zt (List.mem_of_getElem? (i := 196) (by decide +kernel)) rfl, zt (List.mem_of_getElem? (i := 53) (by decide +kernel)) rfl, by decide +kernel, by decide⟩
def mX0_clear : ZMI := (yX0_clear, cX0_clear, 1, none)
theorem cw_X0_clear : zCW mX0_clear 0 := ⟨zt (List.mem_of_getElem? (i := 483) (by decide +kernel)) rfl, zt (List.mem_of_getElem? (i := 53) (by decide +kernel)) rfl, by decide +kernel, by decide⟩
def mX0_keep : ZMI := (yX0_keep, cX0_keep, 3, none)
theorem cw_X0_keep : zCW mX0_keep 1 := ⟨zt (List.mem_of_getElem? (i := 510) (by decide +kernel)) rfl, zt (List.mem_of_getElem? (i := 53) (by decide +kernel)) rfl, by decide +kernel, by decide⟩
def mX0_takeBack : ZMI := (yX0_takeBack, cX0_takeBack, 3, none)
theorem cw_X0_takeBack : zCW mX0_takeBack 1 := ⟨zt (List.mem_of_getElem? (i := 497) (by decide +kernel)) rfl, zt (List.mem_of_getElem? (i := 53) (by decide +kernel)) rfl, by decide +kernel, by decide⟩
def mX1_init : ZMI := (yX1_init, cX1_init, 1, none)
theorem cw_X1_init : zCW mX1_init 0 := ⟨zt (List.mem_of_getElem? (i := 214) (by decide +kernel)) rfl, zt (List.mem_of_getElem? (i := 54) (by decide +kernel)) rfl, by decide +kernel, by decide⟩
def mX1_begin : ZMI := (yX1_begin, cX1_begin, 4, (some .int))
theorem cw_X1_begin : zCW mX1_begin 3 := ⟨zt (List.mem_of_getElem? (i := 761) (by decide +kernel)) rfl, zt (List.mem_of_getElem? (i := 54) (by decide +kernel)) rfl, by decide +kernel, by decide⟩
def mX1_answer : ZMI := (yX1_answer, cX1_answer, 8, (some .int))
theorem cw_X1_answer : zCW mX1_answer 4 := ⟨zt (List.mem_of_getElem? (i := 765) (by decide +kernel)) rfl, zt (List.mem_of_getElem? (i := 54) (by decide +kernel)) rfl, by decide +kernel, by decide⟩
def mX1_give : ZMI := (yX1_give, cX1_give, 6, (some .int))
theorem cw_X1_give : zCW mX1_give 4 := ⟨zt (List.mem_of_getElem? (i := 774) (by decide +kernel)) rfl, zt (List.mem_of_getElem? (i := 54) (by decide +kernel)) rfl, by decide +kernel, by decide⟩
def mX1_leaveInTrace : ZMI := (yX1_leaveInTrace, cX1_leaveInTrace, 2, none)
theorem cw_X1_leaveInTrace : zCW mX1_leaveInTrace 1 := ⟨zt (List.mem_of_getElem? (i := 778) (by decide +kernel)) rfl, zt (List.mem_of_getElem? (i := 54) (by decide +kernel)) rfl, by decide +kernel, by decide⟩
def mX2_init : ZMI := (yX2_init, cX2_init, 1, none)
theorem cw_X2_init : zCW mX2_init 0 := ⟨zt (List.mem_of_getElem? (i := 125) (by decide +kernel)) rfl, zt (List.mem_of_getElem? (i := 52) (by decide +kernel)) rfl, by decide +kernel, by decide⟩
def mX2_clear : ZMI := (yX2_clear, cX2_clear, 1, none)
theorem cw_X2_clear : zCW mX2_clear 0 := ⟨zt (List.mem_of_getElem? (i := 350) (by decide +kernel)) rfl, zt (List.mem_of_getElem? (i := 52) (by decide +kernel)) rfl, by decide +kernel, by decide⟩
def mX2_addMan : ZMI := (yX2_addMan, cX2_addMan, 4, none)
theorem cw_X2_addMan : zCW mX2_addMan 3 := ⟨zt (List.mem_of_getElem? (i := 465) (by decide +kernel)) rfl, zt (List.mem_of_getElem? (i := 52) (by decide +kernel)) rfl, by decide +kernel, by decide⟩
def mX2_become : ZMI := (yX2_become, cX2_become, 3, none)
theorem cw_X2_become : zCW mX2_become 1 := ⟨zt (List.mem_of_getElem? (i := 479) (by decide +kernel)) rfl, zt (List.mem_of_getElem? (i := 52) (by decide +kernel)) rfl, by decide +kernel, by decide⟩
def mX2_sunIn : ZMI := (yX2_sunIn, cX2_sunIn, 3, (some .int))
theorem cw_X2_sunIn : zCW mX2_sunIn 1 := ⟨zt (List.mem_of_getElem? (i := 523) (by decide +kernel)) rfl, zt (List.mem_of_getElem? (i := 52) (by decide +kernel)) rfl, by decide +kernel, by decide⟩
def mX2_sunNow : ZMI := (yX2_sunNow, cX2_sunNow, 1, (some .int))
theorem cw_X2_sunNow : zCW mX2_sunNow 0 := ⟨zt (List.mem_of_getElem? (i := 519) (by decide +kernel)) rfl, zt (List.mem_of_getElem? (i := 52) (by decide +kernel)) rfl, by decide +kernel, by decide⟩
def mX2_hasSun : ZMI := (yX2_hasSun, cX2_hasSun, 3, (some .boolean))
theorem cw_X2_hasSun : zCW mX2_hasSun 2 := ⟨zt (List.mem_of_getElem? (i := 548) (by decide +kernel)) rfl, zt (List.mem_of_getElem? (i := 52) (by decide +kernel)) rfl, by decide +kernel, by decide⟩
def mX2_sitsInSun : ZMI := (yX2_sitsInSun, cX2_sitsInSun, 3, (some .boolean))
theorem cw_X2_sitsInSun : zCW mX2_sitsInSun 1 := ⟨zt (List.mem_of_getElem? (i := 614) (by decide +kernel)) rfl, zt (List.mem_of_getElem? (i := 52) (by decide +kernel)) rfl, by decide +kernel, by decide⟩
def mX2_placeOf : ZMI := (yX2_placeOf, cX2_placeOf, 3, (some .int))
theorem cw_X2_placeOf : zCW mX2_placeOf 1 := ⟨zt (List.mem_of_getElem? (i := 571) (by decide +kernel)) rfl, zt (List.mem_of_getElem? (i := 52) (by decide +kernel)) rfl, by decide +kernel, by decide⟩
def mX2_isAwayForGood : ZMI := (yX2_isAwayForGood, cX2_isAwayForGood, 2, (some .boolean))
theorem cw_X2_isAwayForGood : zCW mX2_isAwayForGood 1 := ⟨zt (List.mem_of_getElem? (i := 584) (by decide +kernel)) rfl, zt (List.mem_of_getElem? (i := 52) (by decide +kernel)) rfl, by decide +kernel, by decide⟩
def mX2_isAtDinner : ZMI := (yX2_isAtDinner, cX2_isAtDinner, 2, (some .boolean))
theorem cw_X2_isAtDinner : zCW mX2_isAtDinner 1 := ⟨zt (List.mem_of_getElem? (i := 536) (by decide +kernel)) rfl, zt (List.mem_of_getElem? (i := 52) (by decide +kernel)) rfl, by decide +kernel, by decide⟩
def mX2_sittersAsBits : ZMI := (yX2_sittersAsBits, cX2_sittersAsBits, 3, (some .int))
theorem cw_X2_sittersAsBits : zCW mX2_sittersAsBits 0 := ⟨zt (List.mem_of_getElem? (i := 559) (by decide +kernel)) rfl, zt (List.mem_of_getElem? (i := 52) (by decide +kernel)) rfl, by decide +kernel, by decide⟩
def mX2_sunnyAsBits : ZMI := (yX2_sunnyAsBits, cX2_sunnyAsBits, 4, (some .int))
theorem cw_X2_sunnyAsBits : zCW mX2_sunnyAsBits 0 := ⟨zt (List.mem_of_getElem? (i := 601) (by decide +kernel)) rfl, zt (List.mem_of_getElem? (i := 52) (by decide +kernel)) rfl, by decide +kernel, by decide⟩
def mX2_dueAsBits : ZMI := (yX2_dueAsBits, cX2_dueAsBits, 3, (some .int))
theorem cw_X2_dueAsBits : zCW mX2_dueAsBits 0 := ⟨zt (List.mem_of_getElem? (i := 697) (by decide +kernel)) rfl, zt (List.mem_of_getElem? (i := 52) (by decide +kernel)) rfl, by decide +kernel, by decide⟩
def mX2_warmOfAll : ZMI := (yX2_warmOfAll, cX2_warmOfAll, 3, (some .int))
theorem cw_X2_warmOfAll : zCW mX2_warmOfAll 0 := ⟨zt (List.mem_of_getElem? (i := 724) (by decide +kernel)) rfl, zt (List.mem_of_getElem? (i := 52) (by decide +kernel)) rfl, by decide +kernel, by decide⟩
def mX2_passHours : ZMI := (yX2_passHours, cX2_passHours, 4, (some .int))
theorem cw_X2_passHours : zCW mX2_passHours 1 := ⟨zt (List.mem_of_getElem? (i := 635) (by decide +kernel)) rfl, zt (List.mem_of_getElem? (i := 52) (by decide +kernel)) rfl, by decide +kernel, by decide⟩
def mX2_passHour : ZMI := (yX2_passHour, cX2_passHour, 5, (some .int))
theorem cw_X2_passHour : zCW mX2_passHour 1 := ⟨zt (List.mem_of_getElem? (i := 515) (by decide +kernel)) rfl, zt (List.mem_of_getElem? (i := 52) (by decide +kernel)) rfl, by decide +kernel, by decide⟩
def mX2_seatWhoIsBack : ZMI := (yX2_seatWhoIsBack, cX2_seatWhoIsBack, 2, none)
theorem cw_X2_seatWhoIsBack : zCW mX2_seatWhoIsBack 0 := ⟨zt (List.mem_of_getElem? (i := 532) (by decide +kernel)) rfl, zt (List.mem_of_getElem? (i := 52) (by decide +kernel)) rfl, by decide +kernel, by decide⟩
def mX2_callToDinner : ZMI := (yX2_callToDinner, cX2_callToDinner, 9, (some .int))
theorem cw_X2_callToDinner : zCW mX2_callToDinner 2 := ⟨zt (List.mem_of_getElem? (i := 540) (by decide +kernel)) rfl, zt (List.mem_of_getElem? (i := 52) (by decide +kernel)) rfl, by decide +kernel, by decide⟩
def mX2_isDue : ZMI := (yX2_isDue, cX2_isDue, 2, (some .boolean))
theorem cw_X2_isDue : zCW mX2_isDue 1 := ⟨zt (List.mem_of_getElem? (i := 544) (by decide +kernel)) rfl, zt (List.mem_of_getElem? (i := 52) (by decide +kernel)) rfl, by decide +kernel, by decide⟩
def mX2_goesWhenCalled : ZMI := (yX2_goesWhenCalled, cX2_goesWhenCalled, 2, (some .boolean))
theorem cw_X2_goesWhenCalled : zCW mX2_goesWhenCalled 2 := ⟨zt (List.mem_of_getElem? (i := 551) (by decide +kernel)) rfl, zt (List.mem_of_getElem? (i := 52) (by decide +kernel)) rfl, by decide +kernel, by decide⟩
def mX2_seat : ZMI := (yX2_seat, cX2_seat, 4, none)
theorem cw_X2_seat : zCW mX2_seat 2 := ⟨zt (List.mem_of_getElem? (i := 469) (by decide +kernel)) rfl, zt (List.mem_of_getElem? (i := 52) (by decide +kernel)) rfl, by decide +kernel, by decide⟩
def mX2_unseat : ZMI := (yX2_unseat, cX2_unseat, 3, none)
theorem cw_X2_unseat : zCW mX2_unseat 1 := ⟨zt (List.mem_of_getElem? (i := 555) (by decide +kernel)) rfl, zt (List.mem_of_getElem? (i := 52) (by decide +kernel)) rfl, by decide +kernel, by decide⟩
def mX2_sendAway : ZMI := (yX2_sendAway, cX2_sendAway, 3, none)
theorem cw_X2_sendAway : zCW mX2_sendAway 1 := ⟨zt (List.mem_of_getElem? (i := 588) (by decide +kernel)) rfl, zt (List.mem_of_getElem? (i := 52) (by decide +kernel)) rfl, by decide +kernel, by decide⟩
def mX2_takeSnuff : ZMI := (yX2_takeSnuff, cX2_takeSnuff, 3, none)
theorem cw_X2_takeSnuff : zCW mX2_takeSnuff 1 := ⟨zt (List.mem_of_getElem? (i := 575) (by decide +kernel)) rfl, zt (List.mem_of_getElem? (i := 52) (by decide +kernel)) rfl, by decide +kernel, by decide⟩
def mX3_nearest : ZMI := (yX3_nearest, cX3_nearest, 1, (some .int))
theorem cw_X3_nearest : zCW mX3_nearest 1 := ⟨zt (List.mem_of_getElem? (i := 750) (by decide +kernel)) rfl, zt (List.mem_of_getElem? (i := 64) (by decide +kernel)) rfl, by decide +kernel, by decide⟩
def mX3_isOne : ZMI := (yX3_isOne, cX3_isOne, 4, (some .boolean))
theorem cw_X3_isOne : zCW mX3_isOne 2 := ⟨zt (List.mem_of_getElem? (i := 747) (by decide +kernel)) rfl, zt (List.mem_of_getElem? (i := 64) (by decide +kernel)) rfl, by decide +kernel, by decide⟩
def mX4_init : ZMI := (yX4_init, cX4_init, 1, none)
theorem cw_X4_init : zCW mX4_init 0 := ⟨zt (List.mem_of_getElem? (i := 77) (by decide +kernel)) rfl, zt (List.mem_of_getElem? (i := 50) (by decide +kernel)) rfl, by decide +kernel, by decide⟩
def mX4_isMissing : ZMI := (yX4_isMissing, cX4_isMissing, 2, (some .boolean))
theorem cw_X4_isMissing : zCW mX4_isMissing 1 := ⟨zt (List.mem_of_getElem? (i := 294) (by decide +kernel)) rfl, zt (List.mem_of_getElem? (i := 50) (by decide +kernel)) rfl, by decide +kernel, by decide⟩
def mX4_laneOf : ZMI := (yX4_laneOf, cX4_laneOf, 2, (some .int))
theorem cw_X4_laneOf : zCW mX4_laneOf 1 := ⟨zt (List.mem_of_getElem? (i := 310) (by decide +kernel)) rfl, zt (List.mem_of_getElem? (i := 50) (by decide +kernel)) rfl, by decide +kernel, by decide⟩
def mX4_make : ZMI := (yX4_make, cX4_make, 5, none)
theorem cw_X4_make : zCW mX4_make 3 := ⟨zt (List.mem_of_getElem? (i := 278) (by decide +kernel)) rfl, zt (List.mem_of_getElem? (i := 50) (by decide +kernel)) rfl, by decide +kernel, by decide⟩
def mX4_remove : ZMI := (yX4_remove, cX4_remove, 2, (some .int))
theorem cw_X4_remove : zCW mX4_remove 1 := ⟨zt (List.mem_of_getElem? (i := 325) (by decide +kernel)) rfl, zt (List.mem_of_getElem? (i := 50) (by decide +kernel)) rfl, by decide +kernel, by decide⟩
def mX4_present : ZMI := (yX4_present, cX4_present, 3, (some .int))
theorem cw_X4_present : zCW mX4_present 0 := ⟨zt (List.mem_of_getElem? (i := 790) (by decide +kernel)) rfl, zt (List.mem_of_getElem? (i := 50) (by decide +kernel)) rfl, by decide +kernel, by decide⟩
def mX4_reaches : ZMI := (yX4_reaches, cX4_reaches, 4, (some .boolean))
theorem cw_X4_reaches : zCW mX4_reaches 3 := ⟨zt (List.mem_of_getElem? (i := 298) (by decide +kernel)) rfl, zt (List.mem_of_getElem? (i := 50) (by decide +kernel)) rfl, by decide +kernel, by decide⟩
def mX4_item : ZMI := (yX4_item, cX4_item, 3, (some .int))
theorem cw_X4_item : zCW mX4_item 2 := ⟨zt (List.mem_of_getElem? (i := 664) (by decide +kernel)) rfl, zt (List.mem_of_getElem? (i := 50) (by decide +kernel)) rfl, by decide +kernel, by decide⟩
def mX4_put : ZMI := (yX4_put, cX4_put, 6, (some .int))
theorem cw_X4_put : zCW mX4_put 3 := ⟨zt (List.mem_of_getElem? (i := 302) (by decide +kernel)) rfl, zt (List.mem_of_getElem? (i := 50) (by decide +kernel)) rfl, by decide +kernel, by decide⟩
def mX4_move : ZMI := (yX4_move, cX4_move, 6, none)
theorem cw_X4_move : zCW mX4_move 5 := ⟨zt (List.mem_of_getElem? (i := 314) (by decide +kernel)) rfl, zt (List.mem_of_getElem? (i := 50) (by decide +kernel)) rfl, by decide +kernel, by decide⟩
def mX5_init : ZMI := (yX5_init, cX5_init, 1, none)
theorem cw_X5_init : zCW mX5_init 0 := ⟨zt (List.mem_of_getElem? (i := 100) (by decide +kernel)) rfl, zt (List.mem_of_getElem? (i := 51) (by decide +kernel)) rfl, by decide +kernel, by decide⟩
def mX5_isFull : ZMI := (yX5_isFull, cX5_isFull, 1, (some .boolean))
theorem cw_X5_isFull : zCW mX5_isFull 0 := ⟨zt (List.mem_of_getElem? (i := 333) (by decide +kernel)) rfl, zt (List.mem_of_getElem? (i := 51) (by decide +kernel)) rfl, by decide +kernel, by decide⟩
def mX5_add : ZMI := (yX5_add, cX5_add, 2, (some .int))
theorem cw_X5_add : zCW mX5_add 1 := ⟨zt (List.mem_of_getElem? (i := 338) (by decide +kernel)) rfl, zt (List.mem_of_getElem? (i := 51) (by decide +kernel)) rfl, by decide +kernel, by decide⟩
def mX5_clear : ZMI := (yX5_clear, cX5_clear, 1, none)
theorem cw_X5_clear : zCW mX5_clear 0 := ⟨zt (List.mem_of_getElem? (i := 474) (by decide +kernel)) rfl, zt (List.mem_of_getElem? (i := 51) (by decide +kernel)) rfl, by decide +kernel, by decide⟩
def mX5_readInto : ZMI := (yX5_readInto, cX5_readInto, 3, (some .boolean))
theorem cw_X5_readInto : zCW mX5_readInto 1 := ⟨zt (List.mem_of_getElem? (i := 346) (by decide +kernel)) rfl, zt (List.mem_of_getElem? (i := 51) (by decide +kernel)) rfl, by decide +kernel, by decide⟩
def mX5_readLaw : ZMI := (yX5_readLaw, cX5_readLaw, 2, none)
theorem cw_X5_readLaw : zCW mX5_readLaw 1 := ⟨zt (List.mem_of_getElem? (i := 354) (by decide +kernel)) rfl, zt (List.mem_of_getElem? (i := 51) (by decide +kernel)) rfl, by decide +kernel, by decide⟩
def mX5_readMan : ZMI := (yX5_readMan, cX5_readMan, 5, none)
theorem cw_X5_readMan : zCW mX5_readMan 1 := ⟨zt (List.mem_of_getElem? (i := 374) (by decide +kernel)) rfl, zt (List.mem_of_getElem? (i := 51) (by decide +kernel)) rfl, by decide +kernel, by decide⟩
def mX5_readSign : ZMI := (yX5_readSign, cX5_readSign, 2, none)
theorem cw_X5_readSign : zCW mX5_readSign 1 := ⟨zt (List.mem_of_getElem? (i := 358) (by decide +kernel)) rfl, zt (List.mem_of_getElem? (i := 51) (by decide +kernel)) rfl, by decide +kernel, by decide⟩
def mX5_readNumber : ZMI := (yX5_readNumber, cX5_readNumber, 5, (some .int))
theorem cw_X5_readNumber : zCW mX5_readNumber 2 := ⟨zt (List.mem_of_getElem? (i := 366) (by decide +kernel)) rfl, zt (List.mem_of_getElem? (i := 51) (by decide +kernel)) rfl, by decide +kernel, by decide⟩
def mX5_isFigure : ZMI := (yX5_isFigure, cX5_isFigure, 1, (some .boolean))
theorem cw_X5_isFigure : zCW mX5_isFigure 1 := ⟨zt (List.mem_of_getElem? (i := 369) (by decide +kernel)) rfl, zt (List.mem_of_getElem? (i := 51) (by decide +kernel)) rfl, by decide +kernel, by decide⟩
def mX5_blame : ZMI := (yX5_blame, cX5_blame, 2, none)
theorem cw_X5_blame : zCW mX5_blame 1 := ⟨zt (List.mem_of_getElem? (i := 362) (by decide +kernel)) rfl, zt (List.mem_of_getElem? (i := 51) (by decide +kernel)) rfl, by decide +kernel, by decide⟩
def mX6_init : ZMI := (yX6_init, cX6_init, 1, none)
theorem cw_X6_init : zCW mX6_init 0 := ⟨zt (List.mem_of_getElem? (i := 69) (by decide +kernel)) rfl, zt (List.mem_of_getElem? (i := 49) (by decide +kernel)) rfl, by decide +kernel, by decide⟩
def mX6_row : ZMI := (yX6_row, cX6_row, 4, (some .int))
theorem cw_X6_row : zCW mX6_row 3 := ⟨zt (List.mem_of_getElem? (i := 262) (by decide +kernel)) rfl, zt (List.mem_of_getElem? (i := 49) (by decide +kernel)) rfl, by decide +kernel, by decide⟩
def mX6_set : ZMI := (yX6_set, cX6_set, 5, (some .int))
theorem cw_X6_set : zCW mX6_set 3 := ⟨zt (List.mem_of_getElem? (i := 286) (by decide +kernel)) rfl, zt (List.mem_of_getElem? (i := 49) (by decide +kernel)) rfl, by decide +kernel, by decide⟩
def mX6_copy : ZMI := (yX6_copy, cX6_copy, 6, (some .int))
theorem cw_X6_copy : zCW mX6_copy 5 := ⟨zt (List.mem_of_getElem? (i := 306) (by decide +kernel)) rfl, zt (List.mem_of_getElem? (i := 49) (by decide +kernel)) rfl, by decide +kernel, by decide⟩
def mX6_drop : ZMI := (yX6_drop, cX6_drop, 2, (some .int))
theorem cw_X6_drop : zCW mX6_drop 1 := ⟨zt (List.mem_of_getElem? (i := 321) (by decide +kernel)) rfl, zt (List.mem_of_getElem? (i := 49) (by decide +kernel)) rfl, by decide +kernel, by decide⟩
def mX6_feed : ZMI := (yX6_feed, cX6_feed, 2, (some .int))
theorem cw_X6_feed : zCW mX6_feed 1 := ⟨zt (List.mem_of_getElem? (i := 329) (by decide +kernel)) rfl, zt (List.mem_of_getElem? (i := 49) (by decide +kernel)) rfl, by decide +kernel, by decide⟩
def mX6_bench : ZMI := (yX6_bench, cX6_bench, 2, (some .int))
theorem cw_X6_bench : zCW mX6_bench 0 := ⟨zt (List.mem_of_getElem? (i := 342) (by decide +kernel)) rfl, zt (List.mem_of_getElem? (i := 49) (by decide +kernel)) rfl, by decide +kernel, by decide⟩
def mX6_fault : ZMI := (yX6_fault, cX6_fault, 1, (some .int))
theorem cw_X6_fault : zCW mX6_fault 0 := ⟨zt (List.mem_of_getElem? (i := 488) (by decide +kernel)) rfl, zt (List.mem_of_getElem? (i := 49) (by decide +kernel)) rfl, by decide +kernel, by decide⟩
def mX6_undo : ZMI := (yX6_undo, cX6_undo, 1, (some .int))
theorem cw_X6_undo : zCW mX6_undo 0 := ⟨zt (List.mem_of_getElem? (i := 492) (by decide +kernel)) rfl, zt (List.mem_of_getElem? (i := 49) (by decide +kernel)) rfl, by decide +kernel, by decide⟩
def mX6_hours : ZMI := (yX6_hours, cX6_hours, 3, (some .int))
theorem cw_X6_hours : zCW mX6_hours 1 := ⟨zt (List.mem_of_getElem? (i := 502) (by decide +kernel)) rfl, zt (List.mem_of_getElem? (i := 49) (by decide +kernel)) rfl, by decide +kernel, by decide⟩
def mX6_snuff : ZMI := (yX6_snuff, cX6_snuff, 2, (some .int))
theorem cw_X6_snuff : zCW mX6_snuff 1 := ⟨zt (List.mem_of_getElem? (i := 563) (by decide +kernel)) rfl, zt (List.mem_of_getElem? (i := 49) (by decide +kernel)) rfl, by decide +kernel, by decide⟩
def mX6_leave : ZMI := (yX6_leave, cX6_leave, 2, (some .int))
theorem cw_X6_leave : zCW mX6_leave 1 := ⟨zt (List.mem_of_getElem? (i := 580) (by decide +kernel)) rfl, zt (List.mem_of_getElem? (i := 49) (by decide +kernel)) rfl, by decide +kernel, by decide⟩
def mX6_come : ZMI := (yX6_come, cX6_come, 2, (some .int))
theorem cw_X6_come : zCW mX6_come 1 := ⟨zt (List.mem_of_getElem? (i := 592) (by decide +kernel)) rfl, zt (List.mem_of_getElem? (i := 49) (by decide +kernel)) rfl, by decide +kernel, by decide⟩
def mX6_june : ZMI := (yX6_june, cX6_june, 2, (some .int))
theorem cw_X6_june : zCW mX6_june 1 := ⟨zt (List.mem_of_getElem? (i := 597) (by decide +kernel)) rfl, zt (List.mem_of_getElem? (i := 49) (by decide +kernel)) rfl, by decide +kernel, by decide⟩
def mX6_man : ZMI := (yX6_man, cX6_man, 3, (some .int))
theorem cw_X6_man : zCW mX6_man 2 := ⟨zt (List.mem_of_getElem? (i := 605) (by decide +kernel)) rfl, zt (List.mem_of_getElem? (i := 49) (by decide +kernel)) rfl, by decide +kernel, by decide⟩
def mX6_place : ZMI := (yX6_place, cX6_place, 2, (some .int))
theorem cw_X6_place : zCW mX6_place 1 := ⟨zt (List.mem_of_getElem? (i := 618) (by decide +kernel)) rfl, zt (List.mem_of_getElem? (i := 49) (by decide +kernel)) rfl, by decide +kernel, by decide⟩
def mX6_sun : ZMI := (yX6_sun, cX6_sun, 2, (some .int))
theorem cw_X6_sun : zCW mX6_sun 1 := ⟨zt (List.mem_of_getElem? (i := 622) (by decide +kernel)) rfl, zt (List.mem_of_getElem? (i := 49) (by decide +kernel)) rfl, by decide +kernel, by decide⟩
def mX6_ahead : ZMI := (yX6_ahead, cX6_ahead, 4, (some .int))
theorem cw_X6_ahead : zCW mX6_ahead 3 := ⟨zt (List.mem_of_getElem? (i := 627) (by decide +kernel)) rfl, zt (List.mem_of_getElem? (i := 49) (by decide +kernel)) rfl, by decide +kernel, by decide⟩
def mX6_sunny : ZMI := (yX6_sunny, cX6_sunny, 3, (some .int))
theorem cw_X6_sunny : zCW mX6_sunny 1 := ⟨zt (List.mem_of_getElem? (i := 640) (by decide +kernel)) rfl, zt (List.mem_of_getElem? (i := 49) (by decide +kernel)) rfl, by decide +kernel, by decide⟩
def mX6_most : ZMI := (yX6_most, cX6_most, 5, (some .int))
theorem cw_X6_most : zCW mX6_most 2 := ⟨zt (List.mem_of_getElem? (i := 644) (by decide +kernel)) rfl, zt (List.mem_of_getElem? (i := 49) (by decide +kernel)) rfl, by decide +kernel, by decide⟩
def mX6_leastSnuff : ZMI := (yX6_leastSnuff, cX6_leastSnuff, 6, (some .int))
theorem cw_X6_leastSnuff : zCW mX6_leastSnuff 3 := ⟨zt (List.mem_of_getElem? (i := 648) (by decide +kernel)) rfl, zt (List.mem_of_getElem? (i := 49) (by decide +kernel)) rfl, by decide +kernel, by decide⟩
def mX6_whenToCome : ZMI := (yX6_whenToCome, cX6_whenToCome, 8, (some .int))
theorem cw_X6_whenToCome : zCW mX6_whenToCome 3 := ⟨zt (List.mem_of_getElem? (i := 652) (by decide +kernel)) rfl, zt (List.mem_of_getElem? (i := 49) (by decide +kernel)) rfl, by decide +kernel, by decide⟩
def mX6_rang : ZMI := (yX6_rang, cX6_rang, 7, (some .int))
theorem cw_X6_rang : zCW mX6_rang 3 := ⟨zt (List.mem_of_getElem? (i := 656) (by decide +kernel)) rfl, zt (List.mem_of_getElem? (i := 49) (by decide +kernel)) rfl, by decide +kernel, by decide⟩
def mX6_who : ZMI := (yX6_who, cX6_who, 8, (some .int))
theorem cw_X6_who : zCW mX6_who 4 := ⟨zt (List.mem_of_getElem? (i := 668) (by decide +kernel)) rfl, zt (List.mem_of_getElem? (i := 49) (by decide +kernel)) rfl, by decide +kernel, by decide⟩
def mX6_elm : ZMI := (yX6_elm, cX6_elm, 4, (some .int))
theorem cw_X6_elm : zCW mX6_elm 1 := ⟨zt (List.mem_of_getElem? (i := 676) (by decide +kernel)) rfl, zt (List.mem_of_getElem? (i := 49) (by decide +kernel)) rfl, by decide +kernel, by decide⟩
def mX6_lasts : ZMI := (yX6_lasts, cX6_lasts, 3, (some .int))
theorem cw_X6_lasts : zCW mX6_lasts 0 := ⟨zt (List.mem_of_getElem? (i := 680) (by decide +kernel)) rfl, zt (List.mem_of_getElem? (i := 49) (by decide +kernel)) rfl, by decide +kernel, by decide⟩
def mX6_wager : ZMI := (yX6_wager, cX6_wager, 4, (some .int))
theorem cw_X6_wager : zCW mX6_wager 3 := ⟨zt (List.mem_of_getElem? (i := 684) (by decide +kernel)) rfl, zt (List.mem_of_getElem? (i := 49) (by decide +kernel)) rfl, by decide +kernel, by decide⟩
def mX6_calls : ZMI := (yX6_calls, cX6_calls, 2, (some .int))
theorem cw_X6_calls : zCW mX6_calls 1 := ⟨zt (List.mem_of_getElem? (i := 688) (by decide +kernel)) rfl, zt (List.mem_of_getElem? (i := 49) (by decide +kernel)) rfl, by decide +kernel, by decide⟩
def mX6_late : ZMI := (yX6_late, cX6_late, 11, (some .long))
theorem cw_X6_late : zCW mX6_late 3 := ⟨zt (List.mem_of_getElem? (i := 692) (by decide +kernel)) rfl, zt (List.mem_of_getElem? (i := 49) (by decide +kernel)) rfl, by decide +kernel, by decide⟩
def mX6_drawn : ZMI := (yX6_drawn, cX6_drawn, 8, (some .int))
theorem cw_X6_drawn : zCW mX6_drawn 3 := ⟨zt (List.mem_of_getElem? (i := 717) (by decide +kernel)) rfl, zt (List.mem_of_getElem? (i := 49) (by decide +kernel)) rfl, by decide +kernel, by decide⟩
def mX6_image : ZMI := (yX6_image, cX6_image, 2, (some .int))
theorem cw_X6_image : zCW mX6_image 1 := ⟨zt (List.mem_of_getElem? (i := 728) (by decide +kernel)) rfl, zt (List.mem_of_getElem? (i := 49) (by decide +kernel)) rfl, by decide +kernel, by decide⟩
def mX6_restore : ZMI := (yX6_restore, cX6_restore, 2, (some .int))
theorem cw_X6_restore : zCW mX6_restore 1 := ⟨zt (List.mem_of_getElem? (i := 736) (by decide +kernel)) rfl, zt (List.mem_of_getElem? (i := 49) (by decide +kernel)) rfl, by decide +kernel, by decide⟩
def mX6_kind : ZMI := (yX6_kind, cX6_kind, 2, (some .int))
theorem cw_X6_kind : zCW mX6_kind 1 := ⟨zt (List.mem_of_getElem? (i := 740) (by decide +kernel)) rfl, zt (List.mem_of_getElem? (i := 49) (by decide +kernel)) rfl, by decide +kernel, by decide⟩
def mX6_as : ZMI := (yX6_as, cX6_as, 3, (some .int))
theorem cw_X6_as : zCW mX6_as 2 := ⟨zt (List.mem_of_getElem? (i := 744) (by decide +kernel)) rfl, zt (List.mem_of_getElem? (i := 49) (by decide +kernel)) rfl, by decide +kernel, by decide⟩
def mX6_ask : ZMI := (yX6_ask, cX6_ask, 3, (some .int))
theorem cw_X6_ask : zCW mX6_ask 2 := ⟨zt (List.mem_of_getElem? (i := 757) (by decide +kernel)) rfl, zt (List.mem_of_getElem? (i := 49) (by decide +kernel)) rfl, by decide +kernel, by decide⟩
def mX6_trace : ZMI := (yX6_trace, cX6_trace, 2, (some .int))
theorem cw_X6_trace : zCW mX6_trace 1 := ⟨zt (List.mem_of_getElem? (i := 782) (by decide +kernel)) rfl, zt (List.mem_of_getElem? (i := 49) (by decide +kernel)) rfl, by decide +kernel, by decide⟩
def mX6_count : ZMI := (yX6_count, cX6_count, 2, (some .int))
theorem cw_X6_count : zCW mX6_count 1 := ⟨zt (List.mem_of_getElem? (i := 786) (by decide +kernel)) rfl, zt (List.mem_of_getElem? (i := 49) (by decide +kernel)) rfl, by decide +kernel, by decide⟩
def mX6_status : ZMI := (yX6_status, cX6_status, 1, (some .int))
theorem cw_X6_status : zCW mX6_status 0 := ⟨zt (List.mem_of_getElem? (i := 794) (by decide +kernel)) rfl, zt (List.mem_of_getElem? (i := 49) (by decide +kernel)) rfl, by decide +kernel, by decide⟩
def mX6_outside : ZMI := (yX6_outside, cX6_outside, 3, (some .boolean))
theorem cw_X6_outside : zCW mX6_outside 3 := ⟨zt (List.mem_of_getElem? (i := 268) (by decide +kernel)) rfl, zt (List.mem_of_getElem? (i := 49) (by decide +kernel)) rfl, by decide +kernel, by decide⟩
def mX6_noRow : ZMI := (yX6_noRow, cX6_noRow, 1, (some .boolean))
theorem cw_X6_noRow : zCW mX6_noRow 1 := ⟨zt (List.mem_of_getElem? (i := 265) (by decide +kernel)) rfl, zt (List.mem_of_getElem? (i := 49) (by decide +kernel)) rfl, by decide +kernel, by decide⟩
def mX6_noBench : ZMI := (yX6_noBench, cX6_noBench, 1, (some .boolean))
theorem cw_X6_noBench : zCW mX6_noBench 0 := ⟨zt (List.mem_of_getElem? (i := 506) (by decide +kernel)) rfl, zt (List.mem_of_getElem? (i := 49) (by decide +kernel)) rfl, by decide +kernel, by decide⟩
def mX6_noMan : ZMI := (yX6_noMan, cX6_noMan, 2, (some .boolean))
theorem cw_X6_noMan : zCW mX6_noMan 1 := ⟨zt (List.mem_of_getElem? (i := 567) (by decide +kernel)) rfl, zt (List.mem_of_getElem? (i := 49) (by decide +kernel)) rfl, by decide +kernel, by decide⟩
def mX6_finding : ZMI := (yX6_finding, cX6_finding, 2, (some .int))
theorem cw_X6_finding : zCW mX6_finding 1 := ⟨zt (List.mem_of_getElem? (i := 273) (by decide +kernel)) rfl, zt (List.mem_of_getElem? (i := 49) (by decide +kernel)) rfl, by decide +kernel, by decide⟩
def mX6_noFinding : ZMI := (yX6_noFinding, cX6_noFinding, 2, (some .int))
theorem cw_X6_noFinding : zCW mX6_noFinding 1 := ⟨zt (List.mem_of_getElem? (i := 282) (by decide +kernel)) rfl, zt (List.mem_of_getElem? (i := 49) (by decide +kernel)) rfl, by decide +kernel, by decide⟩
def mX6_findingOf : ZMI := (yX6_findingOf, cX6_findingOf, 4, (some .int))
theorem cw_X6_findingOf : zCW mX6_findingOf 3 := ⟨zt (List.mem_of_getElem? (i := 290) (by decide +kernel)) rfl, zt (List.mem_of_getElem? (i := 49) (by decide +kernel)) rfl, by decide +kernel, by decide⟩
def mX6_foretell : ZMI := (yX6_foretell, cX6_foretell, 3, (some .int))
theorem cw_X6_foretell : zCW mX6_foretell 2 := ⟨zt (List.mem_of_getElem? (i := 631) (by decide +kernel)) rfl, zt (List.mem_of_getElem? (i := 49) (by decide +kernel)) rfl, by decide +kernel, by decide⟩
def mX6_placeOrNone : ZMI := (yX6_placeOrNone, cX6_placeOrNone, 3, (some .int))
theorem cw_X6_placeOrNone : zCW mX6_placeOrNone 2 := ⟨zt (List.mem_of_getElem? (i := 608) (by decide +kernel)) rfl, zt (List.mem_of_getElem? (i := 49) (by decide +kernel)) rfl, by decide +kernel, by decide⟩
def mX6_sitAsTold : ZMI := (yX6_sitAsTold, cX6_sitAsTold, 5, (some .boolean))
theorem cw_X6_sitAsTold : zCW mX6_sitAsTold 3 := ⟨zt (List.mem_of_getElem? (i := 660) (by decide +kernel)) rfl, zt (List.mem_of_getElem? (i := 49) (by decide +kernel)) rfl, by decide +kernel, by decide⟩
def mX6_sitsAsTold : ZMI := (yX6_sitsAsTold, cX6_sitsAsTold, 6, (some .boolean))
theorem cw_X6_sitsAsTold : zCW mX6_sitsAsTold 4 := ⟨zt (List.mem_of_getElem? (i := 672) (by decide +kernel)) rfl, zt (List.mem_of_getElem? (i := 49) (by decide +kernel)) rfl, by decide +kernel, by decide⟩
def mX6_casesWarm : ZMI := (yX6_casesWarm, cX6_casesWarm, 9, (some .long))
theorem cw_X6_casesWarm : zCW mX6_casesWarm 3 := ⟨zt (List.mem_of_getElem? (i := 701) (by decide +kernel)) rfl, zt (List.mem_of_getElem? (i := 49) (by decide +kernel)) rfl, by decide +kernel, by decide⟩
def mX6_power : ZMI := (yX6_power, cX6_power, 5, (some .long))
theorem cw_X6_power : zCW mX6_power 2 := ⟨zt (List.mem_of_getElem? (i := 710) (by decide +kernel)) rfl, zt (List.mem_of_getElem? (i := 49) (by decide +kernel)) rfl, by decide +kernel, by decide⟩
def mX6_commonDivisor : ZMI := (yX6_commonDivisor, cX6_commonDivisor, 11, (some .long))
theorem cw_X6_commonDivisor : zCW mX6_commonDivisor 2 := ⟨zt (List.mem_of_getElem? (i := 713) (by decide +kernel)) rfl, zt (List.mem_of_getElem? (i := 49) (by decide +kernel)) rfl, by decide +kernel, by decide⟩
def mX6_imageOf : ZMI := (yX6_imageOf, cX6_imageOf, 2, (some (.object "SunBench$Bench")))
theorem cw_X6_imageOf : zCW mX6_imageOf 1 := ⟨zt (List.mem_of_getElem? (i := 732) (by decide +kernel)) rfl, zt (List.mem_of_getElem? (i := 49) (by decide +kernel)) rfl, by decide +kernel, by decide⟩
def mX7_init : ZMI := (yX7_init, cX7_init, 1, none)
theorem cw_X7_init : zCW mX7_init 0 := ⟨zt (List.mem_of_getElem? (i := 799) (by decide +kernel)) rfl, zt (List.mem_of_getElem? (i := 55) (by decide +kernel)) rfl, by decide +kernel, by decide⟩
def mX7_in : ZMI := (yX7_in, cX7_in, 6, (some .boolean))
theorem cw_X7_in : zCW mX7_in 3 := ⟨zt (List.mem_of_getElem? (i := 887) (by decide +kernel)) rfl, zt (List.mem_of_getElem? (i := 55) (by decide +kernel)) rfl, by decide +kernel, by decide⟩
def mX7_finding : ZMI := (yX7_finding, cX7_finding, 2, (some .int))
theorem cw_X7_finding : zCW mX7_finding 1 := ⟨zt (List.mem_of_getElem? (i := 893) (by decide +kernel)) rfl, zt (List.mem_of_getElem? (i := 55) (by decide +kernel)) rfl, by decide +kernel, by decide⟩
def mX7_isRow : ZMI := (yX7_isRow, cX7_isRow, 1, (some .boolean))
theorem cw_X7_isRow : zCW mX7_isRow 1 := ⟨zt (List.mem_of_getElem? (i := 883) (by decide +kernel)) rfl, zt (List.mem_of_getElem? (i := 55) (by decide +kernel)) rfl, by decide +kernel, by decide⟩
def mX7_row : ZMI := (yX7_row, cX7_row, 5, (some .int))
theorem cw_X7_row : zCW mX7_row 3 := ⟨zt (List.mem_of_getElem? (i := 880) (by decide +kernel)) rfl, zt (List.mem_of_getElem? (i := 55) (by decide +kernel)) rfl, by decide +kernel, by decide⟩
def mX7_set : ZMI := (yX7_set, cX7_set, 4, (some .int))
theorem cw_X7_set : zCW mX7_set 3 := ⟨zt (List.mem_of_getElem? (i := 898) (by decide +kernel)) rfl, zt (List.mem_of_getElem? (i := 55) (by decide +kernel)) rfl, by decide +kernel, by decide⟩
def mX7_copy : ZMI := (yX7_copy, cX7_copy, 9, (some .int))
theorem cw_X7_copy : zCW mX7_copy 5 := ⟨zt (List.mem_of_getElem? (i := 902) (by decide +kernel)) rfl, zt (List.mem_of_getElem? (i := 55) (by decide +kernel)) rfl, by decide +kernel, by decide⟩
def mX7_drop : ZMI := (yX7_drop, cX7_drop, 2, (some .int))
theorem cw_X7_drop : zCW mX7_drop 1 := ⟨zt (List.mem_of_getElem? (i := 906) (by decide +kernel)) rfl, zt (List.mem_of_getElem? (i := 55) (by decide +kernel)) rfl, by decide +kernel, by decide⟩
def mX7_feed : ZMI := (yX7_feed, cX7_feed, 2, (some .int))
theorem cw_X7_feed : zCW mX7_feed 1 := ⟨zt (List.mem_of_getElem? (i := 910) (by decide +kernel)) rfl, zt (List.mem_of_getElem? (i := 55) (by decide +kernel)) rfl, by decide +kernel, by decide⟩
def mX7_bad : ZMI := (yX7_bad, cX7_bad, 2, none)
theorem cw_X7_bad : zCW mX7_bad 1 := ⟨zt (List.mem_of_getElem? (i := 945) (by decide +kernel)) rfl, zt (List.mem_of_getElem? (i := 55) (by decide +kernel)) rfl, by decide +kernel, by decide⟩
def mX7_nextToken : ZMI := (yX7_nextToken, cX7_nextToken, 1, none)
theorem cw_X7_nextToken : zCW mX7_nextToken 0 := ⟨zt (List.mem_of_getElem? (i := 928) (by decide +kernel)) rfl, zt (List.mem_of_getElem? (i := 55) (by decide +kernel)) rfl, by decide +kernel, by decide⟩
def mX7_must : ZMI := (yX7_must, cX7_must, 2, none)
theorem cw_X7_must : zCW mX7_must 1 := ⟨zt (List.mem_of_getElem? (i := 941) (by decide +kernel)) rfl, zt (List.mem_of_getElem? (i := 55) (by decide +kernel)) rfl, by decide +kernel, by decide⟩
def mX7_isLetter : ZMI := (yX7_isLetter, cX7_isLetter, 2, (some .boolean))
theorem cw_X7_isLetter : zCW mX7_isLetter 1 := ⟨zt (List.mem_of_getElem? (i := 937) (by decide +kernel)) rfl, zt (List.mem_of_getElem? (i := 55) (by decide +kernel)) rfl, by decide +kernel, by decide⟩
def mX7_number : ZMI := (yX7_number, cX7_number, 4, (some .int))
theorem cw_X7_number : zCW mX7_number 2 := ⟨zt (List.mem_of_getElem? (i := 949) (by decide +kernel)) rfl, zt (List.mem_of_getElem? (i := 55) (by decide +kernel)) rfl, by decide +kernel, by decide⟩
def mX7_mustSign : ZMI := (yX7_mustSign, cX7_mustSign, 2, none)
theorem cw_X7_mustSign : zCW mX7_mustSign 1 := ⟨zt (List.mem_of_getElem? (i := 953) (by decide +kernel)) rfl, zt (List.mem_of_getElem? (i := 55) (by decide +kernel)) rfl, by decide +kernel, by decide⟩
def mX7_begin : ZMI := (yX7_begin, cX7_begin, 1, none)
theorem cw_X7_begin : zCW mX7_begin 0 := ⟨zt (List.mem_of_getElem? (i := 924) (by decide +kernel)) rfl, zt (List.mem_of_getElem? (i := 55) (by decide +kernel)) rfl, by decide +kernel, by decide⟩
def mX7_failed : ZMI := (yX7_failed, cX7_failed, 1, (some .boolean))
theorem cw_X7_failed : zCW mX7_failed 0 := ⟨zt (List.mem_of_getElem? (i := 968) (by decide +kernel)) rfl, zt (List.mem_of_getElem? (i := 55) (by decide +kernel)) rfl, by decide +kernel, by decide⟩
def mX7_fault : ZMI := (yX7_fault, cX7_fault, 1, (some .int))
theorem cw_X7_fault : zCW mX7_fault 0 := ⟨zt (List.mem_of_getElem? (i := 916) (by decide +kernel)) rfl, zt (List.mem_of_getElem? (i := 55) (by decide +kernel)) rfl, by decide +kernel, by decide⟩
def mX7_kindBy : ZMI := (yX7_kindBy, cX7_kindBy, 1, (some .int))
theorem cw_X7_kindBy : zCW mX7_kindBy 1 := ⟨zt (List.mem_of_getElem? (i := 960) (by decide +kernel)) rfl, zt (List.mem_of_getElem? (i := 55) (by decide +kernel)) rfl, by decide +kernel, by decide⟩
def mX7_isSort : ZMI := (yX7_isSort, cX7_isSort, 1, (some .boolean))
theorem cw_X7_isSort : zCW mX7_isSort 0 := ⟨zt (List.mem_of_getElem? (i := 957) (by decide +kernel)) rfl, zt (List.mem_of_getElem? (i := 55) (by decide +kernel)) rfl, by decide +kernel, by decide⟩
def mX7_readMan : ZMI := (yX7_readMan, cX7_readMan, 5, none)
theorem cw_X7_readMan : zCW mX7_readMan 0 := ⟨zt (List.mem_of_getElem? (i := 964) (by decide +kernel)) rfl, zt (List.mem_of_getElem? (i := 55) (by decide +kernel)) rfl, by decide +kernel, by decide⟩
def mX7_bench : ZMI := (yX7_bench, cX7_bench, 2, (some .int))
theorem cw_X7_bench : zCW mX7_bench 0 := ⟨zt (List.mem_of_getElem? (i := 920) (by decide +kernel)) rfl, zt (List.mem_of_getElem? (i := 55) (by decide +kernel)) rfl, by decide +kernel, by decide⟩
def mX7_isThere : ZMI := (yX7_isThere, cX7_isThere, 1, (some .boolean))
theorem cw_X7_isThere : zCW mX7_isThere 0 := ⟨zt (List.mem_of_getElem? (i := 977) (by decide +kernel)) rfl, zt (List.mem_of_getElem? (i := 55) (by decide +kernel)) rfl, by decide +kernel, by decide⟩
def mX7_isMan : ZMI := (yX7_isMan, cX7_isMan, 2, (some .boolean))
theorem cw_X7_isMan : zCW mX7_isMan 1 := ⟨zt (List.mem_of_getElem? (i := 1022) (by decide +kernel)) rfl, zt (List.mem_of_getElem? (i := 55) (by decide +kernel)) rfl, by decide +kernel, by decide⟩
def mX7_of : ZMI := (yX7_of, cX7_of, 3, (some .int))
theorem cw_X7_of : zCW mX7_of 3 := ⟨zt (List.mem_of_getElem? (i := 990) (by decide +kernel)) rfl, zt (List.mem_of_getElem? (i := 55) (by decide +kernel)) rfl, by decide +kernel, by decide⟩
def mX7_sunOf : ZMI := (yX7_sunOf, cX7_sunOf, 3, (some .int))
theorem cw_X7_sunOf : zCW mX7_sunOf 2 := ⟨zt (List.mem_of_getElem? (i := 1008) (by decide +kernel)) rfl, zt (List.mem_of_getElem? (i := 55) (by decide +kernel)) rfl, by decide +kernel, by decide⟩
def mX7_isSunny : ZMI := (yX7_isSunny, cX7_isSunny, 3, (some .boolean))
theorem cw_X7_isSunny : zCW mX7_isSunny 2 := ⟨zt (List.mem_of_getElem? (i := 1005) (by decide +kernel)) rfl, zt (List.mem_of_getElem? (i := 55) (by decide +kernel)) rfl, by decide +kernel, by decide⟩
def mX7_placeOf : ZMI := (yX7_placeOf, cX7_placeOf, 4, (some .int))
theorem cw_X7_placeOf : zCW mX7_placeOf 2 := ⟨zt (List.mem_of_getElem? (i := 1002) (by decide +kernel)) rfl, zt (List.mem_of_getElem? (i := 55) (by decide +kernel)) rfl, by decide +kernel, by decide⟩
def mX7_hasSun : ZMI := (yX7_hasSun, cX7_hasSun, 3, (some .boolean))
theorem cw_X7_hasSun : zCW mX7_hasSun 2 := ⟨zt (List.mem_of_getElem? (i := 999) (by decide +kernel)) rfl, zt (List.mem_of_getElem? (i := 55) (by decide +kernel)) rfl, by decide +kernel, by decide⟩
def mX7_sitDown : ZMI := (yX7_sitDown, cX7_sitDown, 4, none)
theorem cw_X7_sitDown : zCW mX7_sitDown 3 := ⟨zt (List.mem_of_getElem? (i := 993) (by decide +kernel)) rfl, zt (List.mem_of_getElem? (i := 55) (by decide +kernel)) rfl, by decide +kernel, by decide⟩
def mX7_getUp : ZMI := (yX7_getUp, cX7_getUp, 5, none)
theorem cw_X7_getUp : zCW mX7_getUp 3 := ⟨zt (List.mem_of_getElem? (i := 1011) (by decide +kernel)) rfl, zt (List.mem_of_getElem? (i := 55) (by decide +kernel)) rfl, by decide +kernel, by decide⟩
def mX7_change : ZMI := (yX7_change, cX7_change, 3, none)
theorem cw_X7_change : zCW mX7_change 2 := ⟨zt (List.mem_of_getElem? (i := 1025) (by decide +kernel)) rfl, zt (List.mem_of_getElem? (i := 55) (by decide +kernel)) rfl, by decide +kernel, by decide⟩
def mX7_goes : ZMI := (yX7_goes, cX7_goes, 4, (some .boolean))
theorem cw_X7_goes : zCW mX7_goes 2 := ⟨zt (List.mem_of_getElem? (i := 996) (by decide +kernel)) rfl, zt (List.mem_of_getElem? (i := 55) (by decide +kernel)) rfl, by decide +kernel, by decide⟩
def mX7_hour : ZMI := (yX7_hour, cX7_hour, 7, (some .int))
theorem cw_X7_hour : zCW mX7_hour 2 := ⟨zt (List.mem_of_getElem? (i := 987) (by decide +kernel)) rfl, zt (List.mem_of_getElem? (i := 55) (by decide +kernel)) rfl, by decide +kernel, by decide⟩
def mX7_hoursOf : ZMI := (yX7_hoursOf, cX7_hoursOf, 5, (some .int))
theorem cw_X7_hoursOf : zCW mX7_hoursOf 2 := ⟨zt (List.mem_of_getElem? (i := 1072) (by decide +kernel)) rfl, zt (List.mem_of_getElem? (i := 55) (by decide +kernel)) rfl, by decide +kernel, by decide⟩
def mX7_layThen : ZMI := (yX7_layThen, cX7_layThen, 2, none)
theorem cw_X7_layThen : zCW mX7_layThen 0 := ⟨zt (List.mem_of_getElem? (i := 1064) (by decide +kernel)) rfl, zt (List.mem_of_getElem? (i := 55) (by decide +kernel)) rfl, by decide +kernel, by decide⟩
def mX7_warmBehind : ZMI := (yX7_warmBehind, cX7_warmBehind, 4, (some .int))
theorem cw_X7_warmBehind : zCW mX7_warmBehind 2 := ⟨zt (List.mem_of_getElem? (i := 1068) (by decide +kernel)) rfl, zt (List.mem_of_getElem? (i := 55) (by decide +kernel)) rfl, by decide +kernel, by decide⟩
def mX7_sitting : ZMI := (yX7_sitting, cX7_sitting, 3, (some .int))
theorem cw_X7_sitting : zCW mX7_sitting 1 := ⟨zt (List.mem_of_getElem? (i := 1014) (by decide +kernel)) rfl, zt (List.mem_of_getElem? (i := 55) (by decide +kernel)) rfl, by decide +kernel, by decide⟩
def mX7_keep : ZMI := (yX7_keep, cX7_keep, 2, none)
theorem cw_X7_keep : zCW mX7_keep 0 := ⟨zt (List.mem_of_getElem? (i := 983) (by decide +kernel)) rfl, zt (List.mem_of_getElem? (i := 55) (by decide +kernel)) rfl, by decide +kernel, by decide⟩
def mX7_hours : ZMI := (yX7_hours, cX7_hours, 4, (some .int))
theorem cw_X7_hours : zCW mX7_hours 1 := ⟨zt (List.mem_of_getElem? (i := 973) (by decide +kernel)) rfl, zt (List.mem_of_getElem? (i := 55) (by decide +kernel)) rfl, by decide +kernel, by decide⟩
def mX7_snuff : ZMI := (yX7_snuff, cX7_snuff, 2, (some .int))
theorem cw_X7_snuff : zCW mX7_snuff 1 := ⟨zt (List.mem_of_getElem? (i := 1018) (by decide +kernel)) rfl, zt (List.mem_of_getElem? (i := 55) (by decide +kernel)) rfl, by decide +kernel, by decide⟩
def mX7_leave : ZMI := (yX7_leave, cX7_leave, 2, (some .int))
theorem cw_X7_leave : zCW mX7_leave 1 := ⟨zt (List.mem_of_getElem? (i := 1029) (by decide +kernel)) rfl, zt (List.mem_of_getElem? (i := 55) (by decide +kernel)) rfl, by decide +kernel, by decide⟩
def mX7_come : ZMI := (yX7_come, cX7_come, 2, (some .int))
theorem cw_X7_come : zCW mX7_come 1 := ⟨zt (List.mem_of_getElem? (i := 1033) (by decide +kernel)) rfl, zt (List.mem_of_getElem? (i := 55) (by decide +kernel)) rfl, by decide +kernel, by decide⟩
def mX7_june : ZMI := (yX7_june, cX7_june, 4, (some .int))
theorem cw_X7_june : zCW mX7_june 1 := ⟨zt (List.mem_of_getElem? (i := 1037) (by decide +kernel)) rfl, zt (List.mem_of_getElem? (i := 55) (by decide +kernel)) rfl, by decide +kernel, by decide⟩
def mX7_undo : ZMI := (yX7_undo, cX7_undo, 2, (some .int))
theorem cw_X7_undo : zCW mX7_undo 0 := ⟨zt (List.mem_of_getElem? (i := 1041) (by decide +kernel)) rfl, zt (List.mem_of_getElem? (i := 55) (by decide +kernel)) rfl, by decide +kernel, by decide⟩
def mX7_man : ZMI := (yX7_man, cX7_man, 3, (some .int))
theorem cw_X7_man : zCW mX7_man 2 := ⟨zt (List.mem_of_getElem? (i := 1045) (by decide +kernel)) rfl, zt (List.mem_of_getElem? (i := 55) (by decide +kernel)) rfl, by decide +kernel, by decide⟩
def mX7_place : ZMI := (yX7_place, cX7_place, 2, (some .int))
theorem cw_X7_place : zCW mX7_place 1 := ⟨zt (List.mem_of_getElem? (i := 1049) (by decide +kernel)) rfl, zt (List.mem_of_getElem? (i := 55) (by decide +kernel)) rfl, by decide +kernel, by decide⟩
def mX7_sun : ZMI := (yX7_sun, cX7_sun, 2, (some .int))
theorem cw_X7_sun : zCW mX7_sun 1 := ⟨zt (List.mem_of_getElem? (i := 1054) (by decide +kernel)) rfl, zt (List.mem_of_getElem? (i := 55) (by decide +kernel)) rfl, by decide +kernel, by decide⟩
def mX7_ahead : ZMI := (yX7_ahead, cX7_ahead, 5, (some .int))
theorem cw_X7_ahead : zCW mX7_ahead 3 := ⟨zt (List.mem_of_getElem? (i := 1059) (by decide +kernel)) rfl, zt (List.mem_of_getElem? (i := 55) (by decide +kernel)) rfl, by decide +kernel, by decide⟩
def mX7_sunny : ZMI := (yX7_sunny, cX7_sunny, 4, (some .int))
theorem cw_X7_sunny : zCW mX7_sunny 1 := ⟨zt (List.mem_of_getElem? (i := 1076) (by decide +kernel)) rfl, zt (List.mem_of_getElem? (i := 55) (by decide +kernel)) rfl, by decide +kernel, by decide⟩
def mX7_most : ZMI := (yX7_most, cX7_most, 6, (some .int))
theorem cw_X7_most : zCW mX7_most 2 := ⟨zt (List.mem_of_getElem? (i := 1080) (by decide +kernel)) rfl, zt (List.mem_of_getElem? (i := 55) (by decide +kernel)) rfl, by decide +kernel, by decide⟩
def mX7_leastSnuff : ZMI := (yX7_leastSnuff, cX7_leastSnuff, 7, (some .int))
theorem cw_X7_leastSnuff : zCW mX7_leastSnuff 3 := ⟨zt (List.mem_of_getElem? (i := 1084) (by decide +kernel)) rfl, zt (List.mem_of_getElem? (i := 55) (by decide +kernel)) rfl, by decide +kernel, by decide⟩
def mX7_whenToCome : ZMI := (yX7_whenToCome, cX7_whenToCome, 9, (some .int))
theorem cw_X7_whenToCome : zCW mX7_whenToCome 3 := ⟨zt (List.mem_of_getElem? (i := 1088) (by decide +kernel)) rfl, zt (List.mem_of_getElem? (i := 55) (by decide +kernel)) rfl, by decide +kernel, by decide⟩
def mX7_sitSo : ZMI := (yX7_sitSo, cX7_sitSo, 6, (some .boolean))
theorem cw_X7_sitSo : zCW mX7_sitSo 2 := ⟨zt (List.mem_of_getElem? (i := 1098) (by decide +kernel)) rfl, zt (List.mem_of_getElem? (i := 55) (by decide +kernel)) rfl, by decide +kernel, by decide⟩
def mX7_rang : ZMI := (yX7_rang, cX7_rang, 6, (some .int))
theorem cw_X7_rang : zCW mX7_rang 3 := ⟨zt (List.mem_of_getElem? (i := 1093) (by decide +kernel)) rfl, zt (List.mem_of_getElem? (i := 55) (by decide +kernel)) rfl, by decide +kernel, by decide⟩
def mX7_who : ZMI := (yX7_who, cX7_who, 11, (some .int))
theorem cw_X7_who : zCW mX7_who 4 := ⟨zt (List.mem_of_getElem? (i := 1102) (by decide +kernel)) rfl, zt (List.mem_of_getElem? (i := 55) (by decide +kernel)) rfl, by decide +kernel, by decide⟩
def mX7_elm : ZMI := (yX7_elm, cX7_elm, 5, (some .int))
theorem cw_X7_elm : zCW mX7_elm 1 := ⟨zt (List.mem_of_getElem? (i := 1106) (by decide +kernel)) rfl, zt (List.mem_of_getElem? (i := 55) (by decide +kernel)) rfl, by decide +kernel, by decide⟩
def mX7_lasts : ZMI := (yX7_lasts, cX7_lasts, 3, (some .int))
theorem cw_X7_lasts : zCW mX7_lasts 0 := ⟨zt (List.mem_of_getElem? (i := 1110) (by decide +kernel)) rfl, zt (List.mem_of_getElem? (i := 55) (by decide +kernel)) rfl, by decide +kernel, by decide⟩
def mX7_wager : ZMI := (yX7_wager, cX7_wager, 5, (some .int))
theorem cw_X7_wager : zCW mX7_wager 3 := ⟨zt (List.mem_of_getElem? (i := 1114) (by decide +kernel)) rfl, zt (List.mem_of_getElem? (i := 55) (by decide +kernel)) rfl, by decide +kernel, by decide⟩
def mX7_calls : ZMI := (yX7_calls, cX7_calls, 2, (some .int))
theorem cw_X7_calls : zCW mX7_calls 1 := ⟨zt (List.mem_of_getElem? (i := 1118) (by decide +kernel)) rfl, zt (List.mem_of_getElem? (i := 55) (by decide +kernel)) rfl, by decide +kernel, by decide⟩
def mX7_late : ZMI := (yX7_late, cX7_late, 15, (some .long))
theorem cw_X7_late : zCW mX7_late 3 := ⟨zt (List.mem_of_getElem? (i := 1122) (by decide +kernel)) rfl, zt (List.mem_of_getElem? (i := 55) (by decide +kernel)) rfl, by decide +kernel, by decide⟩
def mX7_drawn : ZMI := (yX7_drawn, cX7_drawn, 10, (some .int))
theorem cw_X7_drawn : zCW mX7_drawn 3 := ⟨zt (List.mem_of_getElem? (i := 1128) (by decide +kernel)) rfl, zt (List.mem_of_getElem? (i := 55) (by decide +kernel)) rfl, by decide +kernel, by decide⟩
def mX7_image : ZMI := (yX7_image, cX7_image, 3, (some .int))
theorem cw_X7_image : zCW mX7_image 1 := ⟨zt (List.mem_of_getElem? (i := 1135) (by decide +kernel)) rfl, zt (List.mem_of_getElem? (i := 55) (by decide +kernel)) rfl, by decide +kernel, by decide⟩
def mX7_restore : ZMI := (yX7_restore, cX7_restore, 3, (some .int))
theorem cw_X7_restore : zCW mX7_restore 1 := ⟨zt (List.mem_of_getElem? (i := 1139) (by decide +kernel)) rfl, zt (List.mem_of_getElem? (i := 55) (by decide +kernel)) rfl, by decide +kernel, by decide⟩
def mX7_isOf : ZMI := (yX7_isOf, cX7_isOf, 2, (some .boolean))
theorem cw_X7_isOf : zCW mX7_isOf 2 := ⟨zt (List.mem_of_getElem? (i := 1151) (by decide +kernel)) rfl, zt (List.mem_of_getElem? (i := 55) (by decide +kernel)) rfl, by decide +kernel, by decide⟩
def mX7_kind : ZMI := (yX7_kind, cX7_kind, 2, (some .int))
theorem cw_X7_kind : zCW mX7_kind 1 := ⟨zt (List.mem_of_getElem? (i := 1143) (by decide +kernel)) rfl, zt (List.mem_of_getElem? (i := 55) (by decide +kernel)) rfl, by decide +kernel, by decide⟩
def mX7_as : ZMI := (yX7_as, cX7_as, 3, (some .int))
theorem cw_X7_as : zCW mX7_as 2 := ⟨zt (List.mem_of_getElem? (i := 1147) (by decide +kernel)) rfl, zt (List.mem_of_getElem? (i := 55) (by decide +kernel)) rfl, by decide +kernel, by decide⟩
def mX7_began : ZMI := (yX7_began, cX7_began, 2, none)
theorem cw_X7_began : zCW mX7_began 1 := ⟨zt (List.mem_of_getElem? (i := 1167) (by decide +kernel)) rfl, zt (List.mem_of_getElem? (i := 55) (by decide +kernel)) rfl, by decide +kernel, by decide⟩
def mX7_plainSize : ZMI := (yX7_plainSize, cX7_plainSize, 2, (some .int))
theorem cw_X7_plainSize : zCW mX7_plainSize 1 := ⟨zt (List.mem_of_getElem? (i := 1171) (by decide +kernel)) rfl, zt (List.mem_of_getElem? (i := 55) (by decide +kernel)) rfl, by decide +kernel, by decide⟩
def mX7_boreSize : ZMI := (yX7_boreSize, cX7_boreSize, 4, (some .int))
theorem cw_X7_boreSize : zCW mX7_boreSize 1 := ⟨zt (List.mem_of_getElem? (i := 1163) (by decide +kernel)) rfl, zt (List.mem_of_getElem? (i := 55) (by decide +kernel)) rfl, by decide +kernel, by decide⟩
def mX7_markOf : ZMI := (yX7_markOf, cX7_markOf, 4, (some .int))
theorem cw_X7_markOf : zCW mX7_markOf 1 := ⟨zt (List.mem_of_getElem? (i := 1175) (by decide +kernel)) rfl, zt (List.mem_of_getElem? (i := 55) (by decide +kernel)) rfl, by decide +kernel, by decide⟩
def mX7_sizeOf : ZMI := (yX7_sizeOf, cX7_sizeOf, 4, (some .int))
theorem cw_X7_sizeOf : zCW mX7_sizeOf 1 := ⟨zt (List.mem_of_getElem? (i := 1159) (by decide +kernel)) rfl, zt (List.mem_of_getElem? (i := 55) (by decide +kernel)) rfl, by decide +kernel, by decide⟩
def mX7_ask : ZMI := (yX7_ask, cX7_ask, 3, (some .int))
theorem cw_X7_ask : zCW mX7_ask 2 := ⟨zt (List.mem_of_getElem? (i := 1155) (by decide +kernel)) rfl, zt (List.mem_of_getElem? (i := 55) (by decide +kernel)) rfl, by decide +kernel, by decide⟩
def mX7_trace : ZMI := (yX7_trace, cX7_trace, 2, (some .int))
theorem cw_X7_trace : zCW mX7_trace 1 := ⟨zt (List.mem_of_getElem? (i := 1179) (by decide +kernel)) rfl, zt (List.mem_of_getElem? (i := 55) (by decide +kernel)) rfl, by decide +kernel, by decide⟩
def mX7_count : ZMI := (yX7_count, cX7_count, 4, (some .int))
theorem cw_X7_count : zCW mX7_count 1 := ⟨zt (List.mem_of_getElem? (i := 1183) (by decide +kernel)) rfl, zt (List.mem_of_getElem? (i := 55) (by decide +kernel)) rfl, by decide +kernel, by decide⟩
def mX7_status : ZMI := (yX7_status, cX7_status, 1, (some .int))
theorem cw_X7_status : zCW mX7_status 0 := ⟨zt (List.mem_of_getElem? (i := 1187) (by decide +kernel)) rfl, zt (List.mem_of_getElem? (i := 55) (by decide +kernel)) rfl, by decide +kernel, by decide⟩
def mL_law : ZMI := (yL_law, cL_law, 4, some .boolean)
def mJ6_bitCount_0f7a4 : ZMI := (yJ6_bitCount_0f7a4, cJ6_bitCount_0f7a4, 1, (some .int))
theorem cw_J6_bitCount_0f7a4 : zCW mJ6_bitCount_0f7a4 1 := ⟨zt (List.mem_of_getElem? (i := 704) (by decide +kernel)) rfl, zt (List.mem_of_getElem? (i := 63) (by decide +kernel)) rfl, by decide +kernel, by decide⟩
def mJ9_abs_0f7a4 : ZMI := (yJ9_abs_0f7a4, cJ9_abs_0f7a4, 1, (some .int))
theorem cw_J9_abs_0f7a4 : zCW mJ9_abs_0f7a4 1 := ⟨zt (List.mem_of_getElem? (i := 526) (by decide +kernel)) rfl, zt (List.mem_of_getElem? (i := 59) (by decide +kernel)) rfl, by decide +kernel, by decide⟩
def mJ9_max_7cf53 : ZMI := (yJ9_max_7cf53, cJ9_max_7cf53, 2, (some .int))
theorem cw_J9_max_7cf53 : zCW mJ9_max_7cf53 2 := ⟨zt (List.mem_of_getElem? (i := 406) (by decide +kernel)) rfl, zt (List.mem_of_getElem? (i := 59) (by decide +kernel)) rfl, by decide +kernel, by decide⟩
def mJ9_min_7cf53 : ZMI := (yJ9_min_7cf53, cJ9_min_7cf53, 2, (some .int))
theorem cw_J9_min_7cf53 : zCW mJ9_min_7cf53 2 := ⟨zt (List.mem_of_getElem? (i := 409) (by decide +kernel)) rfl, zt (List.mem_of_getElem? (i := 59) (by decide +kernel)) rfl, by decide +kernel, by decide⟩
def mJ0_length_8abf5 : ZMI := (yJ0_length_8abf5, cJ0_length_8abf5, 1, (some .int))
theorem cw_J0_length_8abf5 : zCW mJ0_length_8abf5 0 := ⟨zt (List.mem_of_getElem? (i := 393) (by decide +kernel)) rfl, zt (List.mem_of_getElem? (i := 57) (by decide +kernel)) rfl, by decide +kernel, by decide⟩
def mJ0_indexOf_0f7a4 : ZMI := (yJ0_indexOf_0f7a4, cJ0_indexOf_0f7a4, 2, (some .int))
theorem cw_J0_indexOf_0f7a4 : zCW mJ0_indexOf_0f7a4 1 := ⟨zt (List.mem_of_getElem? (i := 379) (by decide +kernel)) rfl, zt (List.mem_of_getElem? (i := 57) (by decide +kernel)) rfl, by decide +kernel, by decide⟩
def mJ0_indexOf_7cf53 : ZMI := (yJ0_indexOf_7cf53, cJ0_indexOf_7cf53, 3, (some .int))
theorem cw_J0_indexOf_7cf53 : zCW mJ0_indexOf_7cf53 2 := ⟨zt (List.mem_of_getElem? (i := 383) (by decide +kernel)) rfl, zt (List.mem_of_getElem? (i := 57) (by decide +kernel)) rfl, by decide +kernel, by decide⟩
def mJ0_coder_7d493 : ZMI := (yJ0_coder_7d493, cJ0_coder_7d493, 1, (some .byte))
theorem cw_J0_coder_7d493 : zCW mJ0_coder_7d493 0 := ⟨zt (List.mem_of_getElem? (i := 397) (by decide +kernel)) rfl, zt (List.mem_of_getElem? (i := 57) (by decide +kernel)) rfl, by decide +kernel, by decide⟩
def mJ0_isLatin1_aae02 : ZMI := (yJ0_isLatin1_aae02, cJ0_isLatin1_aae02, 1, (some .boolean))
theorem cw_J0_isLatin1_aae02 : zCW mJ0_isLatin1_aae02 0 := ⟨zt (List.mem_of_getElem? (i := 387) (by decide +kernel)) rfl, zt (List.mem_of_getElem? (i := 57) (by decide +kernel)) rfl, by decide +kernel, by decide⟩
def mJ0_checkBoundsBeginEnd_23922 : ZMI := (yJ0_checkBoundsBeginEnd_23922, cJ0_checkBoundsBeginEnd_23922, 3, none)
theorem cw_J0_checkBoundsBeginEnd_23922 : zCW mJ0_checkBoundsBeginEnd_23922 3 := ⟨zt (List.mem_of_getElem? (i := 430) (by decide +kernel)) rfl, zt (List.mem_of_getElem? (i := 57) (by decide +kernel)) rfl, by decide +kernel, by decide⟩
def mJ1_canEncode_9a6ad : ZMI := (yJ1_canEncode_9a6ad, cJ1_canEncode_9a6ad, 1, (some .boolean))
theorem cw_J1_canEncode_9a6ad : zCW mJ1_canEncode_9a6ad 1 := ⟨zt (List.mem_of_getElem? (i := 403) (by decide +kernel)) rfl, zt (List.mem_of_getElem? (i := 58) (by decide +kernel)) rfl, by decide +kernel, by decide⟩
def mJ1_indexOf_4cfef : ZMI := (yJ1_indexOf_4cfef, cJ1_indexOf_4cfef, 4, (some .int))
theorem cw_J1_indexOf_4cfef : zCW mJ1_indexOf_4cfef 4 := ⟨zt (List.mem_of_getElem? (i := 400) (by decide +kernel)) rfl, zt (List.mem_of_getElem? (i := 58) (by decide +kernel)) rfl, by decide +kernel, by decide⟩
def mJ1_indexOfChar_4cfef : ZMI := (yJ1_indexOfChar_4cfef, cJ1_indexOfChar_4cfef, 6, (some .int))
theorem cw_J1_indexOfChar_4cfef : zCW mJ1_indexOfChar_4cfef 4 := ⟨zt (List.mem_of_getElem? (i := 412) (by decide +kernel)) rfl, zt (List.mem_of_getElem? (i := 58) (by decide +kernel)) rfl, by decide +kernel, by decide⟩
theorem lk_X0_5 : Cond.methodLink RX0 5 objectInit ∈ ztb ∧ Cond.instanceMethod objectInit ∈ ztb ∧ Cond.code objectInit ⟨#[0xb1]⟩ 1 none ∈ ztb := ⟨zt (List.mem_of_getElem? (i := 197) (by decide +kernel)) rfl, zt (List.mem_of_getElem? (i := 71) (by decide +kernel)) rfl, zt (List.mem_of_getElem? (i := 72) (by decide +kernel)) rfl⟩
theorem cl_X0_11 : Cond.classLink RX0 11 "[[I" ∈ ztb := zt (List.mem_of_getElem? (i := 198) (by decide +kernel)) rfl
theorem fl_X0_13 : zFL RX0 13 0 0 := ⟨_, rfl, by decide, zt (List.mem_of_getElem? (i := 199) (by decide +kernel)) rfl⟩
theorem fl_X0_16 : zFL RX0 16 0 1 := ⟨_, rfl, by decide, zt (List.mem_of_getElem? (i := 200) (by decide +kernel)) rfl⟩
theorem fl_X0_20 : zFL RX0 20 0 2 := ⟨_, rfl, by decide, zt (List.mem_of_getElem? (i := 201) (by decide +kernel)) rfl⟩
theorem fl_X0_23 : zFL RX0 23 2 6 := ⟨_, rfl, by decide, zt (List.mem_of_getElem? (i := 144) (by decide +kernel)) rfl⟩
theorem fl_X0_28 : zFL RX0 28 2 7 := ⟨_, rfl, by decide, zt (List.mem_of_getElem? (i := 147) (by decide +kernel)) rfl⟩
theorem fl_X0_31 : zFL RX0 31 2 8 := ⟨_, rfl, by decide, zt (List.mem_of_getElem? (i := 150) (by decide +kernel)) rfl⟩
theorem fl_X0_35 : zFL RX0 35 2 9 := ⟨_, rfl, by decide, zt (List.mem_of_getElem? (i := 153) (by decide +kernel)) rfl⟩
theorem fl_X0_38 : zFL RX0 38 2 10 := ⟨_, rfl, by decide, zt (List.mem_of_getElem? (i := 156) (by decide +kernel)) rfl⟩
theorem lk_X0_42 : Cond.methodLink RX0 42 arraycopyName ∈ ztb ∧ Cond.native arraycopyName ∈ ztb ∧ Cond.static arraycopyName ∈ ztb ∧ Cond.initialized "java/lang/System" ∈ ztb := ⟨zt (List.mem_of_getElem? (i := 498) (by decide +kernel)) rfl, zt (List.mem_of_getElem? (i := 317) (by decide +kernel)) rfl, zt (List.mem_of_getElem? (i := 316) (by decide +kernel)) rfl, zt (List.mem_of_getElem? (i := 56) (by decide +kernel)) rfl⟩
theorem fl_X0_48 : zFL RX0 48 2 11 := ⟨_, rfl, by decide, zt (List.mem_of_getElem? (i := 159) (by decide +kernel)) rfl⟩
theorem fl_X0_51 : zFL RX0 51 2 12 := ⟨_, rfl, by decide, zt (List.mem_of_getElem? (i := 163) (by decide +kernel)) rfl⟩
theorem lk_X0_54 : zLS RX0 54 mJ9_min_7cf53 := ⟨zt (List.mem_of_getElem? (i := 511) (by decide +kernel)) rfl, zt (List.mem_of_getElem? (i := 408) (by decide +kernel)) rfl⟩
theorem lk_X1_1 : Cond.methodLink RX1 1 objectInit ∈ ztb ∧ Cond.instanceMethod objectInit ∈ ztb ∧ Cond.code objectInit ⟨#[0xb1]⟩ 1 none ∈ ztb := ⟨zt (List.mem_of_getElem? (i := 215) (by decide +kernel)) rfl, zt (List.mem_of_getElem? (i := 71) (by decide +kernel)) rfl, zt (List.mem_of_getElem? (i := 72) (by decide +kernel)) rfl⟩
theorem fl_X1_9 : zFL RX1 9 1 0 := ⟨_, rfl, by decide, zt (List.mem_of_getElem? (i := 216) (by decide +kernel)) rfl⟩
theorem fl_X1_13 : zFL RX1 13 1 1 := ⟨_, rfl, by decide, zt (List.mem_of_getElem? (i := 218) (by decide +kernel)) rfl⟩
theorem lk_X1_17 : zLV RX1 17 mX1_answer := ⟨zt (List.mem_of_getElem? (i := 762) (by decide +kernel)) rfl, zt (List.mem_of_getElem? (i := 764) (by decide +kernel)) rfl, zt (List.mem_of_getElem? (i := 21) (by decide +kernel)) rfl⟩
theorem fl_X1_21 : zFL RX1 21 2 3 := ⟨_, rfl, by decide, zt (List.mem_of_getElem? (i := 136) (by decide +kernel)) rfl⟩
theorem fk_X1_26 : Cond.fieldLink RX1 26 "SunBench$Asks" "SIZE_BODIES" "[I" ∈ ztb := zt (List.mem_of_getElem? (i := 766) (by decide +kernel)) rfl
theorem fk_X1_29 : Cond.fieldLink RX1 29 "SunBench$Asks" "MARK_BODIES" "[I" ∈ ztb := zt (List.mem_of_getElem? (i := 768) (by decide +kernel)) rfl
theorem lk_X1_34 : zLS RX1 34 mX3_nearest := ⟨zt (List.mem_of_getElem? (i := 770) (by decide +kernel)) rfl, zt (List.mem_of_getElem? (i := 749) (by decide +kernel)) rfl⟩
theorem lk_X1_38 : zLV RX1 38 mX1_give := ⟨zt (List.mem_of_getElem? (i := 771) (by decide +kernel)) rfl, zt (List.mem_of_getElem? (i := 773) (by decide +kernel)) rfl, zt (List.mem_of_getElem? (i := 22) (by decide +kernel)) rfl⟩
theorem lk_X1_41 : zLV RX1 41 mX1_leaveInTrace := ⟨zt (List.mem_of_getElem? (i := 775) (by decide +kernel)) rfl, zt (List.mem_of_getElem? (i := 777) (by decide +kernel)) rfl, zt (List.mem_of_getElem? (i := 23) (by decide +kernel)) rfl⟩
theorem fl_X1_45 : zFL RX1 45 2 11 := ⟨_, rfl, by decide, zt (List.mem_of_getElem? (i := 160) (by decide +kernel)) rfl⟩
theorem fl_X1_48 : zFL RX1 48 2 4 := ⟨_, rfl, by decide, zt (List.mem_of_getElem? (i := 139) (by decide +kernel)) rfl⟩
theorem lk_X2_3 : Cond.methodLink RX2 3 objectInit ∈ ztb ∧ Cond.instanceMethod objectInit ∈ ztb ∧ Cond.code objectInit ⟨#[0xb1]⟩ 1 none ∈ ztb := ⟨zt (List.mem_of_getElem? (i := 126) (by decide +kernel)) rfl, zt (List.mem_of_getElem? (i := 71) (by decide +kernel)) rfl, zt (List.mem_of_getElem? (i := 72) (by decide +kernel)) rfl⟩
theorem fl_X2_9 : zFL RX2 9 2 0 := ⟨_, rfl, by decide, zt (List.mem_of_getElem? (i := 127) (by decide +kernel)) rfl⟩
theorem fl_X2_15 : zFL RX2 15 2 1 := ⟨_, rfl, by decide, zt (List.mem_of_getElem? (i := 129) (by decide +kernel)) rfl⟩
theorem fl_X2_18 : zFL RX2 18 2 2 := ⟨_, rfl, by decide, zt (List.mem_of_getElem? (i := 132) (by decide +kernel)) rfl⟩
theorem fl_X2_21 : zFL RX2 21 2 3 := ⟨_, rfl, by decide, zt (List.mem_of_getElem? (i := 135) (by decide +kernel)) rfl⟩
theorem fl_X2_25 : zFL RX2 25 2 4 := ⟨_, rfl, by decide, zt (List.mem_of_getElem? (i := 138) (by decide +kernel)) rfl⟩
theorem fl_X2_28 : zFL RX2 28 2 5 := ⟨_, rfl, by decide, zt (List.mem_of_getElem? (i := 141) (by decide +kernel)) rfl⟩
theorem fl_X2_31 : zFL RX2 31 2 6 := ⟨_, rfl, by decide, zt (List.mem_of_getElem? (i := 143) (by decide +kernel)) rfl⟩
theorem fl_X2_34 : zFL RX2 34 2 7 := ⟨_, rfl, by decide, zt (List.mem_of_getElem? (i := 146) (by decide +kernel)) rfl⟩
theorem fl_X2_37 : zFL RX2 37 2 8 := ⟨_, rfl, by decide, zt (List.mem_of_getElem? (i := 149) (by decide +kernel)) rfl⟩
theorem fl_X2_41 : zFL RX2 41 2 9 := ⟨_, rfl, by decide, zt (List.mem_of_getElem? (i := 152) (by decide +kernel)) rfl⟩
theorem fl_X2_44 : zFL RX2 44 2 10 := ⟨_, rfl, by decide, zt (List.mem_of_getElem? (i := 155) (by decide +kernel)) rfl⟩
theorem fl_X2_47 : zFL RX2 47 2 11 := ⟨_, rfl, by decide, zt (List.mem_of_getElem? (i := 158) (by decide +kernel)) rfl⟩
theorem fl_X2_50 : zFL RX2 50 2 12 := ⟨_, rfl, by decide, zt (List.mem_of_getElem? (i := 162) (by decide +kernel)) rfl⟩
theorem lk_X2_53 : zLV RX2 53 mX2_seat := ⟨zt (List.mem_of_getElem? (i := 466) (by decide +kernel)) rfl, zt (List.mem_of_getElem? (i := 467) (by decide +kernel)) rfl, zt (List.mem_of_getElem? (i := 468) (by decide +kernel)) rfl⟩
theorem lk_X2_57 : zLS RX2 57 mJ9_abs_0f7a4 := ⟨zt (List.mem_of_getElem? (i := 524) (by decide +kernel)) rfl, zt (List.mem_of_getElem? (i := 525) (by decide +kernel)) rfl⟩
theorem lk_X2_63 : zLS RX2 63 mJ9_min_7cf53 := ⟨zt (List.mem_of_getElem? (i := 527) (by decide +kernel)) rfl, zt (List.mem_of_getElem? (i := 408) (by decide +kernel)) rfl⟩
theorem lk_X2_67 : zLS RX2 67 mJ9_max_7cf53 := ⟨zt (List.mem_of_getElem? (i := 528) (by decide +kernel)) rfl, zt (List.mem_of_getElem? (i := 405) (by decide +kernel)) rfl⟩
theorem lk_X2_70 : zLV RX2 70 mX2_sunIn := ⟨zt (List.mem_of_getElem? (i := 520) (by decide +kernel)) rfl, zt (List.mem_of_getElem? (i := 521) (by decide +kernel)) rfl, zt (List.mem_of_getElem? (i := 522) (by decide +kernel)) rfl⟩
theorem lk_X2_73 : zLV RX2 73 mX2_placeOf := ⟨zt (List.mem_of_getElem? (i := 576) (by decide +kernel)) rfl, zt (List.mem_of_getElem? (i := 569) (by decide +kernel)) rfl, zt (List.mem_of_getElem? (i := 570) (by decide +kernel)) rfl⟩
theorem lk_X2_76 : zLV RX2 76 mX2_sunNow := ⟨zt (List.mem_of_getElem? (i := 516) (by decide +kernel)) rfl, zt (List.mem_of_getElem? (i := 518) (by decide +kernel)) rfl, zt (List.mem_of_getElem? (i := 9) (by decide +kernel)) rfl⟩
theorem lk_X2_80 : zLV RX2 80 mX2_hasSun := ⟨zt (List.mem_of_getElem? (i := 545) (by decide +kernel)) rfl, zt (List.mem_of_getElem? (i := 547) (by decide +kernel)) rfl, zt (List.mem_of_getElem? (i := 13) (by decide +kernel)) rfl⟩
theorem lk_X2_84 : zLV RX2 84 mX2_isDue := ⟨zt (List.mem_of_getElem? (i := 541) (by decide +kernel)) rfl, zt (List.mem_of_getElem? (i := 543) (by decide +kernel)) rfl, zt (List.mem_of_getElem? (i := 12) (by decide +kernel)) rfl⟩
theorem lk_X2_88 : zLV RX2 88 mX2_passHour := ⟨zt (List.mem_of_getElem? (i := 636) (by decide +kernel)) rfl, zt (List.mem_of_getElem? (i := 513) (by decide +kernel)) rfl, zt (List.mem_of_getElem? (i := 514) (by decide +kernel)) rfl⟩
theorem lk_X2_91 : zLV RX2 91 mX2_seatWhoIsBack := ⟨zt (List.mem_of_getElem? (i := 529) (by decide +kernel)) rfl, zt (List.mem_of_getElem? (i := 531) (by decide +kernel)) rfl, zt (List.mem_of_getElem? (i := 10) (by decide +kernel)) rfl⟩
theorem lk_X2_94 : zLV RX2 94 mX2_callToDinner := ⟨zt (List.mem_of_getElem? (i := 537) (by decide +kernel)) rfl, zt (List.mem_of_getElem? (i := 539) (by decide +kernel)) rfl, zt (List.mem_of_getElem? (i := 11) (by decide +kernel)) rfl⟩
theorem lk_X2_97 : zLV RX2 97 mX2_isAtDinner := ⟨zt (List.mem_of_getElem? (i := 533) (by decide +kernel)) rfl, zt (List.mem_of_getElem? (i := 534) (by decide +kernel)) rfl, zt (List.mem_of_getElem? (i := 535) (by decide +kernel)) rfl⟩
theorem lk_X2_102 : zLS RX2 102 mX2_goesWhenCalled := ⟨zt (List.mem_of_getElem? (i := 549) (by decide +kernel)) rfl, zt (List.mem_of_getElem? (i := 550) (by decide +kernel)) rfl⟩
theorem lk_X2_106 : zLV RX2 106 mX2_unseat := ⟨zt (List.mem_of_getElem? (i := 552) (by decide +kernel)) rfl, zt (List.mem_of_getElem? (i := 554) (by decide +kernel)) rfl, zt (List.mem_of_getElem? (i := 14) (by decide +kernel)) rfl⟩
theorem lk_X2_110 : zLNS RX2 110 mX6_outside := ⟨by decide +kernel, zt (List.mem_of_getElem? (i := 267) (by decide +kernel)) rfl⟩
theorem lk_X3_9 : zLNS RX3 9 mX6_outside := ⟨by decide +kernel, zt (List.mem_of_getElem? (i := 267) (by decide +kernel)) rfl⟩
theorem fk_X3_15 : Cond.fieldLink RX3 15 "SunBench$Kinds" "NEAREST" "[I" ∈ ztb := zt (List.mem_of_getElem? (i := 752) (by decide +kernel)) rfl
theorem lk_X3_19 : zLS RX3 19 mX3_nearest := ⟨zt (List.mem_of_getElem? (i := 748) (by decide +kernel)) rfl, zt (List.mem_of_getElem? (i := 749) (by decide +kernel)) rfl⟩
theorem lk_X4_1 : Cond.methodLink RX4 1 objectInit ∈ ztb ∧ Cond.instanceMethod objectInit ∈ ztb ∧ Cond.code objectInit ⟨#[0xb1]⟩ 1 none ∈ ztb := ⟨zt (List.mem_of_getElem? (i := 78) (by decide +kernel)) rfl, zt (List.mem_of_getElem? (i := 71) (by decide +kernel)) rfl, zt (List.mem_of_getElem? (i := 72) (by decide +kernel)) rfl⟩
theorem fl_X4_9 : zFL RX4 9 4 0 := ⟨_, rfl, by decide, zt (List.mem_of_getElem? (i := 81) (by decide +kernel)) rfl⟩
theorem fl_X4_13 : zFL RX4 13 4 1 := ⟨_, rfl, by decide, zt (List.mem_of_getElem? (i := 82) (by decide +kernel)) rfl⟩
theorem fl_X4_17 : zFL RX4 17 4 2 := ⟨_, rfl, by decide, zt (List.mem_of_getElem? (i := 83) (by decide +kernel)) rfl⟩
theorem cl_X4_20 : Cond.classLink RX4 20 "[[I" ∈ ztb := zt (List.mem_of_getElem? (i := 79) (by decide +kernel)) rfl
theorem fl_X4_22 : zFL RX4 22 4 3 := ⟨_, rfl, by decide, zt (List.mem_of_getElem? (i := 84) (by decide +kernel)) rfl⟩
theorem lk_X4_25 : Cond.methodLink RX4 25 arraycopyName ∈ ztb ∧ Cond.native arraycopyName ∈ ztb ∧ Cond.static arraycopyName ∈ ztb ∧ Cond.initialized "java/lang/System" ∈ ztb := ⟨zt (List.mem_of_getElem? (i := 315) (by decide +kernel)) rfl, zt (List.mem_of_getElem? (i := 317) (by decide +kernel)) rfl, zt (List.mem_of_getElem? (i := 316) (by decide +kernel)) rfl, zt (List.mem_of_getElem? (i := 56) (by decide +kernel)) rfl⟩
theorem lk_X5_3 : Cond.methodLink RX5 3 objectInit ∈ ztb ∧ Cond.instanceMethod objectInit ∈ ztb ∧ Cond.code objectInit ⟨#[0xb1]⟩ 1 none ∈ ztb := ⟨zt (List.mem_of_getElem? (i := 101) (by decide +kernel)) rfl, zt (List.mem_of_getElem? (i := 71) (by decide +kernel)) rfl, zt (List.mem_of_getElem? (i := 72) (by decide +kernel)) rfl⟩
theorem fl_X5_11 : zFL RX5 11 5 0 := ⟨_, rfl, by decide, zt (List.mem_of_getElem? (i := 102) (by decide +kernel)) rfl⟩
theorem fl_X5_15 : zFL RX5 15 5 1 := ⟨_, rfl, by decide, zt (List.mem_of_getElem? (i := 103) (by decide +kernel)) rfl⟩
theorem fl_X5_19 : zFL RX5 19 5 2 := ⟨_, rfl, by decide, zt (List.mem_of_getElem? (i := 105) (by decide +kernel)) rfl⟩
theorem fl_X5_22 : zFL RX5 22 5 3 := ⟨_, rfl, by decide, zt (List.mem_of_getElem? (i := 107) (by decide +kernel)) rfl⟩
theorem fl_X5_25 : zFL RX5 25 5 4 := ⟨_, rfl, by decide, zt (List.mem_of_getElem? (i := 109) (by decide +kernel)) rfl⟩
theorem lk_X5_28 : zLV RX5 28 mX2_clear := ⟨zt (List.mem_of_getElem? (i := 347) (by decide +kernel)) rfl, zt (List.mem_of_getElem? (i := 348) (by decide +kernel)) rfl, zt (List.mem_of_getElem? (i := 349) (by decide +kernel)) rfl⟩
theorem lk_X5_33 : zLV RX5 33 mX5_readLaw := ⟨zt (List.mem_of_getElem? (i := 351) (by decide +kernel)) rfl, zt (List.mem_of_getElem? (i := 353) (by decide +kernel)) rfl, zt (List.mem_of_getElem? (i := 3) (by decide +kernel)) rfl⟩
theorem lk_X5_37 : zLV RX5 37 mX5_readMan := ⟨zt (List.mem_of_getElem? (i := 371) (by decide +kernel)) rfl, zt (List.mem_of_getElem? (i := 373) (by decide +kernel)) rfl, zt (List.mem_of_getElem? (i := 7) (by decide +kernel)) rfl⟩
theorem lk_X5_40 : zLV RX5 40 mX5_readSign := ⟨zt (List.mem_of_getElem? (i := 355) (by decide +kernel)) rfl, zt (List.mem_of_getElem? (i := 357) (by decide +kernel)) rfl, zt (List.mem_of_getElem? (i := 4) (by decide +kernel)) rfl⟩
theorem lk_X5_44 : zLV RX5 44 mX5_readNumber := ⟨zt (List.mem_of_getElem? (i := 363) (by decide +kernel)) rfl, zt (List.mem_of_getElem? (i := 365) (by decide +kernel)) rfl, zt (List.mem_of_getElem? (i := 6) (by decide +kernel)) rfl⟩
theorem fl_X5_48 : zFL RX5 48 2 0 := ⟨_, rfl, by decide, zt (List.mem_of_getElem? (i := 128) (by decide +kernel)) rfl⟩
theorem fl_X5_51 : zFL RX5 51 2 1 := ⟨_, rfl, by decide, zt (List.mem_of_getElem? (i := 130) (by decide +kernel)) rfl⟩
theorem lk_X5_56 : zLV RX5 56 mJ0_indexOf_0f7a4 := ⟨zt (List.mem_of_getElem? (i := 376) (by decide +kernel)) rfl, zt (List.mem_of_getElem? (i := 377) (by decide +kernel)) rfl, zt (List.mem_of_getElem? (i := 378) (by decide +kernel)) rfl⟩
theorem lk_X5_62 : zLV RX5 62 mX5_blame := ⟨zt (List.mem_of_getElem? (i := 359) (by decide +kernel)) rfl, zt (List.mem_of_getElem? (i := 361) (by decide +kernel)) rfl, zt (List.mem_of_getElem? (i := 5) (by decide +kernel)) rfl⟩
theorem fl_X5_66 : zFL RX5 66 2 2 := ⟨_, rfl, by decide, zt (List.mem_of_getElem? (i := 133) (by decide +kernel)) rfl⟩
theorem lk_X5_69 : zLV RX5 69 mX2_addMan := ⟨zt (List.mem_of_getElem? (i := 462) (by decide +kernel)) rfl, zt (List.mem_of_getElem? (i := 463) (by decide +kernel)) rfl, zt (List.mem_of_getElem? (i := 464) (by decide +kernel)) rfl⟩
theorem lk_X5_73 : zLS RX5 73 mX5_isFigure := ⟨zt (List.mem_of_getElem? (i := 367) (by decide +kernel)) rfl, zt (List.mem_of_getElem? (i := 368) (by decide +kernel)) rfl⟩
theorem lk_X5_77 : zLNS RX5 77 mX6_outside := ⟨by decide +kernel, zt (List.mem_of_getElem? (i := 267) (by decide +kernel)) rfl⟩
theorem lk_X6_1 : Cond.methodLink RX6 1 objectInit ∈ ztb ∧ Cond.instanceMethod objectInit ∈ ztb ∧ Cond.code objectInit ⟨#[0xb1]⟩ 1 none ∈ ztb := ⟨zt (List.mem_of_getElem? (i := 70) (by decide +kernel)) rfl, zt (List.mem_of_getElem? (i := 71) (by decide +kernel)) rfl, zt (List.mem_of_getElem? (i := 72) (by decide +kernel)) rfl⟩
theorem cl_X6_7 : Cond.classLink RX6 7 "SunBench$Rows" ∈ ztb := zt (List.mem_of_getElem? (i := 73) (by decide +kernel)) rfl
theorem lk_X6_9 : zLNI RX6 9 mX4_init := ⟨by decide +kernel, zt (List.mem_of_getElem? (i := 76) (by decide +kernel)) rfl, rfl⟩
theorem fl_X6_10 : zFL RX6 10 6 0 := ⟨_, rfl, by decide, zt (List.mem_of_getElem? (i := 225) (by decide +kernel)) rfl⟩
theorem cl_X6_16 : Cond.classLink RX6 16 "SunBench$Tape" ∈ ztb := zt (List.mem_of_getElem? (i := 96) (by decide +kernel)) rfl
theorem lk_X6_18 : zLNI RX6 18 mX5_init := ⟨by decide +kernel, zt (List.mem_of_getElem? (i := 99) (by decide +kernel)) rfl, rfl⟩
theorem fl_X6_19 : zFL RX6 19 6 1 := ⟨_, rfl, by decide, zt (List.mem_of_getElem? (i := 226) (by decide +kernel)) rfl⟩
theorem cl_X6_23 : Cond.classLink RX6 23 "SunBench$Bench" ∈ ztb := zt (List.mem_of_getElem? (i := 121) (by decide +kernel)) rfl
theorem lk_X6_25 : zLNI RX6 25 mX2_init := ⟨by decide +kernel, zt (List.mem_of_getElem? (i := 124) (by decide +kernel)) rfl, rfl⟩
theorem fl_X6_26 : zFL RX6 26 6 2 := ⟨_, rfl, by decide, zt (List.mem_of_getElem? (i := 227) (by decide +kernel)) rfl⟩
theorem cl_X6_30 : Cond.classLink RX6 30 "SunBench$Acts" ∈ ztb := zt (List.mem_of_getElem? (i := 192) (by decide +kernel)) rfl
theorem lk_X6_32 : zLNI RX6 32 mX0_init := ⟨by decide +kernel, zt (List.mem_of_getElem? (i := 195) (by decide +kernel)) rfl, rfl⟩
theorem fl_X6_33 : zFL RX6 33 6 3 := ⟨_, rfl, by decide, zt (List.mem_of_getElem? (i := 228) (by decide +kernel)) rfl⟩
theorem fl_X6_37 : zFL RX6 37 6 4 := ⟨_, rfl, by decide, zt (List.mem_of_getElem? (i := 229) (by decide +kernel)) rfl⟩
theorem fl_X6_40 : zFL RX6 40 6 5 := ⟨_, rfl, by decide, zt (List.mem_of_getElem? (i := 230) (by decide +kernel)) rfl⟩
theorem fl_X6_43 : zFL RX6 43 6 6 := ⟨_, rfl, by decide, zt (List.mem_of_getElem? (i := 231) (by decide +kernel)) rfl⟩
theorem fl_X6_46 : zFL RX6 46 6 7 := ⟨_, rfl, by decide, zt (List.mem_of_getElem? (i := 232) (by decide +kernel)) rfl⟩
theorem cl_X6_49 : Cond.classLink RX6 49 "SunBench$Asks" ∈ ztb := zt (List.mem_of_getElem? (i := 210) (by decide +kernel)) rfl
theorem lk_X6_51 : zLNI RX6 51 mX1_init := ⟨by decide +kernel, zt (List.mem_of_getElem? (i := 213) (by decide +kernel)) rfl, rfl⟩
theorem fl_X6_52 : zFL RX6 52 6 8 := ⟨_, rfl, by decide, zt (List.mem_of_getElem? (i := 233) (by decide +kernel)) rfl⟩
theorem fl_X6_56 : zFL RX6 56 6 9 := ⟨_, rfl, by decide, zt (List.mem_of_getElem? (i := 234) (by decide +kernel)) rfl⟩
theorem fl_X6_60 : zFL RX6 60 6 10 := ⟨_, rfl, by decide, zt (List.mem_of_getElem? (i := 235) (by decide +kernel)) rfl⟩
theorem lk_X6_63 : zLS RX6 63 mX6_noRow := ⟨zt (List.mem_of_getElem? (i := 263) (by decide +kernel)) rfl, zt (List.mem_of_getElem? (i := 264) (by decide +kernel)) rfl⟩
theorem lk_X6_67 : zLS RX6 67 mX6_outside := ⟨zt (List.mem_of_getElem? (i := 266) (by decide +kernel)) rfl, zt (List.mem_of_getElem? (i := 267) (by decide +kernel)) rfl⟩
theorem co_X6_71 : Cond.constant RX6 71 (-1000001) ∈ ztb := zt (List.mem_of_getElem? (i := 269) (by decide +kernel)) rfl
theorem lk_X6_72 : zLV RX6 72 mX6_finding := ⟨zt (List.mem_of_getElem? (i := 270) (by decide +kernel)) rfl, zt (List.mem_of_getElem? (i := 272) (by decide +kernel)) rfl, zt (List.mem_of_getElem? (i := 0) (by decide +kernel)) rfl⟩
theorem lk_X6_76 : zLV RX6 76 mX4_make := ⟨zt (List.mem_of_getElem? (i := 275) (by decide +kernel)) rfl, zt (List.mem_of_getElem? (i := 276) (by decide +kernel)) rfl, zt (List.mem_of_getElem? (i := 277) (by decide +kernel)) rfl⟩
theorem lk_X6_80 : zLV RX6 80 mX6_noFinding := ⟨zt (List.mem_of_getElem? (i := 279) (by decide +kernel)) rfl, zt (List.mem_of_getElem? (i := 281) (by decide +kernel)) rfl, zt (List.mem_of_getElem? (i := 1) (by decide +kernel)) rfl⟩
theorem lk_X6_83 : zLV RX6 83 mX6_findingOf := ⟨zt (List.mem_of_getElem? (i := 287) (by decide +kernel)) rfl, zt (List.mem_of_getElem? (i := 289) (by decide +kernel)) rfl, zt (List.mem_of_getElem? (i := 2) (by decide +kernel)) rfl⟩
theorem lk_X6_87 : zLV RX6 87 mX4_put := ⟨zt (List.mem_of_getElem? (i := 299) (by decide +kernel)) rfl, zt (List.mem_of_getElem? (i := 300) (by decide +kernel)) rfl, zt (List.mem_of_getElem? (i := 301) (by decide +kernel)) rfl⟩
theorem lk_X6_90 : zLV RX6 90 mX4_isMissing := ⟨zt (List.mem_of_getElem? (i := 291) (by decide +kernel)) rfl, zt (List.mem_of_getElem? (i := 292) (by decide +kernel)) rfl, zt (List.mem_of_getElem? (i := 293) (by decide +kernel)) rfl⟩
theorem lk_X6_93 : zLV RX6 93 mX4_laneOf := ⟨zt (List.mem_of_getElem? (i := 307) (by decide +kernel)) rfl, zt (List.mem_of_getElem? (i := 308) (by decide +kernel)) rfl, zt (List.mem_of_getElem? (i := 309) (by decide +kernel)) rfl⟩
theorem lk_X6_96 : zLV RX6 96 mX4_reaches := ⟨zt (List.mem_of_getElem? (i := 295) (by decide +kernel)) rfl, zt (List.mem_of_getElem? (i := 296) (by decide +kernel)) rfl, zt (List.mem_of_getElem? (i := 297) (by decide +kernel)) rfl⟩
theorem lk_X6_99 : zLV RX6 99 mX4_move := ⟨zt (List.mem_of_getElem? (i := 311) (by decide +kernel)) rfl, zt (List.mem_of_getElem? (i := 312) (by decide +kernel)) rfl, zt (List.mem_of_getElem? (i := 313) (by decide +kernel)) rfl⟩
theorem lk_X6_103 : zLV RX6 103 mX4_remove := ⟨zt (List.mem_of_getElem? (i := 322) (by decide +kernel)) rfl, zt (List.mem_of_getElem? (i := 323) (by decide +kernel)) rfl, zt (List.mem_of_getElem? (i := 324) (by decide +kernel)) rfl⟩
theorem lk_X6_106 : zLV RX6 106 mX5_isFull := ⟨zt (List.mem_of_getElem? (i := 330) (by decide +kernel)) rfl, zt (List.mem_of_getElem? (i := 331) (by decide +kernel)) rfl, zt (List.mem_of_getElem? (i := 332) (by decide +kernel)) rfl⟩
theorem co_X6_110 : Cond.constant RX6 110 (-1000003) ∈ ztb := zt (List.mem_of_getElem? (i := 334) (by decide +kernel)) rfl
theorem lk_X6_111 : zLV RX6 111 mX5_add := ⟨zt (List.mem_of_getElem? (i := 335) (by decide +kernel)) rfl, zt (List.mem_of_getElem? (i := 336) (by decide +kernel)) rfl, zt (List.mem_of_getElem? (i := 337) (by decide +kernel)) rfl⟩
theorem lk_X6_114 : zLV RX6 114 mX5_readInto := ⟨zt (List.mem_of_getElem? (i := 343) (by decide +kernel)) rfl, zt (List.mem_of_getElem? (i := 344) (by decide +kernel)) rfl, zt (List.mem_of_getElem? (i := 345) (by decide +kernel)) rfl⟩
theorem lk_X6_118 : zLV RX6 118 mX5_clear := ⟨zt (List.mem_of_getElem? (i := 471) (by decide +kernel)) rfl, zt (List.mem_of_getElem? (i := 472) (by decide +kernel)) rfl, zt (List.mem_of_getElem? (i := 473) (by decide +kernel)) rfl⟩
theorem fl_X6_121 : zFL RX6 121 5 2 := ⟨_, rfl, by decide, zt (List.mem_of_getElem? (i := 106) (by decide +kernel)) rfl⟩
theorem co_X6_124 : Cond.constant RX6 124 (-1000100) ∈ ztb := zt (List.mem_of_getElem? (i := 475) (by decide +kernel)) rfl
theorem fl_X6_125 : zFL RX6 125 5 3 := ⟨_, rfl, by decide, zt (List.mem_of_getElem? (i := 108) (by decide +kernel)) rfl⟩
theorem lk_X6_128 : zLV RX6 128 mX2_become := ⟨zt (List.mem_of_getElem? (i := 476) (by decide +kernel)) rfl, zt (List.mem_of_getElem? (i := 477) (by decide +kernel)) rfl, zt (List.mem_of_getElem? (i := 478) (by decide +kernel)) rfl⟩
theorem lk_X6_132 : zLV RX6 132 mX0_clear := ⟨zt (List.mem_of_getElem? (i := 480) (by decide +kernel)) rfl, zt (List.mem_of_getElem? (i := 481) (by decide +kernel)) rfl, zt (List.mem_of_getElem? (i := 482) (by decide +kernel)) rfl⟩
theorem fl_X6_133 : zFL RX6 133 2 2 := ⟨_, rfl, by decide, zt (List.mem_of_getElem? (i := 134) (by decide +kernel)) rfl⟩
theorem fl_X6_136 : zFL RX6 136 0 2 := ⟨_, rfl, by decide, zt (List.mem_of_getElem? (i := 202) (by decide +kernel)) rfl⟩
theorem co_X6_139 : Cond.constant RX6 139 (-1000002) ∈ ztb := zt (List.mem_of_getElem? (i := 493) (by decide +kernel)) rfl
theorem lk_X6_140 : zLV RX6 140 mX0_takeBack := ⟨zt (List.mem_of_getElem? (i := 494) (by decide +kernel)) rfl, zt (List.mem_of_getElem? (i := 495) (by decide +kernel)) rfl, zt (List.mem_of_getElem? (i := 496) (by decide +kernel)) rfl⟩
theorem lk_X6_143 : zLV RX6 143 mX6_noBench := ⟨zt (List.mem_of_getElem? (i := 503) (by decide +kernel)) rfl, zt (List.mem_of_getElem? (i := 505) (by decide +kernel)) rfl, zt (List.mem_of_getElem? (i := 8) (by decide +kernel)) rfl⟩
theorem fl_X6_146 : zFL RX6 146 2 6 := ⟨_, rfl, by decide, zt (List.mem_of_getElem? (i := 145) (by decide +kernel)) rfl⟩
theorem lk_X6_149 : zLV RX6 149 mX0_keep := ⟨zt (List.mem_of_getElem? (i := 507) (by decide +kernel)) rfl, zt (List.mem_of_getElem? (i := 508) (by decide +kernel)) rfl, zt (List.mem_of_getElem? (i := 509) (by decide +kernel)) rfl⟩
theorem lk_X6_152 : zLV RX6 152 mX2_passHour := ⟨zt (List.mem_of_getElem? (i := 512) (by decide +kernel)) rfl, zt (List.mem_of_getElem? (i := 513) (by decide +kernel)) rfl, zt (List.mem_of_getElem? (i := 514) (by decide +kernel)) rfl⟩
theorem lk_X6_155 : zLV RX6 155 mX2_sittersAsBits := ⟨zt (List.mem_of_getElem? (i := 556) (by decide +kernel)) rfl, zt (List.mem_of_getElem? (i := 557) (by decide +kernel)) rfl, zt (List.mem_of_getElem? (i := 558) (by decide +kernel)) rfl⟩
theorem lk_X6_159 : zLV RX6 159 mX6_noMan := ⟨zt (List.mem_of_getElem? (i := 564) (by decide +kernel)) rfl, zt (List.mem_of_getElem? (i := 566) (by decide +kernel)) rfl, zt (List.mem_of_getElem? (i := 15) (by decide +kernel)) rfl⟩
theorem lk_X6_162 : zLV RX6 162 mX2_placeOf := ⟨zt (List.mem_of_getElem? (i := 568) (by decide +kernel)) rfl, zt (List.mem_of_getElem? (i := 569) (by decide +kernel)) rfl, zt (List.mem_of_getElem? (i := 570) (by decide +kernel)) rfl⟩
theorem lk_X6_165 : zLV RX6 165 mX2_takeSnuff := ⟨zt (List.mem_of_getElem? (i := 572) (by decide +kernel)) rfl, zt (List.mem_of_getElem? (i := 573) (by decide +kernel)) rfl, zt (List.mem_of_getElem? (i := 574) (by decide +kernel)) rfl⟩
theorem lk_X6_169 : zLV RX6 169 mX2_isAwayForGood := ⟨zt (List.mem_of_getElem? (i := 581) (by decide +kernel)) rfl, zt (List.mem_of_getElem? (i := 582) (by decide +kernel)) rfl, zt (List.mem_of_getElem? (i := 583) (by decide +kernel)) rfl⟩
theorem lk_X6_172 : zLV RX6 172 mX2_sendAway := ⟨zt (List.mem_of_getElem? (i := 585) (by decide +kernel)) rfl, zt (List.mem_of_getElem? (i := 586) (by decide +kernel)) rfl, zt (List.mem_of_getElem? (i := 587) (by decide +kernel)) rfl⟩
theorem fl_X6_175 : zFL RX6 175 2 9 := ⟨_, rfl, by decide, zt (List.mem_of_getElem? (i := 154) (by decide +kernel)) rfl⟩
theorem lk_X6_178 : zLV RX6 178 mX2_seat := ⟨zt (List.mem_of_getElem? (i := 593) (by decide +kernel)) rfl, zt (List.mem_of_getElem? (i := 467) (by decide +kernel)) rfl, zt (List.mem_of_getElem? (i := 468) (by decide +kernel)) rfl⟩
theorem fl_X6_182 : zFL RX6 182 2 8 := ⟨_, rfl, by decide, zt (List.mem_of_getElem? (i := 151) (by decide +kernel)) rfl⟩
theorem lk_X6_186 : zLV RX6 186 mX2_sunnyAsBits := ⟨zt (List.mem_of_getElem? (i := 598) (by decide +kernel)) rfl, zt (List.mem_of_getElem? (i := 599) (by decide +kernel)) rfl, zt (List.mem_of_getElem? (i := 600) (by decide +kernel)) rfl⟩
theorem lk_X6_189 : zLS RX6 189 mX6_placeOrNone := ⟨zt (List.mem_of_getElem? (i := 606) (by decide +kernel)) rfl, zt (List.mem_of_getElem? (i := 607) (by decide +kernel)) rfl⟩
theorem fl_X6_193 : zFL RX6 193 2 11 := ⟨_, rfl, by decide, zt (List.mem_of_getElem? (i := 161) (by decide +kernel)) rfl⟩
theorem lk_X6_197 : zLV RX6 197 mX2_isAtDinner := ⟨zt (List.mem_of_getElem? (i := 610) (by decide +kernel)) rfl, zt (List.mem_of_getElem? (i := 534) (by decide +kernel)) rfl, zt (List.mem_of_getElem? (i := 535) (by decide +kernel)) rfl⟩
theorem fl_X6_200 : zFL RX6 200 2 12 := ⟨_, rfl, by decide, zt (List.mem_of_getElem? (i := 164) (by decide +kernel)) rfl⟩
theorem co_X6_203 : Cond.constant RX6 203 (-1000000) ∈ ztb := zt (List.mem_of_getElem? (i := 609) (by decide +kernel)) rfl
theorem lk_X6_204 : zLV RX6 204 mX2_sitsInSun := ⟨zt (List.mem_of_getElem? (i := 611) (by decide +kernel)) rfl, zt (List.mem_of_getElem? (i := 612) (by decide +kernel)) rfl, zt (List.mem_of_getElem? (i := 613) (by decide +kernel)) rfl⟩
theorem fl_X6_207 : zFL RX6 207 2 4 := ⟨_, rfl, by decide, zt (List.mem_of_getElem? (i := 140) (by decide +kernel)) rfl⟩
theorem fl_X6_210 : zFL RX6 210 2 5 := ⟨_, rfl, by decide, zt (List.mem_of_getElem? (i := 142) (by decide +kernel)) rfl⟩
theorem fl_X6_213 : zFL RX6 213 2 10 := ⟨_, rfl, by decide, zt (List.mem_of_getElem? (i := 157) (by decide +kernel)) rfl⟩
theorem lk_X6_216 : zLV RX6 216 mX2_sunIn := ⟨zt (List.mem_of_getElem? (i := 623) (by decide +kernel)) rfl, zt (List.mem_of_getElem? (i := 521) (by decide +kernel)) rfl, zt (List.mem_of_getElem? (i := 522) (by decide +kernel)) rfl⟩
theorem lk_X6_219 : zLV RX6 219 mX6_foretell := ⟨zt (List.mem_of_getElem? (i := 628) (by decide +kernel)) rfl, zt (List.mem_of_getElem? (i := 630) (by decide +kernel)) rfl, zt (List.mem_of_getElem? (i := 16) (by decide +kernel)) rfl⟩
theorem lk_X6_222 : zLV RX6 222 mX2_passHours := ⟨zt (List.mem_of_getElem? (i := 632) (by decide +kernel)) rfl, zt (List.mem_of_getElem? (i := 633) (by decide +kernel)) rfl, zt (List.mem_of_getElem? (i := 634) (by decide +kernel)) rfl⟩
theorem lk_X6_225 : zLV RX6 225 mX6_sitAsTold := ⟨zt (List.mem_of_getElem? (i := 657) (by decide +kernel)) rfl, zt (List.mem_of_getElem? (i := 659) (by decide +kernel)) rfl, zt (List.mem_of_getElem? (i := 17) (by decide +kernel)) rfl⟩
theorem fl_X6_230 : zFL RX6 230 2 3 := ⟨_, rfl, by decide, zt (List.mem_of_getElem? (i := 137) (by decide +kernel)) rfl⟩
theorem lk_X6_233 : zLV RX6 233 mX6_sitsAsTold := ⟨zt (List.mem_of_getElem? (i := 669) (by decide +kernel)) rfl, zt (List.mem_of_getElem? (i := 671) (by decide +kernel)) rfl, zt (List.mem_of_getElem? (i := 18) (by decide +kernel)) rfl⟩
theorem fl_X6_237 : zFL RX6 237 2 1 := ⟨_, rfl, by decide, zt (List.mem_of_getElem? (i := 131) (by decide +kernel)) rfl⟩
theorem col_X6_240 : Cond.constantLong RX6 240 (-1000001) ∈ ztb := zt (List.mem_of_getElem? (i := 693) (by decide +kernel)) rfl
theorem lk_X6_242 : zLV RX6 242 mX2_dueAsBits := ⟨zt (List.mem_of_getElem? (i := 694) (by decide +kernel)) rfl, zt (List.mem_of_getElem? (i := 695) (by decide +kernel)) rfl, zt (List.mem_of_getElem? (i := 696) (by decide +kernel)) rfl⟩
theorem lk_X6_245 : zLV RX6 245 mX6_casesWarm := ⟨zt (List.mem_of_getElem? (i := 698) (by decide +kernel)) rfl, zt (List.mem_of_getElem? (i := 700) (by decide +kernel)) rfl, zt (List.mem_of_getElem? (i := 19) (by decide +kernel)) rfl⟩
theorem lk_X6_249 : zLS RX6 249 mJ6_bitCount_0f7a4 := ⟨zt (List.mem_of_getElem? (i := 702) (by decide +kernel)) rfl, zt (List.mem_of_getElem? (i := 703) (by decide +kernel)) rfl⟩
theorem lk_X6_254 : zLS RX6 254 mX6_power := ⟨zt (List.mem_of_getElem? (i := 708) (by decide +kernel)) rfl, zt (List.mem_of_getElem? (i := 709) (by decide +kernel)) rfl⟩
theorem lk_X6_258 : zLS RX6 258 mX6_commonDivisor := ⟨zt (List.mem_of_getElem? (i := 711) (by decide +kernel)) rfl, zt (List.mem_of_getElem? (i := 712) (by decide +kernel)) rfl⟩
theorem co_X6_262 : Cond.constant RX6 262 (999999) ∈ ztb := zt (List.mem_of_getElem? (i := 718) (by decide +kernel)) rfl
theorem col_X6_263 : Cond.constantLong RX6 263 (16807) ∈ ztb := zt (List.mem_of_getElem? (i := 719) (by decide +kernel)) rfl
theorem col_X6_265 : Cond.constantLong RX6 265 (2147483647) ∈ ztb := zt (List.mem_of_getElem? (i := 720) (by decide +kernel)) rfl
theorem fl_X6_267 : zFL RX6 267 2 7 := ⟨_, rfl, by decide, zt (List.mem_of_getElem? (i := 148) (by decide +kernel)) rfl⟩
theorem lk_X6_270 : zLV RX6 270 mX2_warmOfAll := ⟨zt (List.mem_of_getElem? (i := 721) (by decide +kernel)) rfl, zt (List.mem_of_getElem? (i := 722) (by decide +kernel)) rfl, zt (List.mem_of_getElem? (i := 723) (by decide +kernel)) rfl⟩
theorem lk_X6_273 : zLV RX6 273 mX6_imageOf := ⟨zt (List.mem_of_getElem? (i := 729) (by decide +kernel)) rfl, zt (List.mem_of_getElem? (i := 731) (by decide +kernel)) rfl, zt (List.mem_of_getElem? (i := 20) (by decide +kernel)) rfl⟩
theorem lk_X6_277 : zLS RX6 277 mX3_isOne := ⟨zt (List.mem_of_getElem? (i := 745) (by decide +kernel)) rfl, zt (List.mem_of_getElem? (i := 746) (by decide +kernel)) rfl⟩
theorem lk_X6_281 : zLV RX6 281 mX1_begin := ⟨zt (List.mem_of_getElem? (i := 758) (by decide +kernel)) rfl, zt (List.mem_of_getElem? (i := 759) (by decide +kernel)) rfl, zt (List.mem_of_getElem? (i := 760) (by decide +kernel)) rfl⟩
theorem fl_X6_285 : zFL RX6 285 1 1 := ⟨_, rfl, by decide, zt (List.mem_of_getElem? (i := 219) (by decide +kernel)) rfl⟩
theorem fl_X6_288 : zFL RX6 288 1 0 := ⟨_, rfl, by decide, zt (List.mem_of_getElem? (i := 217) (by decide +kernel)) rfl⟩
theorem lk_X6_291 : zLV RX6 291 mX4_present := ⟨zt (List.mem_of_getElem? (i := 787) (by decide +kernel)) rfl, zt (List.mem_of_getElem? (i := 788) (by decide +kernel)) rfl, zt (List.mem_of_getElem? (i := 789) (by decide +kernel)) rfl⟩
theorem fl_X6_294 : zFL RX6 294 5 1 := ⟨_, rfl, by decide, zt (List.mem_of_getElem? (i := 104) (by decide +kernel)) rfl⟩
theorem co_X6_297 : Cond.constant RX6 297 (-1000010) ∈ ztb := zt (List.mem_of_getElem? (i := 274) (by decide +kernel)) rfl
theorem lk_X6_298 : zLV RX6 298 mX4_item := ⟨zt (List.mem_of_getElem? (i := 661) (by decide +kernel)) rfl, zt (List.mem_of_getElem? (i := 662) (by decide +kernel)) rfl, zt (List.mem_of_getElem? (i := 663) (by decide +kernel)) rfl⟩
theorem lk_X7_1 : Cond.methodLink RX7 1 objectInit ∈ ztb ∧ Cond.instanceMethod objectInit ∈ ztb ∧ Cond.code objectInit ⟨#[0xb1]⟩ 1 none ∈ ztb := ⟨zt (List.mem_of_getElem? (i := 800) (by decide +kernel)) rfl, zt (List.mem_of_getElem? (i := 71) (by decide +kernel)) rfl, zt (List.mem_of_getElem? (i := 72) (by decide +kernel)) rfl⟩
theorem fl_X7_7 : zFL RX7 7 7 2 := ⟨_, rfl, by decide, zt (List.mem_of_getElem? (i := 803) (by decide +kernel)) rfl⟩
theorem fl_X7_13 : zFL RX7 13 7 3 := ⟨_, rfl, by decide, zt (List.mem_of_getElem? (i := 804) (by decide +kernel)) rfl⟩
theorem fl_X7_16 : zFL RX7 16 7 4 := ⟨_, rfl, by decide, zt (List.mem_of_getElem? (i := 805) (by decide +kernel)) rfl⟩
theorem fl_X7_19 : zFL RX7 19 7 5 := ⟨_, rfl, by decide, zt (List.mem_of_getElem? (i := 806) (by decide +kernel)) rfl⟩
theorem fl_X7_22 : zFL RX7 22 7 6 := ⟨_, rfl, by decide, zt (List.mem_of_getElem? (i := 807) (by decide +kernel)) rfl⟩
theorem fl_X7_25 : zFL RX7 25 7 7 := ⟨_, rfl, by decide, zt (List.mem_of_getElem? (i := 808) (by decide +kernel)) rfl⟩
theorem fl_X7_28 : zFL RX7 28 7 8 := ⟨_, rfl, by decide, zt (List.mem_of_getElem? (i := 809) (by decide +kernel)) rfl⟩
theorem fl_X7_31 : zFL RX7 31 7 10 := ⟨_, rfl, by decide, zt (List.mem_of_getElem? (i := 811) (by decide +kernel)) rfl⟩
theorem fl_X7_34 : zFL RX7 34 7 19 := ⟨_, rfl, by decide, zt (List.mem_of_getElem? (i := 820) (by decide +kernel)) rfl⟩
theorem fl_X7_37 : zFL RX7 37 7 20 := ⟨_, rfl, by decide, zt (List.mem_of_getElem? (i := 821) (by decide +kernel)) rfl⟩
theorem fl_X7_40 : zFL RX7 40 7 21 := ⟨_, rfl, by decide, zt (List.mem_of_getElem? (i := 822) (by decide +kernel)) rfl⟩
theorem fl_X7_44 : zFL RX7 44 7 22 := ⟨_, rfl, by decide, zt (List.mem_of_getElem? (i := 823) (by decide +kernel)) rfl⟩
theorem fl_X7_47 : zFL RX7 47 7 23 := ⟨_, rfl, by decide, zt (List.mem_of_getElem? (i := 824) (by decide +kernel)) rfl⟩
theorem fl_X7_54 : zFL RX7 54 7 1 := ⟨_, rfl, by decide, zt (List.mem_of_getElem? (i := 802) (by decide +kernel)) rfl⟩
theorem co_X7_57 : Cond.constant RX7 57 (-1000010) ∈ ztb := zt (List.mem_of_getElem? (i := 894) (by decide +kernel)) rfl
theorem col_X7_58 : Cond.constantLong RX7 58 (7) ∈ ztb := zt (List.mem_of_getElem? (i := 884) (by decide +kernel)) rfl
theorem lk_X7_60 : zLS RX7 60 mX7_in := ⟨zt (List.mem_of_getElem? (i := 885) (by decide +kernel)) rfl, zt (List.mem_of_getElem? (i := 886) (by decide +kernel)) rfl⟩
theorem fl_X7_50 : zFL RX7 50 7 0 := ⟨_, rfl, by decide, zt (List.mem_of_getElem? (i := 801) (by decide +kernel)) rfl⟩
theorem lk_X7_64 : zLS RX7 64 mX7_isRow := ⟨zt (List.mem_of_getElem? (i := 881) (by decide +kernel)) rfl, zt (List.mem_of_getElem? (i := 882) (by decide +kernel)) rfl⟩
theorem col_X7_68 : Cond.constantLong RX7 68 (2) ∈ ztb := zt (List.mem_of_getElem? (i := 888) (by decide +kernel)) rfl
theorem co_X7_70 : Cond.constant RX7 70 (-1000001) ∈ ztb := zt (List.mem_of_getElem? (i := 889) (by decide +kernel)) rfl
theorem lk_X7_71 : zLV RX7 71 mX7_finding := ⟨zt (List.mem_of_getElem? (i := 890) (by decide +kernel)) rfl, zt (List.mem_of_getElem? (i := 892) (by decide +kernel)) rfl, zt (List.mem_of_getElem? (i := 24) (by decide +kernel)) rfl⟩
theorem col_X7_75 : Cond.constantLong RX7 75 (255) ∈ ztb := zt (List.mem_of_getElem? (i := 911) (by decide +kernel)) rfl
theorem fl_X7_77 : zFL RX7 77 7 11 := ⟨_, rfl, by decide, zt (List.mem_of_getElem? (i := 812) (by decide +kernel)) rfl⟩
theorem co_X7_80 : Cond.constant RX7 80 (-1000003) ∈ ztb := zt (List.mem_of_getElem? (i := 912) (by decide +kernel)) rfl
theorem fl_X7_81 : zFL RX7 81 7 16 := ⟨_, rfl, by decide, zt (List.mem_of_getElem? (i := 817) (by decide +kernel)) rfl⟩
theorem fl_X7_84 : zFL RX7 84 7 13 := ⟨_, rfl, by decide, zt (List.mem_of_getElem? (i := 814) (by decide +kernel)) rfl⟩
theorem fl_X7_87 : zFL RX7 87 7 17 := ⟨_, rfl, by decide, zt (List.mem_of_getElem? (i := 818) (by decide +kernel)) rfl⟩
theorem fl_X7_90 : zFL RX7 90 7 12 := ⟨_, rfl, by decide, zt (List.mem_of_getElem? (i := 813) (by decide +kernel)) rfl⟩
theorem co_X7_93 : Cond.constant RX7 93 (-1000000) ∈ ztb := zt (List.mem_of_getElem? (i := 929) (by decide +kernel)) rfl
theorem fl_X7_94 : zFL RX7 94 7 15 := ⟨_, rfl, by decide, zt (List.mem_of_getElem? (i := 816) (by decide +kernel)) rfl⟩
theorem col_X7_97 : Cond.constantLong RX7 97 (97) ∈ ztb := zt (List.mem_of_getElem? (i := 930) (by decide +kernel)) rfl
theorem col_X7_99 : Cond.constantLong RX7 99 (122) ∈ ztb := zt (List.mem_of_getElem? (i := 931) (by decide +kernel)) rfl
theorem col_X7_101 : Cond.constantLong RX7 101 (48) ∈ ztb := zt (List.mem_of_getElem? (i := 932) (by decide +kernel)) rfl
theorem col_X7_103 : Cond.constantLong RX7 103 (57) ∈ ztb := zt (List.mem_of_getElem? (i := 933) (by decide +kernel)) rfl
theorem fl_X7_105 : zFL RX7 105 7 14 := ⟨_, rfl, by decide, zt (List.mem_of_getElem? (i := 815) (by decide +kernel)) rfl⟩
theorem lk_X7_108 : zLV RX7 108 mX7_bad := ⟨zt (List.mem_of_getElem? (i := 942) (by decide +kernel)) rfl, zt (List.mem_of_getElem? (i := 944) (by decide +kernel)) rfl, zt (List.mem_of_getElem? (i := 29) (by decide +kernel)) rfl⟩
theorem lk_X7_112 : zLV RX7 112 mX7_nextToken := ⟨zt (List.mem_of_getElem? (i := 925) (by decide +kernel)) rfl, zt (List.mem_of_getElem? (i := 927) (by decide +kernel)) rfl, zt (List.mem_of_getElem? (i := 26) (by decide +kernel)) rfl⟩
theorem lk_X7_115 : zLV RX7 115 mX7_must := ⟨zt (List.mem_of_getElem? (i := 938) (by decide +kernel)) rfl, zt (List.mem_of_getElem? (i := 940) (by decide +kernel)) rfl, zt (List.mem_of_getElem? (i := 28) (by decide +kernel)) rfl⟩
theorem fl_X7_119 : zFL RX7 119 7 18 := ⟨_, rfl, by decide, zt (List.mem_of_getElem? (i := 819) (by decide +kernel)) rfl⟩
theorem lk_X7_122 : zLS RX7 122 mX7_kindBy := ⟨zt (List.mem_of_getElem? (i := 958) (by decide +kernel)) rfl, zt (List.mem_of_getElem? (i := 959) (by decide +kernel)) rfl⟩
theorem lk_X7_125 : zLV RX7 125 mX7_number := ⟨zt (List.mem_of_getElem? (i := 946) (by decide +kernel)) rfl, zt (List.mem_of_getElem? (i := 948) (by decide +kernel)) rfl, zt (List.mem_of_getElem? (i := 30) (by decide +kernel)) rfl⟩
theorem lk_X7_129 : zLV RX7 129 mX7_mustSign := ⟨zt (List.mem_of_getElem? (i := 950) (by decide +kernel)) rfl, zt (List.mem_of_getElem? (i := 952) (by decide +kernel)) rfl, zt (List.mem_of_getElem? (i := 31) (by decide +kernel)) rfl⟩
theorem lk_X7_132 : zLV RX7 132 mX7_begin := ⟨zt (List.mem_of_getElem? (i := 921) (by decide +kernel)) rfl, zt (List.mem_of_getElem? (i := 923) (by decide +kernel)) rfl, zt (List.mem_of_getElem? (i := 25) (by decide +kernel)) rfl⟩
theorem lk_X7_135 : zLV RX7 135 mX7_isLetter := ⟨zt (List.mem_of_getElem? (i := 934) (by decide +kernel)) rfl, zt (List.mem_of_getElem? (i := 936) (by decide +kernel)) rfl, zt (List.mem_of_getElem? (i := 27) (by decide +kernel)) rfl⟩
theorem lk_X7_138 : zLV RX7 138 mX7_isSort := ⟨zt (List.mem_of_getElem? (i := 954) (by decide +kernel)) rfl, zt (List.mem_of_getElem? (i := 956) (by decide +kernel)) rfl, zt (List.mem_of_getElem? (i := 32) (by decide +kernel)) rfl⟩
theorem lk_X7_142 : zLV RX7 142 mX7_readMan := ⟨zt (List.mem_of_getElem? (i := 961) (by decide +kernel)) rfl, zt (List.mem_of_getElem? (i := 963) (by decide +kernel)) rfl, zt (List.mem_of_getElem? (i := 33) (by decide +kernel)) rfl⟩
theorem lk_X7_145 : zLV RX7 145 mX7_failed := ⟨zt (List.mem_of_getElem? (i := 965) (by decide +kernel)) rfl, zt (List.mem_of_getElem? (i := 967) (by decide +kernel)) rfl, zt (List.mem_of_getElem? (i := 34) (by decide +kernel)) rfl⟩
theorem co_X7_148 : Cond.constant RX7 148 (-1000100) ∈ ztb := zt (List.mem_of_getElem? (i := 969) (by decide +kernel)) rfl
theorem fl_X7_149 : zFL RX7 149 7 9 := ⟨_, rfl, by decide, zt (List.mem_of_getElem? (i := 810) (by decide +kernel)) rfl⟩
theorem lk_X7_152 : zLS RX7 152 mX7_sunOf := ⟨zt (List.mem_of_getElem? (i := 1006) (by decide +kernel)) rfl, zt (List.mem_of_getElem? (i := 1007) (by decide +kernel)) rfl⟩
theorem lk_X7_156 : zLS RX7 156 mX7_placeOf := ⟨zt (List.mem_of_getElem? (i := 1000) (by decide +kernel)) rfl, zt (List.mem_of_getElem? (i := 1001) (by decide +kernel)) rfl⟩
theorem lk_X7_159 : zLS RX7 159 mX7_isSunny := ⟨zt (List.mem_of_getElem? (i := 1003) (by decide +kernel)) rfl, zt (List.mem_of_getElem? (i := 1004) (by decide +kernel)) rfl⟩
theorem lk_X7_163 : zLS RX7 163 mX7_of := ⟨zt (List.mem_of_getElem? (i := 988) (by decide +kernel)) rfl, zt (List.mem_of_getElem? (i := 989) (by decide +kernel)) rfl⟩
theorem lk_X7_167 : zLS RX7 167 mX7_hasSun := ⟨zt (List.mem_of_getElem? (i := 997) (by decide +kernel)) rfl, zt (List.mem_of_getElem? (i := 998) (by decide +kernel)) rfl⟩
theorem lk_X7_170 : zLS RX7 170 mX7_sitDown := ⟨zt (List.mem_of_getElem? (i := 991) (by decide +kernel)) rfl, zt (List.mem_of_getElem? (i := 992) (by decide +kernel)) rfl⟩
theorem lk_X7_174 : zLS RX7 174 mX7_goes := ⟨zt (List.mem_of_getElem? (i := 994) (by decide +kernel)) rfl, zt (List.mem_of_getElem? (i := 995) (by decide +kernel)) rfl⟩
theorem lk_X7_177 : zLS RX7 177 mX7_getUp := ⟨zt (List.mem_of_getElem? (i := 1009) (by decide +kernel)) rfl, zt (List.mem_of_getElem? (i := 1010) (by decide +kernel)) rfl⟩
theorem lk_X7_180 : zLV RX7 180 mX7_hour := ⟨zt (List.mem_of_getElem? (i := 984) (by decide +kernel)) rfl, zt (List.mem_of_getElem? (i := 986) (by decide +kernel)) rfl, zt (List.mem_of_getElem? (i := 37) (by decide +kernel)) rfl⟩
theorem lk_X7_183 : zLV RX7 183 mX7_hoursOf := ⟨zt (List.mem_of_getElem? (i := 1069) (by decide +kernel)) rfl, zt (List.mem_of_getElem? (i := 1071) (by decide +kernel)) rfl, zt (List.mem_of_getElem? (i := 41) (by decide +kernel)) rfl⟩
theorem lk_X7_186 : zLV RX7 186 mX7_isThere := ⟨zt (List.mem_of_getElem? (i := 974) (by decide +kernel)) rfl, zt (List.mem_of_getElem? (i := 976) (by decide +kernel)) rfl, zt (List.mem_of_getElem? (i := 35) (by decide +kernel)) rfl⟩
theorem co_X7_189 : Cond.constant RX7 189 (-1000002) ∈ ztb := zt (List.mem_of_getElem? (i := 978) (by decide +kernel)) rfl
theorem col_X7_190 : Cond.constantLong RX7 190 (24) ∈ ztb := zt (List.mem_of_getElem? (i := 979) (by decide +kernel)) rfl
theorem lk_X7_192 : zLV RX7 192 mX7_keep := ⟨zt (List.mem_of_getElem? (i := 980) (by decide +kernel)) rfl, zt (List.mem_of_getElem? (i := 982) (by decide +kernel)) rfl, zt (List.mem_of_getElem? (i := 36) (by decide +kernel)) rfl⟩
theorem lk_X7_195 : zLS RX7 195 mX7_sitting := ⟨zt (List.mem_of_getElem? (i := 1012) (by decide +kernel)) rfl, zt (List.mem_of_getElem? (i := 1013) (by decide +kernel)) rfl⟩
theorem lk_X7_199 : zLV RX7 199 mX7_isMan := ⟨zt (List.mem_of_getElem? (i := 1019) (by decide +kernel)) rfl, zt (List.mem_of_getElem? (i := 1021) (by decide +kernel)) rfl, zt (List.mem_of_getElem? (i := 38) (by decide +kernel)) rfl⟩
theorem lk_X7_202 : zLS RX7 202 mX7_change := ⟨zt (List.mem_of_getElem? (i := 1023) (by decide +kernel)) rfl, zt (List.mem_of_getElem? (i := 1024) (by decide +kernel)) rfl⟩
theorem col_X7_206 : Cond.constantLong RX7 206 (6) ∈ ztb := zt (List.mem_of_getElem? (i := 1050) (by decide +kernel)) rfl
theorem col_X7_208 : Cond.constantLong RX7 208 (23) ∈ ztb := zt (List.mem_of_getElem? (i := 1055) (by decide +kernel)) rfl
theorem col_X7_210 : Cond.constantLong RX7 210 (60) ∈ ztb := zt (List.mem_of_getElem? (i := 1060) (by decide +kernel)) rfl
theorem lk_X7_212 : zLV RX7 212 mX7_layThen := ⟨zt (List.mem_of_getElem? (i := 1061) (by decide +kernel)) rfl, zt (List.mem_of_getElem? (i := 1063) (by decide +kernel)) rfl, zt (List.mem_of_getElem? (i := 39) (by decide +kernel)) rfl⟩
theorem lk_X7_215 : zLV RX7 215 mX7_warmBehind := ⟨zt (List.mem_of_getElem? (i := 1065) (by decide +kernel)) rfl, zt (List.mem_of_getElem? (i := 1067) (by decide +kernel)) rfl, zt (List.mem_of_getElem? (i := 40) (by decide +kernel)) rfl⟩
theorem col_X7_218 : Cond.constantLong RX7 218 (40) ∈ ztb := zt (List.mem_of_getElem? (i := 1089) (by decide +kernel)) rfl
theorem col_X7_220 : Cond.constantLong RX7 220 (12) ∈ ztb := zt (List.mem_of_getElem? (i := 1094) (by decide +kernel)) rfl
theorem lk_X7_222 : zLV RX7 222 mX7_sitSo := ⟨zt (List.mem_of_getElem? (i := 1095) (by decide +kernel)) rfl, zt (List.mem_of_getElem? (i := 1097) (by decide +kernel)) rfl, zt (List.mem_of_getElem? (i := 42) (by decide +kernel)) rfl⟩
theorem col_X7_226 : Cond.constantLong RX7 226 (10) ∈ ztb := zt (List.mem_of_getElem? (i := 1123) (by decide +kernel)) rfl
theorem col_X7_228 : Cond.constantLong RX7 228 (-1000001) ∈ ztb := zt (List.mem_of_getElem? (i := 1124) (by decide +kernel)) rfl
theorem col_X7_230 : Cond.constantLong RX7 230 (999999) ∈ ztb := zt (List.mem_of_getElem? (i := 1129) (by decide +kernel)) rfl
theorem col_X7_232 : Cond.constantLong RX7 232 (16807) ∈ ztb := zt (List.mem_of_getElem? (i := 1130) (by decide +kernel)) rfl
theorem col_X7_234 : Cond.constantLong RX7 234 (2147483647) ∈ ztb := zt (List.mem_of_getElem? (i := 1131) (by decide +kernel)) rfl
theorem col_X7_236 : Cond.constantLong RX7 236 (5) ∈ ztb := zt (List.mem_of_getElem? (i := 1148) (by decide +kernel)) rfl
theorem lk_X7_238 : zLS RX7 238 mX7_isOf := ⟨zt (List.mem_of_getElem? (i := 1149) (by decide +kernel)) rfl, zt (List.mem_of_getElem? (i := 1150) (by decide +kernel)) rfl⟩
theorem fl_X7_241 : zFL RX7 241 7 24 := ⟨_, rfl, by decide, zt (List.mem_of_getElem? (i := 825) (by decide +kernel)) rfl⟩
theorem lk_X7_244 : zLV RX7 244 mX7_began := ⟨zt (List.mem_of_getElem? (i := 1164) (by decide +kernel)) rfl, zt (List.mem_of_getElem? (i := 1166) (by decide +kernel)) rfl, zt (List.mem_of_getElem? (i := 45) (by decide +kernel)) rfl⟩
theorem lk_X7_247 : zLV RX7 247 mX7_plainSize := ⟨zt (List.mem_of_getElem? (i := 1168) (by decide +kernel)) rfl, zt (List.mem_of_getElem? (i := 1170) (by decide +kernel)) rfl, zt (List.mem_of_getElem? (i := 46) (by decide +kernel)) rfl⟩
theorem lk_X7_250 : zLV RX7 250 mX7_boreSize := ⟨zt (List.mem_of_getElem? (i := 1160) (by decide +kernel)) rfl, zt (List.mem_of_getElem? (i := 1162) (by decide +kernel)) rfl, zt (List.mem_of_getElem? (i := 44) (by decide +kernel)) rfl⟩
theorem lk_X7_253 : zLV RX7 253 mX7_markOf := ⟨zt (List.mem_of_getElem? (i := 1172) (by decide +kernel)) rfl, zt (List.mem_of_getElem? (i := 1174) (by decide +kernel)) rfl, zt (List.mem_of_getElem? (i := 47) (by decide +kernel)) rfl⟩
theorem lk_X7_256 : zLV RX7 256 mX7_sizeOf := ⟨zt (List.mem_of_getElem? (i := 1156) (by decide +kernel)) rfl, zt (List.mem_of_getElem? (i := 1158) (by decide +kernel)) rfl, zt (List.mem_of_getElem? (i := 43) (by decide +kernel)) rfl⟩
theorem cl_L_7 : Cond.classLink RL 7 "SunBench" ∈ ztb := zt (List.mem_of_getElem? (i := 65) (by decide +kernel)) rfl
theorem lk_L_9 : zLI RL 9 mX6_init := ⟨zt (List.mem_of_getElem? (i := 67) (by decide +kernel)) rfl, zt (List.mem_of_getElem? (i := 68) (by decide +kernel)) rfl, rfl⟩
theorem cl_L_10 : Cond.classLink RL 10 "SunBenchModel" ∈ ztb := zt (List.mem_of_getElem? (i := 795) (by decide +kernel)) rfl
theorem lk_L_12 : zLI RL 12 mX7_init := ⟨zt (List.mem_of_getElem? (i := 797) (by decide +kernel)) rfl, zt (List.mem_of_getElem? (i := 798) (by decide +kernel)) rfl, rfl⟩
theorem lk_L_13 : zLV RL 13 mX6_row := ⟨zt (List.mem_of_getElem? (i := 259) (by decide +kernel)) rfl, zt (List.mem_of_getElem? (i := 260) (by decide +kernel)) rfl, zt (List.mem_of_getElem? (i := 261) (by decide +kernel)) rfl⟩
theorem lk_L_17 : zLV RL 17 mX7_row := ⟨zt (List.mem_of_getElem? (i := 877) (by decide +kernel)) rfl, zt (List.mem_of_getElem? (i := 878) (by decide +kernel)) rfl, zt (List.mem_of_getElem? (i := 879) (by decide +kernel)) rfl⟩
theorem lk_L_18 : zLV RL 18 mX6_set := ⟨zt (List.mem_of_getElem? (i := 283) (by decide +kernel)) rfl, zt (List.mem_of_getElem? (i := 284) (by decide +kernel)) rfl, zt (List.mem_of_getElem? (i := 285) (by decide +kernel)) rfl⟩
theorem lk_L_21 : zLV RL 21 mX7_set := ⟨zt (List.mem_of_getElem? (i := 895) (by decide +kernel)) rfl, zt (List.mem_of_getElem? (i := 896) (by decide +kernel)) rfl, zt (List.mem_of_getElem? (i := 897) (by decide +kernel)) rfl⟩
theorem lk_L_22 : zLV RL 22 mX6_copy := ⟨zt (List.mem_of_getElem? (i := 303) (by decide +kernel)) rfl, zt (List.mem_of_getElem? (i := 304) (by decide +kernel)) rfl, zt (List.mem_of_getElem? (i := 305) (by decide +kernel)) rfl⟩
theorem lk_L_26 : zLV RL 26 mX7_copy := ⟨zt (List.mem_of_getElem? (i := 899) (by decide +kernel)) rfl, zt (List.mem_of_getElem? (i := 900) (by decide +kernel)) rfl, zt (List.mem_of_getElem? (i := 901) (by decide +kernel)) rfl⟩
theorem lk_L_27 : zLV RL 27 mX6_drop := ⟨zt (List.mem_of_getElem? (i := 318) (by decide +kernel)) rfl, zt (List.mem_of_getElem? (i := 319) (by decide +kernel)) rfl, zt (List.mem_of_getElem? (i := 320) (by decide +kernel)) rfl⟩
theorem lk_L_31 : zLV RL 31 mX7_drop := ⟨zt (List.mem_of_getElem? (i := 903) (by decide +kernel)) rfl, zt (List.mem_of_getElem? (i := 904) (by decide +kernel)) rfl, zt (List.mem_of_getElem? (i := 905) (by decide +kernel)) rfl⟩
theorem lk_L_32 : zLV RL 32 mX6_feed := ⟨zt (List.mem_of_getElem? (i := 326) (by decide +kernel)) rfl, zt (List.mem_of_getElem? (i := 327) (by decide +kernel)) rfl, zt (List.mem_of_getElem? (i := 328) (by decide +kernel)) rfl⟩
theorem lk_L_35 : zLV RL 35 mX7_feed := ⟨zt (List.mem_of_getElem? (i := 907) (by decide +kernel)) rfl, zt (List.mem_of_getElem? (i := 908) (by decide +kernel)) rfl, zt (List.mem_of_getElem? (i := 909) (by decide +kernel)) rfl⟩
theorem lk_L_36 : zLV RL 36 mX6_bench := ⟨zt (List.mem_of_getElem? (i := 339) (by decide +kernel)) rfl, zt (List.mem_of_getElem? (i := 340) (by decide +kernel)) rfl, zt (List.mem_of_getElem? (i := 341) (by decide +kernel)) rfl⟩
theorem lk_L_40 : zLV RL 40 mX7_bench := ⟨zt (List.mem_of_getElem? (i := 917) (by decide +kernel)) rfl, zt (List.mem_of_getElem? (i := 918) (by decide +kernel)) rfl, zt (List.mem_of_getElem? (i := 919) (by decide +kernel)) rfl⟩
theorem lk_L_41 : zLV RL 41 mX6_fault := ⟨zt (List.mem_of_getElem? (i := 485) (by decide +kernel)) rfl, zt (List.mem_of_getElem? (i := 486) (by decide +kernel)) rfl, zt (List.mem_of_getElem? (i := 487) (by decide +kernel)) rfl⟩
theorem lk_L_44 : zLV RL 44 mX7_fault := ⟨zt (List.mem_of_getElem? (i := 913) (by decide +kernel)) rfl, zt (List.mem_of_getElem? (i := 914) (by decide +kernel)) rfl, zt (List.mem_of_getElem? (i := 915) (by decide +kernel)) rfl⟩
theorem lk_L_45 : zLV RL 45 mX6_undo := ⟨zt (List.mem_of_getElem? (i := 489) (by decide +kernel)) rfl, zt (List.mem_of_getElem? (i := 490) (by decide +kernel)) rfl, zt (List.mem_of_getElem? (i := 491) (by decide +kernel)) rfl⟩
theorem lk_L_48 : zLV RL 48 mX7_undo := ⟨zt (List.mem_of_getElem? (i := 1038) (by decide +kernel)) rfl, zt (List.mem_of_getElem? (i := 1039) (by decide +kernel)) rfl, zt (List.mem_of_getElem? (i := 1040) (by decide +kernel)) rfl⟩
theorem lk_L_49 : zLV RL 49 mX6_hours := ⟨zt (List.mem_of_getElem? (i := 499) (by decide +kernel)) rfl, zt (List.mem_of_getElem? (i := 500) (by decide +kernel)) rfl, zt (List.mem_of_getElem? (i := 501) (by decide +kernel)) rfl⟩
theorem lk_L_52 : zLV RL 52 mX7_hours := ⟨zt (List.mem_of_getElem? (i := 970) (by decide +kernel)) rfl, zt (List.mem_of_getElem? (i := 971) (by decide +kernel)) rfl, zt (List.mem_of_getElem? (i := 972) (by decide +kernel)) rfl⟩
theorem lk_L_53 : zLV RL 53 mX6_snuff := ⟨zt (List.mem_of_getElem? (i := 560) (by decide +kernel)) rfl, zt (List.mem_of_getElem? (i := 561) (by decide +kernel)) rfl, zt (List.mem_of_getElem? (i := 562) (by decide +kernel)) rfl⟩
theorem lk_L_56 : zLV RL 56 mX7_snuff := ⟨zt (List.mem_of_getElem? (i := 1015) (by decide +kernel)) rfl, zt (List.mem_of_getElem? (i := 1016) (by decide +kernel)) rfl, zt (List.mem_of_getElem? (i := 1017) (by decide +kernel)) rfl⟩
theorem lk_L_57 : zLV RL 57 mX6_leave := ⟨zt (List.mem_of_getElem? (i := 577) (by decide +kernel)) rfl, zt (List.mem_of_getElem? (i := 578) (by decide +kernel)) rfl, zt (List.mem_of_getElem? (i := 579) (by decide +kernel)) rfl⟩
theorem lk_L_60 : zLV RL 60 mX7_leave := ⟨zt (List.mem_of_getElem? (i := 1026) (by decide +kernel)) rfl, zt (List.mem_of_getElem? (i := 1027) (by decide +kernel)) rfl, zt (List.mem_of_getElem? (i := 1028) (by decide +kernel)) rfl⟩
theorem lk_L_61 : zLV RL 61 mX6_come := ⟨zt (List.mem_of_getElem? (i := 589) (by decide +kernel)) rfl, zt (List.mem_of_getElem? (i := 590) (by decide +kernel)) rfl, zt (List.mem_of_getElem? (i := 591) (by decide +kernel)) rfl⟩
theorem lk_L_64 : zLV RL 64 mX7_come := ⟨zt (List.mem_of_getElem? (i := 1030) (by decide +kernel)) rfl, zt (List.mem_of_getElem? (i := 1031) (by decide +kernel)) rfl, zt (List.mem_of_getElem? (i := 1032) (by decide +kernel)) rfl⟩
theorem lk_L_65 : zLV RL 65 mX6_june := ⟨zt (List.mem_of_getElem? (i := 594) (by decide +kernel)) rfl, zt (List.mem_of_getElem? (i := 595) (by decide +kernel)) rfl, zt (List.mem_of_getElem? (i := 596) (by decide +kernel)) rfl⟩
theorem lk_L_68 : zLV RL 68 mX7_june := ⟨zt (List.mem_of_getElem? (i := 1034) (by decide +kernel)) rfl, zt (List.mem_of_getElem? (i := 1035) (by decide +kernel)) rfl, zt (List.mem_of_getElem? (i := 1036) (by decide +kernel)) rfl⟩
theorem lk_L_69 : zLV RL 69 mX6_man := ⟨zt (List.mem_of_getElem? (i := 602) (by decide +kernel)) rfl, zt (List.mem_of_getElem? (i := 603) (by decide +kernel)) rfl, zt (List.mem_of_getElem? (i := 604) (by decide +kernel)) rfl⟩
theorem lk_L_73 : zLV RL 73 mX7_man := ⟨zt (List.mem_of_getElem? (i := 1042) (by decide +kernel)) rfl, zt (List.mem_of_getElem? (i := 1043) (by decide +kernel)) rfl, zt (List.mem_of_getElem? (i := 1044) (by decide +kernel)) rfl⟩
theorem lk_L_74 : zLV RL 74 mX6_place := ⟨zt (List.mem_of_getElem? (i := 615) (by decide +kernel)) rfl, zt (List.mem_of_getElem? (i := 616) (by decide +kernel)) rfl, zt (List.mem_of_getElem? (i := 617) (by decide +kernel)) rfl⟩
theorem lk_L_77 : zLV RL 77 mX7_place := ⟨zt (List.mem_of_getElem? (i := 1046) (by decide +kernel)) rfl, zt (List.mem_of_getElem? (i := 1047) (by decide +kernel)) rfl, zt (List.mem_of_getElem? (i := 1048) (by decide +kernel)) rfl⟩
theorem lk_L_78 : zLV RL 78 mX6_sun := ⟨zt (List.mem_of_getElem? (i := 619) (by decide +kernel)) rfl, zt (List.mem_of_getElem? (i := 620) (by decide +kernel)) rfl, zt (List.mem_of_getElem? (i := 621) (by decide +kernel)) rfl⟩
theorem lk_L_81 : zLV RL 81 mX7_sun := ⟨zt (List.mem_of_getElem? (i := 1051) (by decide +kernel)) rfl, zt (List.mem_of_getElem? (i := 1052) (by decide +kernel)) rfl, zt (List.mem_of_getElem? (i := 1053) (by decide +kernel)) rfl⟩
theorem lk_L_82 : zLV RL 82 mX6_ahead := ⟨zt (List.mem_of_getElem? (i := 624) (by decide +kernel)) rfl, zt (List.mem_of_getElem? (i := 625) (by decide +kernel)) rfl, zt (List.mem_of_getElem? (i := 626) (by decide +kernel)) rfl⟩
theorem lk_L_85 : zLV RL 85 mX7_ahead := ⟨zt (List.mem_of_getElem? (i := 1056) (by decide +kernel)) rfl, zt (List.mem_of_getElem? (i := 1057) (by decide +kernel)) rfl, zt (List.mem_of_getElem? (i := 1058) (by decide +kernel)) rfl⟩
theorem lk_L_86 : zLV RL 86 mX6_sunny := ⟨zt (List.mem_of_getElem? (i := 637) (by decide +kernel)) rfl, zt (List.mem_of_getElem? (i := 638) (by decide +kernel)) rfl, zt (List.mem_of_getElem? (i := 639) (by decide +kernel)) rfl⟩
theorem lk_L_89 : zLV RL 89 mX7_sunny := ⟨zt (List.mem_of_getElem? (i := 1073) (by decide +kernel)) rfl, zt (List.mem_of_getElem? (i := 1074) (by decide +kernel)) rfl, zt (List.mem_of_getElem? (i := 1075) (by decide +kernel)) rfl⟩
theorem lk_L_90 : zLV RL 90 mX6_most := ⟨zt (List.mem_of_getElem? (i := 641) (by decide +kernel)) rfl, zt (List.mem_of_getElem? (i := 642) (by decide +kernel)) rfl, zt (List.mem_of_getElem? (i := 643) (by decide +kernel)) rfl⟩
theorem lk_L_93 : zLV RL 93 mX7_most := ⟨zt (List.mem_of_getElem? (i := 1077) (by decide +kernel)) rfl, zt (List.mem_of_getElem? (i := 1078) (by decide +kernel)) rfl, zt (List.mem_of_getElem? (i := 1079) (by decide +kernel)) rfl⟩
theorem lk_L_94 : zLV RL 94 mX6_leastSnuff := ⟨zt (List.mem_of_getElem? (i := 645) (by decide +kernel)) rfl, zt (List.mem_of_getElem? (i := 646) (by decide +kernel)) rfl, zt (List.mem_of_getElem? (i := 647) (by decide +kernel)) rfl⟩
theorem lk_L_97 : zLV RL 97 mX7_leastSnuff := ⟨zt (List.mem_of_getElem? (i := 1081) (by decide +kernel)) rfl, zt (List.mem_of_getElem? (i := 1082) (by decide +kernel)) rfl, zt (List.mem_of_getElem? (i := 1083) (by decide +kernel)) rfl⟩
theorem lk_L_98 : zLV RL 98 mX6_whenToCome := ⟨zt (List.mem_of_getElem? (i := 649) (by decide +kernel)) rfl, zt (List.mem_of_getElem? (i := 650) (by decide +kernel)) rfl, zt (List.mem_of_getElem? (i := 651) (by decide +kernel)) rfl⟩
theorem lk_L_101 : zLV RL 101 mX7_whenToCome := ⟨zt (List.mem_of_getElem? (i := 1085) (by decide +kernel)) rfl, zt (List.mem_of_getElem? (i := 1086) (by decide +kernel)) rfl, zt (List.mem_of_getElem? (i := 1087) (by decide +kernel)) rfl⟩
theorem lk_L_102 : zLV RL 102 mX6_rang := ⟨zt (List.mem_of_getElem? (i := 653) (by decide +kernel)) rfl, zt (List.mem_of_getElem? (i := 654) (by decide +kernel)) rfl, zt (List.mem_of_getElem? (i := 655) (by decide +kernel)) rfl⟩
theorem lk_L_105 : zLV RL 105 mX7_rang := ⟨zt (List.mem_of_getElem? (i := 1090) (by decide +kernel)) rfl, zt (List.mem_of_getElem? (i := 1091) (by decide +kernel)) rfl, zt (List.mem_of_getElem? (i := 1092) (by decide +kernel)) rfl⟩
theorem lk_L_106 : zLV RL 106 mX6_who := ⟨zt (List.mem_of_getElem? (i := 665) (by decide +kernel)) rfl, zt (List.mem_of_getElem? (i := 666) (by decide +kernel)) rfl, zt (List.mem_of_getElem? (i := 667) (by decide +kernel)) rfl⟩
theorem lk_L_110 : zLV RL 110 mX7_who := ⟨zt (List.mem_of_getElem? (i := 1099) (by decide +kernel)) rfl, zt (List.mem_of_getElem? (i := 1100) (by decide +kernel)) rfl, zt (List.mem_of_getElem? (i := 1101) (by decide +kernel)) rfl⟩
theorem lk_L_111 : zLV RL 111 mX6_elm := ⟨zt (List.mem_of_getElem? (i := 673) (by decide +kernel)) rfl, zt (List.mem_of_getElem? (i := 674) (by decide +kernel)) rfl, zt (List.mem_of_getElem? (i := 675) (by decide +kernel)) rfl⟩
theorem lk_L_114 : zLV RL 114 mX7_elm := ⟨zt (List.mem_of_getElem? (i := 1103) (by decide +kernel)) rfl, zt (List.mem_of_getElem? (i := 1104) (by decide +kernel)) rfl, zt (List.mem_of_getElem? (i := 1105) (by decide +kernel)) rfl⟩
theorem lk_L_115 : zLV RL 115 mX6_lasts := ⟨zt (List.mem_of_getElem? (i := 677) (by decide +kernel)) rfl, zt (List.mem_of_getElem? (i := 678) (by decide +kernel)) rfl, zt (List.mem_of_getElem? (i := 679) (by decide +kernel)) rfl⟩
theorem lk_L_118 : zLV RL 118 mX7_lasts := ⟨zt (List.mem_of_getElem? (i := 1107) (by decide +kernel)) rfl, zt (List.mem_of_getElem? (i := 1108) (by decide +kernel)) rfl, zt (List.mem_of_getElem? (i := 1109) (by decide +kernel)) rfl⟩
theorem lk_L_119 : zLV RL 119 mX6_wager := ⟨zt (List.mem_of_getElem? (i := 681) (by decide +kernel)) rfl, zt (List.mem_of_getElem? (i := 682) (by decide +kernel)) rfl, zt (List.mem_of_getElem? (i := 683) (by decide +kernel)) rfl⟩
theorem lk_L_122 : zLV RL 122 mX7_wager := ⟨zt (List.mem_of_getElem? (i := 1111) (by decide +kernel)) rfl, zt (List.mem_of_getElem? (i := 1112) (by decide +kernel)) rfl, zt (List.mem_of_getElem? (i := 1113) (by decide +kernel)) rfl⟩
theorem lk_L_123 : zLV RL 123 mX6_calls := ⟨zt (List.mem_of_getElem? (i := 685) (by decide +kernel)) rfl, zt (List.mem_of_getElem? (i := 686) (by decide +kernel)) rfl, zt (List.mem_of_getElem? (i := 687) (by decide +kernel)) rfl⟩
theorem lk_L_126 : zLV RL 126 mX7_calls := ⟨zt (List.mem_of_getElem? (i := 1115) (by decide +kernel)) rfl, zt (List.mem_of_getElem? (i := 1116) (by decide +kernel)) rfl, zt (List.mem_of_getElem? (i := 1117) (by decide +kernel)) rfl⟩
theorem lk_L_127 : zLV RL 127 mX6_late := ⟨zt (List.mem_of_getElem? (i := 689) (by decide +kernel)) rfl, zt (List.mem_of_getElem? (i := 690) (by decide +kernel)) rfl, zt (List.mem_of_getElem? (i := 691) (by decide +kernel)) rfl⟩
theorem lk_L_131 : zLV RL 131 mX7_late := ⟨zt (List.mem_of_getElem? (i := 1119) (by decide +kernel)) rfl, zt (List.mem_of_getElem? (i := 1120) (by decide +kernel)) rfl, zt (List.mem_of_getElem? (i := 1121) (by decide +kernel)) rfl⟩
theorem lk_L_132 : zLV RL 132 mX6_drawn := ⟨zt (List.mem_of_getElem? (i := 714) (by decide +kernel)) rfl, zt (List.mem_of_getElem? (i := 715) (by decide +kernel)) rfl, zt (List.mem_of_getElem? (i := 716) (by decide +kernel)) rfl⟩
theorem lk_L_135 : zLV RL 135 mX7_drawn := ⟨zt (List.mem_of_getElem? (i := 1125) (by decide +kernel)) rfl, zt (List.mem_of_getElem? (i := 1126) (by decide +kernel)) rfl, zt (List.mem_of_getElem? (i := 1127) (by decide +kernel)) rfl⟩
theorem lk_L_136 : zLV RL 136 mX6_image := ⟨zt (List.mem_of_getElem? (i := 725) (by decide +kernel)) rfl, zt (List.mem_of_getElem? (i := 726) (by decide +kernel)) rfl, zt (List.mem_of_getElem? (i := 727) (by decide +kernel)) rfl⟩
theorem lk_L_139 : zLV RL 139 mX7_image := ⟨zt (List.mem_of_getElem? (i := 1132) (by decide +kernel)) rfl, zt (List.mem_of_getElem? (i := 1133) (by decide +kernel)) rfl, zt (List.mem_of_getElem? (i := 1134) (by decide +kernel)) rfl⟩
theorem lk_L_140 : zLV RL 140 mX6_restore := ⟨zt (List.mem_of_getElem? (i := 733) (by decide +kernel)) rfl, zt (List.mem_of_getElem? (i := 734) (by decide +kernel)) rfl, zt (List.mem_of_getElem? (i := 735) (by decide +kernel)) rfl⟩
theorem lk_L_143 : zLV RL 143 mX7_restore := ⟨zt (List.mem_of_getElem? (i := 1136) (by decide +kernel)) rfl, zt (List.mem_of_getElem? (i := 1137) (by decide +kernel)) rfl, zt (List.mem_of_getElem? (i := 1138) (by decide +kernel)) rfl⟩
theorem lk_L_144 : zLV RL 144 mX6_kind := ⟨zt (List.mem_of_getElem? (i := 737) (by decide +kernel)) rfl, zt (List.mem_of_getElem? (i := 738) (by decide +kernel)) rfl, zt (List.mem_of_getElem? (i := 739) (by decide +kernel)) rfl⟩
theorem lk_L_147 : zLV RL 147 mX7_kind := ⟨zt (List.mem_of_getElem? (i := 1140) (by decide +kernel)) rfl, zt (List.mem_of_getElem? (i := 1141) (by decide +kernel)) rfl, zt (List.mem_of_getElem? (i := 1142) (by decide +kernel)) rfl⟩
theorem lk_L_148 : zLV RL 148 mX6_as := ⟨zt (List.mem_of_getElem? (i := 741) (by decide +kernel)) rfl, zt (List.mem_of_getElem? (i := 742) (by decide +kernel)) rfl, zt (List.mem_of_getElem? (i := 743) (by decide +kernel)) rfl⟩
theorem lk_L_151 : zLV RL 151 mX7_as := ⟨zt (List.mem_of_getElem? (i := 1144) (by decide +kernel)) rfl, zt (List.mem_of_getElem? (i := 1145) (by decide +kernel)) rfl, zt (List.mem_of_getElem? (i := 1146) (by decide +kernel)) rfl⟩
theorem lk_L_152 : zLV RL 152 mX6_ask := ⟨zt (List.mem_of_getElem? (i := 754) (by decide +kernel)) rfl, zt (List.mem_of_getElem? (i := 755) (by decide +kernel)) rfl, zt (List.mem_of_getElem? (i := 756) (by decide +kernel)) rfl⟩
theorem lk_L_155 : zLV RL 155 mX7_ask := ⟨zt (List.mem_of_getElem? (i := 1152) (by decide +kernel)) rfl, zt (List.mem_of_getElem? (i := 1153) (by decide +kernel)) rfl, zt (List.mem_of_getElem? (i := 1154) (by decide +kernel)) rfl⟩
theorem lk_L_156 : zLV RL 156 mX6_trace := ⟨zt (List.mem_of_getElem? (i := 779) (by decide +kernel)) rfl, zt (List.mem_of_getElem? (i := 780) (by decide +kernel)) rfl, zt (List.mem_of_getElem? (i := 781) (by decide +kernel)) rfl⟩
theorem lk_L_159 : zLV RL 159 mX7_trace := ⟨zt (List.mem_of_getElem? (i := 1176) (by decide +kernel)) rfl, zt (List.mem_of_getElem? (i := 1177) (by decide +kernel)) rfl, zt (List.mem_of_getElem? (i := 1178) (by decide +kernel)) rfl⟩
theorem lk_L_160 : zLV RL 160 mX6_count := ⟨zt (List.mem_of_getElem? (i := 783) (by decide +kernel)) rfl, zt (List.mem_of_getElem? (i := 784) (by decide +kernel)) rfl, zt (List.mem_of_getElem? (i := 785) (by decide +kernel)) rfl⟩
theorem lk_L_163 : zLV RL 163 mX7_count := ⟨zt (List.mem_of_getElem? (i := 1180) (by decide +kernel)) rfl, zt (List.mem_of_getElem? (i := 1181) (by decide +kernel)) rfl, zt (List.mem_of_getElem? (i := 1182) (by decide +kernel)) rfl⟩
theorem lk_L_164 : zLV RL 164 mX6_status := ⟨zt (List.mem_of_getElem? (i := 791) (by decide +kernel)) rfl, zt (List.mem_of_getElem? (i := 792) (by decide +kernel)) rfl, zt (List.mem_of_getElem? (i := 793) (by decide +kernel)) rfl⟩
theorem lk_L_167 : zLV RL 167 mX7_status := ⟨zt (List.mem_of_getElem? (i := 1184) (by decide +kernel)) rfl, zt (List.mem_of_getElem? (i := 1185) (by decide +kernel)) rfl, zt (List.mem_of_getElem? (i := 1186) (by decide +kernel)) rfl⟩
theorem co_J6_265 : Cond.constant RJ6 265 (1431655765) ∈ ztb := zt (List.mem_of_getElem? (i := 705) (by decide +kernel)) rfl
theorem co_J6_266 : Cond.constant RJ6 266 (858993459) ∈ ztb := zt (List.mem_of_getElem? (i := 706) (by decide +kernel)) rfl
theorem co_J6_267 : Cond.constant RJ6 267 (252645135) ∈ ztb := zt (List.mem_of_getElem? (i := 707) (by decide +kernel)) rfl
theorem fk_J0_9 : Cond.fieldLink RJ0 9 "java/lang/String" "value" "[B" ∈ ztb := zt (List.mem_of_getElem? (i := 1189) (by decide +kernel)) rfl
theorem lk_J0_335 : zLV RJ0 335 mJ0_coder_7d493 := ⟨zt (List.mem_of_getElem? (i := 394) (by decide +kernel)) rfl, zt (List.mem_of_getElem? (i := 395) (by decide +kernel)) rfl, zt (List.mem_of_getElem? (i := 396) (by decide +kernel)) rfl⟩
theorem lk_J0_633 : zLV RJ0 633 mJ0_indexOf_7cf53 := ⟨zt (List.mem_of_getElem? (i := 380) (by decide +kernel)) rfl, zt (List.mem_of_getElem? (i := 381) (by decide +kernel)) rfl, zt (List.mem_of_getElem? (i := 382) (by decide +kernel)) rfl⟩
theorem lk_J0_492 : zLV RJ0 492 mJ0_isLatin1_aae02 := ⟨zt (List.mem_of_getElem? (i := 384) (by decide +kernel)) rfl, zt (List.mem_of_getElem? (i := 385) (by decide +kernel)) rfl, zt (List.mem_of_getElem? (i := 386) (by decide +kernel)) rfl⟩
theorem lk_J0_505 : zLV RJ0 505 mJ0_length_8abf5 := ⟨zt (List.mem_of_getElem? (i := 390) (by decide +kernel)) rfl, zt (List.mem_of_getElem? (i := 391) (by decide +kernel)) rfl, zt (List.mem_of_getElem? (i := 392) (by decide +kernel)) rfl⟩
theorem lk_J0_637 : zLS RJ0 637 mJ1_indexOf_4cfef := ⟨zt (List.mem_of_getElem? (i := 398) (by decide +kernel)) rfl, zt (List.mem_of_getElem? (i := 399) (by decide +kernel)) rfl⟩
theorem fk_J0_38 : Cond.fieldLink RJ0 38 "java/lang/String" "COMPACT_STRINGS" "Z" ∈ ztb := zt (List.mem_of_getElem? (i := 388) (by decide +kernel)) rfl
theorem fk_J0_15 : Cond.fieldLink RJ0 15 "java/lang/String" "coder" "B" ∈ ztb := zt (List.mem_of_getElem? (i := 1188) (by decide +kernel)) rfl
theorem fk_J0_1053 : Cond.fieldLink RJ0 1053 "jdk/internal/util/Preconditions" "SIOOBE_FORMATTER" "Ljava/util/function/BiFunction;" ∈ ztb := zt (List.mem_of_getElem? (i := 431) (by decide +kernel)) rfl
theorem lk_J1_88 : zLS RJ1 88 mJ1_canEncode_9a6ad := ⟨zt (List.mem_of_getElem? (i := 401) (by decide +kernel)) rfl, zt (List.mem_of_getElem? (i := 402) (by decide +kernel)) rfl⟩
theorem lk_J1_92 : zLS RJ1 92 mJ9_max_7cf53 := ⟨zt (List.mem_of_getElem? (i := 404) (by decide +kernel)) rfl, zt (List.mem_of_getElem? (i := 405) (by decide +kernel)) rfl⟩
theorem lk_J1_38 : zLS RJ1 38 mJ9_min_7cf53 := ⟨zt (List.mem_of_getElem? (i := 407) (by decide +kernel)) rfl, zt (List.mem_of_getElem? (i := 408) (by decide +kernel)) rfl⟩
theorem lk_J1_95 : zLS RJ1 95 mJ1_indexOfChar_4cfef := ⟨zt (List.mem_of_getElem? (i := 410) (by decide +kernel)) rfl, zt (List.mem_of_getElem? (i := 411) (by decide +kernel)) rfl⟩
theorem ins_6 : Cond.instantiable RX6 11 ∈ ztb ∧ Cond.initialized RX6 ∈ ztb := ⟨zt (List.mem_of_getElem? (i := 66) (by decide +kernel)) rfl, zt (List.mem_of_getElem? (i := 49) (by decide +kernel)) rfl⟩
theorem ins_4 : Cond.instantiable RX4 4 ∈ ztb ∧ Cond.initialized RX4 ∈ ztb := ⟨zt (List.mem_of_getElem? (i := 74) (by decide +kernel)) rfl, zt (List.mem_of_getElem? (i := 50) (by decide +kernel)) rfl⟩
theorem ins_5 : Cond.instantiable RX5 5 ∈ ztb ∧ Cond.initialized RX5 ∈ ztb := ⟨zt (List.mem_of_getElem? (i := 97) (by decide +kernel)) rfl, zt (List.mem_of_getElem? (i := 51) (by decide +kernel)) rfl⟩
theorem ins_2 : Cond.instantiable RX2 13 ∈ ztb ∧ Cond.initialized RX2 ∈ ztb := ⟨zt (List.mem_of_getElem? (i := 122) (by decide +kernel)) rfl, zt (List.mem_of_getElem? (i := 52) (by decide +kernel)) rfl⟩
theorem ins_0 : Cond.instantiable RX0 3 ∈ ztb ∧ Cond.initialized RX0 ∈ ztb := ⟨zt (List.mem_of_getElem? (i := 193) (by decide +kernel)) rfl, zt (List.mem_of_getElem? (i := 53) (by decide +kernel)) rfl⟩
theorem ins_1 : Cond.instantiable RX1 2 ∈ ztb ∧ Cond.initialized RX1 ∈ ztb := ⟨zt (List.mem_of_getElem? (i := 211) (by decide +kernel)) rfl, zt (List.mem_of_getElem? (i := 54) (by decide +kernel)) rfl⟩
theorem ins_7 : Cond.instantiable RX7 25 ∈ ztb ∧ Cond.initialized RX7 ∈ ztb := ⟨zt (List.mem_of_getElem? (i := 796) (by decide +kernel)) rfl, zt (List.mem_of_getElem? (i := 55) (by decide +kernel)) rfl⟩
theorem ac_I : Cond.arrayClass .int ∈ ztb := zt (List.mem_of_getElem? (i := 95) (by decide +kernel)) rfl
theorem ac_Z : Cond.arrayClass .boolean ∈ ztb := zt (List.mem_of_getElem? (i := 94) (by decide +kernel)) rfl
