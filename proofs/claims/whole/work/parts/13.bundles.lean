theorem cbX0_init : cbI yX0_init cX0_init 12 4 := ⟨tw_131, tw_6, ⟨by decide, by decide, by decide +kernel⟩, tw_130, rfl⟩
theorem cbX0_kindOf : cbS yX0_kindOf cX0_kindOf 3 (some .int) 3 := ⟨tw_135, tw_6, ⟨by decide, by decide, by decide +kernel⟩, tw_134⟩
theorem cbX0_ballOf : cbV yX0_ballOf cX0_ballOf 2 (some .int) 1 := ⟨tw_156, tw_6, ⟨by decide, by decide, by decide +kernel⟩, tw_154, tw_155⟩
theorem cbX0_give : cbV yX0_give cX0_give 3 none 2 := ⟨tw_169, tw_6, ⟨by decide, by decide, by decide +kernel⟩, tw_167, tw_168⟩
theorem cbX0_sendAway : cbV yX0_sendAway cX0_sendAway 3 (some .int) 1 := ⟨tw_165, tw_6, ⟨by decide, by decide, by decide +kernel⟩, tw_163, tw_164⟩
theorem cbX1_init : cbI yX1_init cX1_init 7 6 := ⟨tw_198, tw_9, ⟨by decide, by decide, by decide +kernel⟩, tw_197, rfl⟩
theorem cbX1_mayAsk : cbV yX1_mayAsk cX1_mayAsk 2 (some .boolean) 1 := ⟨tw_519, tw_9, ⟨by decide, by decide, by decide +kernel⟩, tw_517, tw_518⟩
theorem cbX1_lastUpTo : cbV yX1_lastUpTo cX1_lastUpTo 3 (some (.object "ScrapHouse$Move")) 1 := ⟨tw_306, tw_9, ⟨by decide, by decide, by decide +kernel⟩, tw_304, tw_305⟩
theorem cbX1_placeOn : cbV yX1_placeOn cX1_placeOn 5 (some .int) 2 := ⟨tw_287, tw_9, ⟨by decide, by decide, by decide +kernel⟩, tw_285, tw_286⟩
theorem cbX1_daysAt : cbV yX1_daysAt cX1_daysAt 10 (some .int) 4 := ⟨tw_361, tw_9, ⟨by decide, by decide, by decide +kernel⟩, tw_359, tw_360⟩
theorem cbX2_init : cbI yX2_init cX2_init 6 5 := ⟨tw_467, tw_13, ⟨by decide, by decide, by decide +kernel⟩, tw_466, rfl⟩
theorem cbX2_agreeing : cbV yX2_agreeing cX2_agreeing 3 (some .int) 1 := ⟨tw_502, tw_13, ⟨by decide, by decide, by decide +kernel⟩, tw_500, tw_501⟩
theorem cbX2_disagreeing : cbV yX2_disagreeing cX2_disagreeing 3 (some .int) 1 := ⟨tw_493, tw_13, ⟨by decide, by decide, by decide +kernel⟩, tw_491, tw_492⟩
theorem cbX3_init : cbI yX3_init cX3_init 3 2 := ⟨tw_185, tw_8, ⟨by decide, by decide, by decide +kernel⟩, tw_184, rfl⟩
theorem cbX3_canBe : cbS yX3_canBe cX3_canBe 2 (some .boolean) 2 := ⟨tw_176, tw_8, ⟨by decide, by decide, by decide +kernel⟩, tw_175⟩
theorem cbX3_farOff : cbV yX3_farOff cX3_farOff 4 (some .int) 1 := ⟨tw_376, tw_8, ⟨by decide, by decide, by decide +kernel⟩, tw_374, tw_375⟩
theorem cbX3_unlike : cbV yX3_unlike cX3_unlike 6 (some .int) 2 := ⟨tw_380, tw_8, ⟨by decide, by decide, by decide +kernel⟩, tw_379, gw_sel (q := (⟨"ScrapHouse$Half", "unlike", "(II)I"⟩, 2)) (by decide +kernel)⟩
theorem cbX3_numberAt : cbS yX3_numberAt cX3_numberAt 2 (some .int) 2 := ⟨tw_383, tw_8, ⟨by decide, by decide, by decide +kernel⟩, tw_382⟩
theorem cbX3_turn : cbS yX3_turn cX3_turn 3 (some .int) 1 := ⟨tw_386, tw_8, ⟨by decide, by decide, by decide +kernel⟩, tw_385⟩
theorem cbX4_init : cbI yX4_init cX4_init 3 2 := ⟨tw_325, tw_11, ⟨by decide, by decide, by decide +kernel⟩, tw_324, rfl⟩
theorem cbX5_init : cbI yX5_init cX5_init 4 3 := ⟨tw_204, tw_10, ⟨by decide, by decide, by decide +kernel⟩, tw_203, rfl⟩
theorem cbX6_init : cbI yX6_init cX6_init 1 0 := ⟨tw_70, tw_4, ⟨by decide, by decide, by decide +kernel⟩, tw_69, rfl⟩
theorem cbX7_init : cbI yX7_init cX7_init 2 1 := ⟨tw_48, tw_3, ⟨by decide, by decide, by decide +kernel⟩, tw_47, rfl⟩
theorem cbX7_faultOf : cbV yX7_faultOf cX7_faultOf 2 (some .int) 1 := ⟨tw_407, tw_3, ⟨by decide, by decide, by decide +kernel⟩, tw_405, tw_406⟩
theorem cbX7_holds : cbV yX7_holds cX7_holds 3 (some .boolean) 1 := ⟨tw_411, tw_3, ⟨by decide, by decide, by decide +kernel⟩, tw_409, tw_410⟩
theorem cbX7_tests : cbV yX7_tests cX7_tests 5 (some .boolean) 1 := ⟨tw_415, tw_3, ⟨by decide, by decide, by decide +kernel⟩, tw_414, gw_sel (q := (⟨"ScrapHouse$Reader", "tests", "(I)Z"⟩, 4)) (by decide +kernel)⟩
theorem cbX7_part : cbV yX7_part cX7_part 5 (some .boolean) 1 := ⟨tw_419, tw_3, ⟨by decide, by decide, by decide +kernel⟩, tw_418, gw_sel (q := (⟨"ScrapHouse$Reader", "part", "(I)Z"⟩, 4)) (by decide +kernel)⟩
theorem cbX7_unit : cbV yX7_unit cX7_unit 3 (some .boolean) 1 := ⟨tw_423, tw_3, ⟨by decide, by decide, by decide +kernel⟩, tw_422, gw_sel (q := (⟨"ScrapHouse$Reader", "unit", "(I)Z"⟩, 4)) (by decide +kernel)⟩
theorem cbX7_test : cbV yX7_test cX7_test 2 (some .boolean) 0 := ⟨tw_435, tw_3, ⟨by decide, by decide, by decide +kernel⟩, tw_434, gw_sel (q := (⟨"ScrapHouse$Reader", "test", "()Z"⟩, 4)) (by decide +kernel)⟩
theorem cbX7_letterValue : cbV yX7_letterValue cX7_letterValue 3 (some .int) 0 := ⟨tw_439, tw_3, ⟨by decide, by decide, by decide +kernel⟩, tw_438, gw_sel (q := (⟨"ScrapHouse$Reader", "letterValue", "()I"⟩, 4)) (by decide +kernel)⟩
theorem cbX7_number : cbV yX7_number cX7_number 3 (some .int) 0 := ⟨tw_451, tw_3, ⟨by decide, by decide, by decide +kernel⟩, tw_450, gw_sel (q := (⟨"ScrapHouse$Reader", "number", "()I"⟩, 4)) (by decide +kernel)⟩
theorem cbX7_isDigit : cbS yX7_isDigit cX7_isDigit 1 (some .boolean) 1 := ⟨tw_454, tw_3, ⟨by decide, by decide, by decide +kernel⟩, tw_453⟩
theorem cbX7_take : cbV yX7_take cX7_take 3 (some .boolean) 1 := ⟨tw_447, tw_3, ⟨by decide, by decide, by decide +kernel⟩, tw_446, gw_sel (q := (⟨"ScrapHouse$Reader", "take", "(C)Z"⟩, 4)) (by decide +kernel)⟩
theorem cbX7_next : cbV yX7_next cX7_next 1 (some .int) 0 := ⟨tw_427, tw_3, ⟨by decide, by decide, by decide +kernel⟩, tw_426, gw_sel (q := (⟨"ScrapHouse$Reader", "next", "()I"⟩, 4)) (by decide +kernel)⟩
theorem cbX7_fail : cbV yX7_fail cX7_fail 1 none 0 := ⟨tw_443, tw_3, ⟨by decide, by decide, by decide +kernel⟩, tw_442, gw_sel (q := (⟨"ScrapHouse$Reader", "fail", "()V"⟩, 4)) (by decide +kernel)⟩
theorem cbX8_init : cbI yX8_init cX8_init 1 0 := ⟨tw_32, tw_2, ⟨by decide, by decide, by decide +kernel⟩, tw_31, rfl⟩
theorem cbX8_add : cbV yX8_add cX8_add 2 none 1 := ⟨tw_395, tw_2, ⟨by decide, by decide, by decide +kernel⟩, tw_393, tw_394⟩
theorem cbX8_byteAt : cbV yX8_byteAt cX8_byteAt 2 (some .int) 1 := ⟨tw_431, tw_2, ⟨by decide, by decide, by decide +kernel⟩, tw_429, tw_430⟩
theorem cbX9_init : cbI yX9_init cX9_init 2 0 := ⟨tw_18, tw_1, ⟨by decide, by decide, by decide +kernel⟩, tw_17, rfl⟩
theorem cbX9_days : cbV yX9_days cX9_days 2 (some .int) 1 := ⟨tw_120, tw_1, ⟨by decide, by decide, by decide +kernel⟩, tw_118, tw_119⟩
theorem cbX9_ballot : cbV yX9_ballot cX9_ballot 6 (some .int) 4 := ⟨tw_127, tw_1, ⟨by decide, by decide, by decide +kernel⟩, tw_125, tw_126⟩
theorem cbX9_ball : cbV yX9_ball cX9_ball 4 (some .int) 2 := ⟨tw_148, tw_1, ⟨by decide, by decide, by decide +kernel⟩, tw_146, tw_147⟩
theorem cbX9_away : cbV yX9_away cX9_away 4 (some .int) 2 := ⟨tw_161, tw_1, ⟨by decide, by decide, by decide +kernel⟩, tw_159, tw_160⟩
theorem cbX9_leave : cbV yX9_leave cX9_leave 8 (some .int) 6 := ⟨tw_173, tw_1, ⟨by decide, by decide, by decide +kernel⟩, tw_171, tw_172⟩
theorem cbX9_beds : cbV yX9_beds cX9_beds 4 (some .boolean) 2 := ⟨tw_271, tw_1, ⟨by decide, by decide, by decide +kernel⟩, tw_269, tw_270⟩
theorem cbX9_move : cbV yX9_move cX9_move 8 (some .boolean) 3 := ⟨tw_291, tw_1, ⟨by decide, by decide, by decide +kernel⟩, tw_289, tw_290⟩
theorem cbX9_place : cbV yX9_place cX9_place 5 (some .int) 3 := ⟨tw_312, tw_1, ⟨by decide, by decide, by decide +kernel⟩, tw_310, tw_311⟩
theorem cbX9_look : cbV yX9_look cX9_look 3 (some .boolean) 1 := ⟨tw_320, tw_1, ⟨by decide, by decide, by decide +kernel⟩, tw_318, tw_319⟩
theorem cbX9_many : cbV yX9_many cX9_many 4 (some .int) 3 := ⟨tw_339, tw_1, ⟨by decide, by decide, by decide +kernel⟩, tw_337, tw_338⟩
theorem cbX9_pay : cbV yX9_pay cX9_pay 6 (some .int) 4 := ⟨tw_343, tw_1, ⟨by decide, by decide, by decide +kernel⟩, tw_341, tw_342⟩
theorem cbX9_gap : cbV yX9_gap cX9_gap 7 (some .int) 4 := ⟨tw_368, tw_1, ⟨by decide, by decide, by decide +kernel⟩, tw_366, tw_367⟩
theorem cbX9_off : cbV yX9_off cX9_off 5 (some .int) 3 := ⟨tw_372, tw_1, ⟨by decide, by decide, by decide +kernel⟩, tw_370, tw_371⟩
theorem cbX9_feed : cbV yX9_feed cX9_feed 4 (some .int) 1 := ⟨tw_391, tw_1, ⟨by decide, by decide, by decide +kernel⟩, tw_389, tw_390⟩
theorem cbX9_end : cbV yX9_end cX9_end 2 (some .boolean) 1 := ⟨tw_399, tw_1, ⟨by decide, by decide, by decide +kernel⟩, tw_397, tw_398⟩
theorem cbX9_fault : cbV yX9_fault cX9_fault 1 (some .int) 0 := ⟨tw_403, tw_1, ⟨by decide, by decide, by decide +kernel⟩, tw_401, tw_402⟩
theorem cbX9_rule : cbV yX9_rule cX9_rule 2 (some .boolean) 0 := ⟨tw_458, tw_1, ⟨by decide, by decide, by decide +kernel⟩, tw_456, tw_457⟩
theorem cbX9_claim : cbV yX9_claim cX9_claim 11 (some .int) 6 := ⟨tw_462, tw_1, ⟨by decide, by decide, by decide +kernel⟩, tw_460, tw_461⟩
theorem cbX9_name : cbV yX9_name cX9_name 4 (some .boolean) 2 := ⟨tw_507, tw_1, ⟨by decide, by decide, by decide +kernel⟩, tw_505, tw_506⟩
theorem cbX9_allow : cbV yX9_allow cX9_allow 5 (some .boolean) 3 := ⟨tw_512, tw_1, ⟨by decide, by decide, by decide +kernel⟩, tw_510, tw_511⟩
theorem cbX9_ask : cbV yX9_ask cX9_ask 4 (some .int) 2 := ⟨tw_523, tw_1, ⟨by decide, by decide, by decide +kernel⟩, tw_521, tw_522⟩
theorem cbX9_guess : cbV yX9_guess cX9_guess 5 (some .int) 3 := ⟨tw_527, tw_1, ⟨by decide, by decide, by decide +kernel⟩, tw_525, tw_526⟩
theorem cbX9_told : cbV yX9_told cX9_told 4 (some .int) 2 := ⟨tw_531, tw_1, ⟨by decide, by decide, by decide +kernel⟩, tw_529, tw_530⟩
theorem cbX9_count : cbV yX9_count cX9_count 2 (some .int) 1 := ⟨tw_535, tw_1, ⟨by decide, by decide, by decide +kernel⟩, tw_533, tw_534⟩
theorem cbX9_within : cbS yX9_within cX9_within 3 (some .boolean) 3 := ⟨tw_123, tw_1, ⟨by decide, by decide, by decide +kernel⟩, tw_122⟩
theorem cbX9_isPlace : cbS yX9_isPlace cX9_isPlace 1 (some .boolean) 1 := ⟨tw_298, tw_1, ⟨by decide, by decide, by decide +kernel⟩, tw_297⟩
theorem cbX9_isWho : cbS yX9_isWho cX9_isWho 1 (some .boolean) 1 := ⟨tw_515, tw_1, ⟨by decide, by decide, by decide +kernel⟩, tw_514⟩
theorem cbX9_areWeeks : cbS yX9_areWeeks cX9_areWeeks 2 (some .boolean) 2 := ⟨tw_346, tw_1, ⟨by decide, by decide, by decide +kernel⟩, tw_345⟩
theorem cbX9_isPast : cbV yX9_isPast cX9_isPast 2 (some .boolean) 1 := ⟨tw_316, tw_1, ⟨by decide, by decide, by decide +kernel⟩, tw_315, gw_sel (q := (⟨"ScrapHouse", "isPast", "(I)Z"⟩, 12)) (by decide +kernel)⟩
theorem cbX9_findBallot : cbV yX9_findBallot cX9_findBallot 2 (some (.object "ScrapHouse$Ballot")) 1 := ⟨tw_152, tw_1, ⟨by decide, by decide, by decide +kernel⟩, tw_151, gw_sel (q := (⟨"ScrapHouse", "findBallot", "(I)LScrapHouse$Ballot;"⟩, 12)) (by decide +kernel)⟩
theorem cbX9_findChild : cbV yX9_findChild cX9_findChild 2 (some (.object "ScrapHouse$Child")) 1 := ⟨tw_295, tw_1, ⟨by decide, by decide, by decide +kernel⟩, tw_294, gw_sel (q := (⟨"ScrapHouse", "findChild", "(I)LScrapHouse$Child;"⟩, 12)) (by decide +kernel)⟩
theorem cbX9_findNurse : cbV yX9_findNurse cX9_findNurse 2 (some (.object "ScrapHouse$Nurse")) 1 := ⟨tw_275, tw_1, ⟨by decide, by decide, by decide +kernel⟩, tw_274, gw_sel (q := (⟨"ScrapHouse", "findNurse", "(I)LScrapHouse$Nurse;"⟩, 12)) (by decide +kernel)⟩
theorem cbX9_isGone : cbV yX9_isGone cX9_isGone 4 (some .boolean) 2 := ⟨tw_302, tw_1, ⟨by decide, by decide, by decide +kernel⟩, tw_301, gw_sel (q := (⟨"ScrapHouse", "isGone", "(LScrapHouse$Child;I)Z"⟩, 12)) (by decide +kernel)⟩
theorem cbX9_childrenAt : cbV yX9_childrenAt cX9_childrenAt 6 (some .int) 3 := ⟨tw_283, tw_1, ⟨by decide, by decide, by decide +kernel⟩, tw_282, gw_sel (q := (⟨"ScrapHouse", "childrenAt", "(III)I"⟩, 12)) (by decide +kernel)⟩
theorem cbX9_isOver : cbV yX9_isOver cX9_isOver 7 (some .boolean) 3 := ⟨tw_279, tw_1, ⟨by decide, by decide, by decide +kernel⟩, tw_278, gw_sel (q := (⟨"ScrapHouse", "isOver", "(III)Z"⟩, 12)) (by decide +kernel)⟩
theorem cbX9_daysWith : cbV yX9_daysWith cX9_daysWith 9 (some .int) 4 := ⟨tw_354, tw_1, ⟨by decide, by decide, by decide +kernel⟩, tw_353, gw_sel (q := (⟨"ScrapHouse", "daysWith", "(IIII)I"⟩, 12)) (by decide +kernel)⟩
theorem cbX9_seenDays : cbV yX9_seenDays cX9_seenDays 11 (some .int) 5 := ⟨tw_350, tw_1, ⟨by decide, by decide, by decide +kernel⟩, tw_349, gw_sel (q := (⟨"ScrapHouse", "seenDays", "(ILScrapHouse$Look;III)I"⟩, 12)) (by decide +kernel)⟩
theorem cbX9_childrenFitting : cbV yX9_childrenFitting cX9_childrenFitting 4 (some .int) 1 := ⟨tw_489, tw_1, ⟨by decide, by decide, by decide +kernel⟩, tw_488, gw_sel (q := (⟨"ScrapHouse", "childrenFitting", "(LScrapHouse$Claim;)I"⟩, 12)) (by decide +kernel)⟩
theorem cbX9_setValues : cbV yX9_setValues cX9_setValues 4 none 3 := ⟨tw_498, tw_1, ⟨by decide, by decide, by decide +kernel⟩, tw_497, gw_sel (q := (⟨"ScrapHouse", "setValues", "(LScrapHouse$Child;LScrapHouse$Claim;I)V"⟩, 12)) (by decide +kernel)⟩
theorem cbX10_in : cbS yX10_in cX10_in 3 (some .boolean) 3 := ⟨tw_649, tw_5, ⟨by decide, by decide, by decide +kernel⟩, tw_648⟩
theorem cbX10_init : cbI yX10_init cX10_init 2 0 := ⟨tw_540, tw_5, ⟨by decide, by decide, by decide +kernel⟩, tw_539, rfl⟩
theorem cbX10_days : cbV yX10_days cX10_days 2 (some .int) 1 := ⟨tw_646, tw_5, ⟨by decide, by decide, by decide +kernel⟩, tw_644, tw_645⟩
theorem cbX10_ballot : cbV yX10_ballot cX10_ballot 13 (some .int) 4 := ⟨tw_653, tw_5, ⟨by decide, by decide, by decide +kernel⟩, tw_651, tw_652⟩
theorem cbX10_lineOf : cbV yX10_lineOf cX10_lineOf 3 (some (.array .int)) 1 := ⟨tw_657, tw_5, ⟨by decide, by decide, by decide +kernel⟩, tw_656, gw_sel (q := (⟨"ScrapHouseModel", "lineOf", "(I)[I"⟩, 33)) (by decide +kernel)⟩
theorem cbX10_isWoman : cbV yX10_isWoman cX10_isWoman 3 (some .boolean) 2 := ⟨tw_667, tw_5, ⟨by decide, by decide, by decide +kernel⟩, tw_666, gw_sel (q := (⟨"ScrapHouseModel", "isWoman", "(II)Z"⟩, 33)) (by decide +kernel)⟩
theorem cbX10_ball : cbV yX10_ball cX10_ball 3 (some .int) 2 := ⟨tw_663, tw_5, ⟨by decide, by decide, by decide +kernel⟩, tw_661, tw_662⟩
theorem cbX10_away : cbV yX10_away cX10_away 4 (some .int) 2 := ⟨tw_671, tw_5, ⟨by decide, by decide, by decide +kernel⟩, tw_669, tw_670⟩
theorem cbX10_leave : cbV yX10_leave cX10_leave 7 (some .int) 6 := ⟨tw_675, tw_5, ⟨by decide, by decide, by decide +kernel⟩, tw_673, tw_674⟩
theorem cbX10_isChild : cbV yX10_isChild cX10_isChild 2 (some .boolean) 1 := ⟨tw_708, tw_5, ⟨by decide, by decide, by decide +kernel⟩, tw_707, gw_sel (q := (⟨"ScrapHouseModel", "isChild", "(I)Z"⟩, 33)) (by decide +kernel)⟩
theorem cbX10_where : cbV yX10_where cX10_where 7 (some .int) 3 := ⟨tw_700, tw_5, ⟨by decide, by decide, by decide +kernel⟩, tw_699, gw_sel (q := (⟨"ScrapHouseModel", "where", "(III)I"⟩, 33)) (by decide +kernel)⟩
theorem cbX10_isThere : cbV yX10_isThere cX10_isThere 4 (some .boolean) 3 := ⟨tw_696, tw_5, ⟨by decide, by decide, by decide +kernel⟩, tw_695, gw_sel (q := (⟨"ScrapHouseModel", "isThere", "(III)Z"⟩, 33)) (by decide +kernel)⟩
theorem cbX10_manyAt : cbV yX10_manyAt cX10_manyAt 6 (some .int) 3 := ⟨tw_692, tw_5, ⟨by decide, by decide, by decide +kernel⟩, tw_691, gw_sel (q := (⟨"ScrapHouseModel", "manyAt", "(III)I"⟩, 33)) (by decide +kernel)⟩
theorem cbX10_hasRoom : cbV yX10_hasRoom cX10_hasRoom 5 (some .boolean) 3 := ⟨tw_684, tw_5, ⟨by decide, by decide, by decide +kernel⟩, tw_683, gw_sel (q := (⟨"ScrapHouseModel", "hasRoom", "(III)Z"⟩, 33)) (by decide +kernel)⟩
theorem cbX10_changesOn : cbV yX10_changesOn cX10_changesOn 3 (some .boolean) 1 := ⟨tw_688, tw_5, ⟨by decide, by decide, by decide +kernel⟩, tw_687, gw_sel (q := (⟨"ScrapHouseModel", "changesOn", "(I)Z"⟩, 33)) (by decide +kernel)⟩
theorem cbX10_beds : cbV yX10_beds cX10_beds 3 (some .boolean) 2 := ⟨tw_680, tw_5, ⟨by decide, by decide, by decide +kernel⟩, tw_678, tw_679⟩
theorem cbX10_move : cbV yX10_move cX10_move 5 (some .boolean) 3 := ⟨tw_704, tw_5, ⟨by decide, by decide, by decide +kernel⟩, tw_702, tw_703⟩
theorem cbX10_areDays : cbV yX10_areDays cX10_areDays 3 (some .boolean) 2 := ⟨tw_716, tw_5, ⟨by decide, by decide, by decide +kernel⟩, tw_715, gw_sel (q := (⟨"ScrapHouseModel", "areDays", "(II)Z"⟩, 33)) (by decide +kernel)⟩
theorem cbX10_place : cbV yX10_place cX10_place 4 (some .int) 3 := ⟨tw_712, tw_5, ⟨by decide, by decide, by decide +kernel⟩, tw_710, tw_711⟩
theorem cbX10_many : cbV yX10_many cX10_many 4 (some .int) 3 := ⟨tw_720, tw_5, ⟨by decide, by decide, by decide +kernel⟩, tw_718, tw_719⟩
theorem cbX10_look : cbV yX10_look cX10_look 2 (some .boolean) 1 := ⟨tw_724, tw_5, ⟨by decide, by decide, by decide +kernel⟩, tw_722, tw_723⟩
theorem cbX10_isSeen : cbV yX10_isSeen cX10_isSeen 5 (some .boolean) 3 := ⟨tw_740, tw_5, ⟨by decide, by decide, by decide +kernel⟩, tw_739, gw_sel (q := (⟨"ScrapHouseModel", "isSeen", "(III)Z"⟩, 33)) (by decide +kernel)⟩
theorem cbX10_daysWith : cbV yX10_daysWith cX10_daysWith 10 (some .int) 5 := ⟨tw_736, tw_5, ⟨by decide, by decide, by decide +kernel⟩, tw_735, gw_sel (q := (⟨"ScrapHouseModel", "daysWith", "(IIIIZ)I"⟩, 33)) (by decide +kernel)⟩
theorem cbX10_areWeeks : cbV yX10_areWeeks cX10_areWeeks 5 (some .boolean) 4 := ⟨tw_732, tw_5, ⟨by decide, by decide, by decide +kernel⟩, tw_731, gw_sel (q := (⟨"ScrapHouseModel", "areWeeks", "(IIII)Z"⟩, 33)) (by decide +kernel)⟩
theorem cbX10_pay : cbV yX10_pay cX10_pay 5 (some .int) 4 := ⟨tw_728, tw_5, ⟨by decide, by decide, by decide +kernel⟩, tw_726, tw_727⟩
theorem cbX10_gap : cbV yX10_gap cX10_gap 5 (some .int) 4 := ⟨tw_745, tw_5, ⟨by decide, by decide, by decide +kernel⟩, tw_743, tw_744⟩
theorem cbX10_third : cbS yX10_third cX10_third 2 (some .int) 2 := ⟨tw_760, tw_5, ⟨by decide, by decide, by decide +kernel⟩, tw_759⟩
theorem cbX10_offBy : cbV yX10_offBy cX10_offBy 9 (some .int) 4 := ⟨tw_757, tw_5, ⟨by decide, by decide, by decide +kernel⟩, tw_756, gw_sel (q := (⟨"ScrapHouseModel", "offBy", "(IIIZ)I"⟩, 33)) (by decide +kernel)⟩
theorem cbX10_offOf : cbV yX10_offOf cX10_offOf 4 (some .int) 3 := ⟨tw_753, tw_5, ⟨by decide, by decide, by decide +kernel⟩, tw_752, gw_sel (q := (⟨"ScrapHouseModel", "offOf", "(III)I"⟩, 33)) (by decide +kernel)⟩
theorem cbX10_off : cbV yX10_off cX10_off 4 (some .int) 3 := ⟨tw_749, tw_5, ⟨by decide, by decide, by decide +kernel⟩, tw_747, tw_748⟩
theorem cbX10_feed : cbV yX10_feed cX10_feed 5 (some .int) 1 := ⟨tw_764, tw_5, ⟨by decide, by decide, by decide +kernel⟩, tw_762, tw_763⟩
theorem cbX10_end : cbV yX10_end cX10_end 2 (some .boolean) 1 := ⟨tw_768, tw_5, ⟨by decide, by decide, by decide +kernel⟩, tw_766, tw_767⟩
theorem cbX10_peek : cbV yX10_peek cX10_peek 1 (some .int) 0 := ⟨tw_788, tw_5, ⟨by decide, by decide, by decide +kernel⟩, tw_787, gw_sel (q := (⟨"ScrapHouseModel", "peek", "()I"⟩, 33)) (by decide +kernel)⟩
theorem cbX10_fail : cbV yX10_fail cX10_fail 1 none 0 := ⟨tw_792, tw_5, ⟨by decide, by decide, by decide +kernel⟩, tw_791, gw_sel (q := (⟨"ScrapHouseModel", "fail", "()V"⟩, 33)) (by decide +kernel)⟩
theorem cbX10_say : cbV yX10_say cX10_say 2 none 1 := ⟨tw_796, tw_5, ⟨by decide, by decide, by decide +kernel⟩, tw_795, gw_sel (q := (⟨"ScrapHouseModel", "say", "(I)V"⟩, 33)) (by decide +kernel)⟩
theorem cbX10_unit : cbV yX10_unit cX10_unit 6 none 0 := ⟨tw_784, tw_5, ⟨by decide, by decide, by decide +kernel⟩, tw_783, gw_sel (q := (⟨"ScrapHouseModel", "unit", "()V"⟩, 33)) (by decide +kernel)⟩
theorem cbX10_part : cbV yX10_part cX10_part 1 none 0 := ⟨tw_780, tw_5, ⟨by decide, by decide, by decide +kernel⟩, tw_779, gw_sel (q := (⟨"ScrapHouseModel", "part", "()V"⟩, 33)) (by decide +kernel)⟩
theorem cbX10_tests : cbV yX10_tests cX10_tests 1 none 0 := ⟨tw_776, tw_5, ⟨by decide, by decide, by decide +kernel⟩, tw_775, gw_sel (q := (⟨"ScrapHouseModel", "tests", "()V"⟩, 33)) (by decide +kernel)⟩
theorem cbX10_fault : cbV yX10_fault cX10_fault 1 (some .int) 0 := ⟨tw_772, tw_5, ⟨by decide, by decide, by decide +kernel⟩, tw_770, tw_771⟩
theorem cbX10_rule : cbV yX10_rule cX10_rule 2 (some .boolean) 0 := ⟨tw_800, tw_5, ⟨by decide, by decide, by decide +kernel⟩, tw_798, tw_799⟩
theorem cbX10_holds : cbV yX10_holds cX10_holds 11 (some .boolean) 5 := ⟨tw_817, tw_5, ⟨by decide, by decide, by decide +kernel⟩, tw_816, gw_sel (q := (⟨"ScrapHouseModel", "holds", "(IIIII)Z"⟩, 33)) (by decide +kernel)⟩
theorem cbX10_isOpen : cbV yX10_isOpen cX10_isOpen 3 (some .boolean) 1 := ⟨tw_809, tw_5, ⟨by decide, by decide, by decide +kernel⟩, tw_808, gw_sel (q := (⟨"ScrapHouseModel", "isOpen", "(I)Z"⟩, 33)) (by decide +kernel)⟩
theorem cbX10_agreeing : cbV yX10_agreeing cX10_agreeing 6 (some .int) 5 := ⟨tw_813, tw_5, ⟨by decide, by decide, by decide +kernel⟩, tw_812, gw_sel (q := (⟨"ScrapHouseModel", "agreeing", "(IIIII)I"⟩, 33)) (by decide +kernel)⟩
theorem cbX10_claim : cbV yX10_claim cX10_claim 13 (some .int) 6 := ⟨tw_805, tw_5, ⟨by decide, by decide, by decide +kernel⟩, tw_803, tw_804⟩
theorem cbX10_name : cbV yX10_name cX10_name 3 (some .boolean) 2 := ⟨tw_821, tw_5, ⟨by decide, by decide, by decide +kernel⟩, tw_819, tw_820⟩
theorem cbX10_areBoth : cbV yX10_areBoth cX10_areBoth 3 (some .boolean) 2 := ⟨tw_830, tw_5, ⟨by decide, by decide, by decide +kernel⟩, tw_829, gw_sel (q := (⟨"ScrapHouseModel", "areBoth", "(II)Z"⟩, 33)) (by decide +kernel)⟩
theorem cbX10_allow : cbV yX10_allow cX10_allow 4 (some .boolean) 3 := ⟨tw_826, tw_5, ⟨by decide, by decide, by decide +kernel⟩, tw_824, tw_825⟩
theorem cbX10_ask : cbV yX10_ask cX10_ask 3 (some .int) 2 := ⟨tw_834, tw_5, ⟨by decide, by decide, by decide +kernel⟩, tw_832, tw_833⟩
theorem cbX10_guess : cbV yX10_guess cX10_guess 4 (some .int) 3 := ⟨tw_838, tw_5, ⟨by decide, by decide, by decide +kernel⟩, tw_836, tw_837⟩
theorem cbX10_told : cbV yX10_told cX10_told 5 (some .int) 2 := ⟨tw_842, tw_5, ⟨by decide, by decide, by decide +kernel⟩, tw_840, tw_841⟩
theorem cbX10_count : cbV yX10_count cX10_count 2 (some .int) 1 := ⟨tw_846, tw_5, ⟨by decide, by decide, by decide +kernel⟩, tw_844, tw_845⟩
theorem cbJ9_max_7cf53 : cbS yJ9_max_7cf53 cJ9_max_7cf53 2 (some .int) 2 := ⟨tw_364, tw_12, ⟨by decide, by decide, by decide +kernel⟩, tw_363⟩
theorem cbJ9_min_7cf53 : cbS yJ9_min_7cf53 cJ9_min_7cf53 2 (some .int) 2 := ⟨tw_357, tw_12, ⟨by decide, by decide, by decide +kernel⟩, tw_356⟩
theorem cl_0 : vwCl[0]? = some (RX0, TX0, 1) := rfl
theorem ly_0 : ∀ w ∈ u_ws RX0 TX0 1, w ∈ gw := by
  have h : ∀ w ∈ u_ws RX0 TX0 1, w ∈ tables_1 := by decide +kernel
  have h2 : ∀ w ∈ u_ws RX0 TX0 1, goodWord w = true := by decide +kernel
  exact fun w hw => gw_in (h w hw) (h2 w hw)
theorem cl_1 : vwCl[1]? = some (RX1, TX1, 10) := rfl
theorem ly_1 : ∀ w ∈ u_ws RX1 TX1 10, w ∈ gw := by
  have h : ∀ w ∈ u_ws RX1 TX1 10, w ∈ tables_1 := by decide +kernel
  have h2 : ∀ w ∈ u_ws RX1 TX1 10, goodWord w = true := by decide +kernel
  exact fun w hw => gw_in (h w hw) (h2 w hw)
theorem cl_2 : vwCl[2]? = some (RX2, TX2, 5) := rfl
theorem ly_2 : ∀ w ∈ u_ws RX2 TX2 5, w ∈ gw := by
  have h : ∀ w ∈ u_ws RX2 TX2 5, w ∈ tables_1 := by decide +kernel
  have h2 : ∀ w ∈ u_ws RX2 TX2 5, goodWord w = true := by decide +kernel
  exact fun w hw => gw_in (h w hw) (h2 w hw)
theorem cl_3 : vwCl[3]? = some (RX3, TX3, 2) := rfl
theorem ly_3 : ∀ w ∈ u_ws RX3 TX3 2, w ∈ gw := by
  have h : ∀ w ∈ u_ws RX3 TX3 2, w ∈ tables_1 := by decide +kernel
  have h2 : ∀ w ∈ u_ws RX3 TX3 2, goodWord w = true := by decide +kernel
  exact fun w hw => gw_in (h w hw) (h2 w hw)
theorem cl_4 : vwCl[4]? = some (RX4, TX4, 2) := rfl
theorem ly_4 : ∀ w ∈ u_ws RX4 TX4 2, w ∈ gw := by
  have h : ∀ w ∈ u_ws RX4 TX4 2, w ∈ tables_1 := by decide +kernel
  have h2 : ∀ w ∈ u_ws RX4 TX4 2, goodWord w = true := by decide +kernel
  exact fun w hw => gw_in (h w hw) (h2 w hw)
theorem cl_5 : vwCl[5]? = some (RX5, TX5, 4) := rfl
theorem ly_5 : ∀ w ∈ u_ws RX5 TX5 4, w ∈ gw := by
  have h : ∀ w ∈ u_ws RX5 TX5 4, w ∈ tables_1 := by decide +kernel
  have h2 : ∀ w ∈ u_ws RX5 TX5 4, goodWord w = true := by decide +kernel
  exact fun w hw => gw_in (h w hw) (h2 w hw)
theorem cl_6 : vwCl[6]? = some (RX6, TX6, 2) := rfl
theorem ly_6 : ∀ w ∈ u_ws RX6 TX6 2, w ∈ gw := by
  have h : ∀ w ∈ u_ws RX6 TX6 2, w ∈ tables_1 := by decide +kernel
  have h2 : ∀ w ∈ u_ws RX6 TX6 2, goodWord w = true := by decide +kernel
  exact fun w hw => gw_in (h w hw) (h2 w hw)
theorem cl_7 : vwCl[7]? = some (RX7, TX7, 4) := rfl
theorem ly_7 : ∀ w ∈ u_ws RX7 TX7 4, w ∈ gw := by
  have h : ∀ w ∈ u_ws RX7 TX7 4, w ∈ tables_1 := by decide +kernel
  have h2 : ∀ w ∈ u_ws RX7 TX7 4, goodWord w = true := by decide +kernel
  exact fun w hw => gw_in (h w hw) (h2 w hw)
theorem cl_8 : vwCl[8]? = some (RX8, TX8, 2) := rfl
theorem ly_8 : ∀ w ∈ u_ws RX8 TX8 2, w ∈ gw := by
  have h : ∀ w ∈ u_ws RX8 TX8 2, w ∈ tables_1 := by decide +kernel
  have h2 : ∀ w ∈ u_ws RX8 TX8 2, goodWord w = true := by decide +kernel
  exact fun w hw => gw_in (h w hw) (h2 w hw)
theorem cl_9 : vwCl[9]? = some (RX9, TX9, 12) := rfl
theorem ly_9 : ∀ w ∈ u_ws RX9 TX9 12, w ∈ gw := by
  have h : ∀ w ∈ u_ws RX9 TX9 12, w ∈ tables_1 := by decide +kernel
  have h2 : ∀ w ∈ u_ws RX9 TX9 12, goodWord w = true := by decide +kernel
  exact fun w hw => gw_in (h w hw) (h2 w hw)
theorem df_0 : ∀ j, j < 1 → defaultValue (tyX0 j) = vp_V [.null] j := fun j hj => by rcases (show j = 0 by omega) with rfl <;> rfl
theorem df_1 : ∀ j, j < 10 → defaultValue (tyX1 j) = vp_V [.int 0, .int 0, .int 0, .null, .int 0, .int 0, .null, .int 0, .int 0, .int 0] j := fun j hj => by rcases (show j = 0 ∨ j = 1 ∨ j = 2 ∨ j = 3 ∨ j = 4 ∨ j = 5 ∨ j = 6 ∨ j = 7 ∨ j = 8 ∨ j = 9 by omega) with rfl | rfl | rfl | rfl | rfl | rfl | rfl | rfl | rfl | rfl <;> rfl
theorem df_2 : ∀ j, j < 5 → defaultValue (tyX2 j) = vp_V [.null, .int 0, .int 0, .int 0, .int 0] j := fun j hj => by rcases (show j = 0 ∨ j = 1 ∨ j = 2 ∨ j = 3 ∨ j = 4 by omega) with rfl | rfl | rfl | rfl | rfl <;> rfl
theorem df_3 : ∀ j, j < 2 → defaultValue (tyX3 j) = vp_V [.int 0, .int 0] j := fun j hj => by rcases (show j = 0 ∨ j = 1 by omega) with rfl | rfl <;> rfl
theorem df_4 : ∀ j, j < 2 → defaultValue (tyX4 j) = vp_V [.int 0, .null] j := fun j hj => by rcases (show j = 0 ∨ j = 1 by omega) with rfl | rfl <;> rfl
theorem df_5 : ∀ j, j < 4 → defaultValue (tyX5 j) = vp_V [.int 0, .int 0, .int 0, .null] j := fun j hj => by rcases (show j = 0 ∨ j = 1 ∨ j = 2 ∨ j = 3 by omega) with rfl | rfl | rfl | rfl <;> rfl
theorem df_6 : ∀ j, j < 2 → defaultValue (tyX6 j) = vp_V [.int 0, .null] j := fun j hj => by rcases (show j = 0 ∨ j = 1 by omega) with rfl | rfl <;> rfl
theorem df_7 : ∀ j, j < 4 → defaultValue (tyX7 j) = vp_V [.null, .null, .int 0, .int 0] j := fun j hj => by rcases (show j = 0 ∨ j = 1 ∨ j = 2 ∨ j = 3 by omega) with rfl | rfl | rfl | rfl <;> rfl
theorem df_8 : ∀ j, j < 2 → defaultValue (tyX8 j) = vp_V [.null, .int 0] j := fun j hj => by rcases (show j = 0 ∨ j = 1 by omega) with rfl | rfl <;> rfl
theorem df_9 : ∀ j, j < 12 → defaultValue (tyX9 j) = vp_V [.int 0, .int 0, .int 0, .int 0, .int 0, .int 0, .null, .null, .null, .null, .null, .null] j := fun j hj => by rcases (show j = 0 ∨ j = 1 ∨ j = 2 ∨ j = 3 ∨ j = 4 ∨ j = 5 ∨ j = 6 ∨ j = 7 ∨ j = 8 ∨ j = 9 ∨ j = 10 ∨ j = 11 by omega) with rfl | rfl | rfl | rfl | rfl | rfl | rfl | rfl | rfl | rfl | rfl | rfl <;> rfl
theorem df_10 : ∀ j, j < 33 → defaultValue (tyX10 j) = vp_V [.int 0, .int 0, .int 0, .int 0, .int 0, .int 0, .null, .null, .null, .null, .null, .null, .null, .null, .null, .null, .null, .null, .null, .null, .null, .null, .null, .null, .null, .null, .null, .int 0, .int 0, .int 0, .int 0, .int 0, .null] j := fun j hj => by rcases (show j = 0 ∨ j = 1 ∨ j = 2 ∨ j = 3 ∨ j = 4 ∨ j = 5 ∨ j = 6 ∨ j = 7 ∨ j = 8 ∨ j = 9 ∨ j = 10 ∨ j = 11 ∨ j = 12 ∨ j = 13 ∨ j = 14 ∨ j = 15 ∨ j = 16 ∨ j = 17 ∨ j = 18 ∨ j = 19 ∨ j = 20 ∨ j = 21 ∨ j = 22 ∨ j = 23 ∨ j = 24 ∨ j = 25 ∨ j = 26 ∨ j = 27 ∨ j = 28 ∨ j = 29 ∨ j = 30 ∨ j = 31 ∨ j = 32 by omega) with rfl | rfl | rfl | rfl | rfl | rfl | rfl | rfl | rfl | rfl | rfl | rfl | rfl | rfl | rfl | rfl | rfl | rfl | rfl | rfl | rfl | rfl | rfl | rfl | rfl | rfl | rfl | rfl | rfl | rfl | rfl | rfl | rfl <;> rfl
abbrev rmL (k c s : Nat) : Room := { frames := k, cells := c, slots := s, locals := 40 * k }
