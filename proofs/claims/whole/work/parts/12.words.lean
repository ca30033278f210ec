/-! methods, rooms, field tables (by program) -/
theorem kyX5_get : KV RX5 yX5_get cX5_get 2 (some (.object "SledgeStove$House")) 1 := ⟨q283, q284, q64, q285, by decide +kernel⟩
theorem kyX3_get : KV RX3 yX3_get cX3_get 2 (some .int) 1 := ⟨q595, q596, q67, q597, by decide +kernel⟩
theorem kyX1_isA : KV RX1 yX1_isA cX1_isA 2 (some .boolean) 1 := ⟨q300, q301, q65, q302, by decide +kernel⟩
theorem kyX1_needs : KV RX1 yX1_needs cX1_needs 1 (some .boolean) 0 := ⟨q436, q437, q65, q438, by decide +kernel⟩
theorem kyX1_loses : KV RX1 yX1_loses cX1_loses 3 (some .int) 1 := ⟨q304, q305, q65, q306, by decide +kernel⟩
theorem kyX2_next : KV RX2 yX2_next cX2_next 1 none 0 := ⟨q672, q673, q66, q674, by decide +kernel⟩
theorem kyX2_readItem : KV RX2 yX2_readItem cX2_readItem 2 (some .boolean) 0 := ⟨q689, q690, q66, q691, by decide +kernel⟩
theorem kyX2_kindTold : KV RX2 yX2_kindTold cX2_kindTold 1 (some .int) 0 := ⟨q693, q694, q66, q695, by decide +kernel⟩
theorem kyX2_readHouse : KV RX2 yX2_readHouse cX2_readHouse 3 (some .boolean) 1 := ⟨q756, q757, q66, q758, by decide +kernel⟩
theorem kyX2_isWord : KV RX2 yX2_isWord cX2_isWord 3 (some .boolean) 1 := ⟨q698, q699, q66, q700, by decide +kernel⟩
theorem kyX2_readSteep : KV RX2 yX2_readSteep cX2_readSteep 2 (some .boolean) 0 := ⟨q777, q778, q66, q779, by decide +kernel⟩
theorem kyX2_readOut : KV RX2 yX2_readOut cX2_readOut 1 (some .boolean) 0 := ⟨q783, q784, q66, q785, by decide +kernel⟩
theorem kyX5_build : KV RX5 yX5_build cX5_build 3 (some (.object "SledgeStove$House")) 1 := ⟨q279, q280, q64, q281, by decide +kernel⟩
theorem kyX2_readPart : KV RX2 yX2_readPart cX2_readPart 4 (some .boolean) 3 := ⟨q762, q763, q66, q764, by decide +kernel⟩
theorem kyX8_lowest : KS RX8 yX8_lowest cX8_lowest 1 (some .int) 1 := ⟨q320, q63, q321, by decide +kernel⟩
theorem kyX8_highest : KS RX8 yX8_highest cX8_highest 1 (some .int) 1 := ⟨q323, q63, q324, by decide +kernel⟩
theorem kyX2_isNumber : KV RX2 yX2_isNumber cX2_isNumber 3 (some .boolean) 2 := ⟨q768, q769, q66, q770, by decide +kernel⟩
theorem kyX1_put : KV RX1 yX1_put cX1_put 3 none 2 := ⟨q326, q327, q65, q328, by decide +kernel⟩
theorem kyX5_putSteep : KV RX5 yX5_putSteep cX5_putSteep 3 none 2 := ⟨q338, q339, q64, q340, by decide +kernel⟩
theorem kyX2_byteAt : KV RX2 yX2_byteAt cX2_byteAt 2 (some .int) 1 := ⟨q676, q677, q66, q678, by decide +kernel⟩
theorem kyX2_isLetter : KV RX2 yX2_isLetter cX2_isLetter 2 (some .boolean) 1 := ⟨q680, q681, q66, q682, by decide +kernel⟩
theorem kyX2_isDigit : KV RX2 yX2_isDigit cX2_isDigit 2 (some .boolean) 1 := ⟨q684, q685, q66, q686, by decide +kernel⟩
theorem kyX3_cut : KV RX3 yX3_cut cX3_cut 2 (some .int) 1 := ⟨q831, q832, q67, q833, by decide +kernel⟩
theorem kyX4_givesUp : KV RX4 yX4_givesUp cX4_givesUp 2 (some .boolean) 1 := ⟨q581, q1441, q73, q582, by decide +kernel⟩
theorem kyX1_be : KV RX1 yX1_be cX1_be 2 none 1 := ⟨q452, q453, q65, q454, by decide +kernel⟩
theorem kyX1_begin : KV RX1 yX1_begin cX1_begin 2 none 1 := ⟨q287, q288, q65, q289, by decide +kernel⟩
theorem kyX5_steepAt : KV RX5 yX5_steepAt cX5_steepAt 2 (some .int) 1 := ⟨q334, q335, q64, q336, by decide +kernel⟩
theorem kyX5_between : KV RX5 yX5_between cX5_between 6 (some .int) 2 := ⟨q354, q355, q64, q356, by decide +kernel⟩
theorem kyX5_passOne : KV RX5 yX5_passOne cX5_passOne 4 none 0 := ⟨q391, q392, q64, q393, by decide +kernel⟩
theorem kyX5_stoveHouse : KV RX5 yX5_stoveHouse cX5_stoveHouse 2 (some (.object "SledgeStove$House")) 0 := ⟨q395, q396, q64, q397, by decide +kernel⟩
theorem kyX5_burnAt : KV RX5 yX5_burnAt cX5_burnAt 5 none 1 := ⟨q400, q401, q64, q402, by decide +kernel⟩
theorem kyX1_cool : KV RX1 yX1_cool cX1_cool 2 none 1 := ⟨q414, q415, q65, q416, by decide +kernel⟩
theorem kyX1_burns : KV RX1 yX1_burns cX1_burns 1 (some .int) 0 := ⟨q308, q309, q65, q310, by decide +kernel⟩
theorem kyX1_heats : KV RX1 yX1_heats cX1_heats 2 (some .int) 0 := ⟨q296, q297, q65, q298, by decide +kernel⟩
theorem kyX1_warmBy : KV RX1 yX1_warmBy cX1_warmBy 2 none 1 := ⟨q405, q406, q65, q407, by decide +kernel⟩
theorem kyX1_gets : KV RX1 yX1_gets cX1_gets 2 (some .int) 1 := ⟨q410, q411, q65, q412, by decide +kernel⟩
theorem kyX1_isCold : KV RX1 yX1_isCold cX1_isCold 1 (some .boolean) 0 := ⟨q432, q433, q65, q434, by decide +kernel⟩
theorem kyX5_isCold : KV RX5 yX5_isCold cX5_isCold 3 (some .boolean) 1 := ⟨q428, q429, q64, q430, by decide +kernel⟩
theorem kyX1_told : KV RX1 yX1_told cX1_told 2 (some .int) 1 := ⟨q312, q313, q65, q314, by decide +kernel⟩
theorem kyX5_be : KV RX5 yX5_be cX5_be 5 none 1 := ⟨q448, q449, q64, q450, by decide +kernel⟩
theorem kyX5_go : KV RX5 yX5_go cX5_go 2 (some .int) 1 := ⟨q369, q370, q64, q371, by decide +kernel⟩
theorem kyX5_watch : KV RX5 yX5_watch cX5_watch 3 none 0 := ⟨q541, q542, q64, q543, by decide +kernel⟩
theorem kyX8_within : KS RX8 yX8_within cX8_within 3 (some .boolean) 3 := ⟨q271, q63, q272, by decide +kernel⟩
theorem kyX8_fail : KV RX8 yX8_fail cX8_fail 2 (some .int) 1 := ⟨q275, q0, q63, q276, by decide +kernel⟩
theorem kyX8_endsTooLate : KV RX8 yX8_endsTooLate cX8_endsTooLate 2 (some .boolean) 1 := ⟨q379, q1, q63, q380, by decide +kernel⟩
theorem kyX5_sum : KV RX5 yX5_sum cX5_sum 5 (some .int) 1 := ⟨q382, q383, q64, q384, by decide +kernel⟩
theorem kyX5_pass : KV RX5 yX5_pass cX5_pass 3 none 1 := ⟨q387, q388, q64, q389, by decide +kernel⟩
theorem kyX5_coldSet : KV RX5 yX5_coldSet cX5_coldSet 3 (some .int) 0 := ⟨q424, q425, q64, q426, by decide +kernel⟩
theorem kyX8_trial : KV RX8 yX8_trial cX8_trial 1 (some (.object "SledgeStove$Village")) 0 := ⟨q445, q2, q63, q446, by decide +kernel⟩
theorem kyX5_leastWarmth : KV RX5 yX5_leastWarmth cX5_leastWarmth 4 (some .int) 0 := ⟨q459, q460, q64, q461, by decide +kernel⟩
theorem kyX8_cannotStart : KV RX8 yX8_cannotStart cX8_cannotStart 2 (some .boolean) 1 := ⟨q474, q3, q63, q475, by decide +kernel⟩
theorem kyX8_sentTo : KV RX8 yX8_sentTo cX8_sentTo 4 (some (.object "SledgeStove$Village")) 2 := ⟨q482, q4, q63, q483, by decide +kernel⟩
theorem kyX8_leastValue : KV RX8 yX8_leastValue cX8_leastValue 6 (some .int) 3 := ⟨q498, q5, q63, q499, by decide +kernel⟩
theorem kyX8_changed : KV RX8 yX8_changed cX8_changed 7 (some (.object "SledgeStove$House")) 4 := ⟨q502, q6, q63, q503, by decide +kernel⟩
theorem kyX8_roundFinding : KV RX8 yX8_roundFinding cX8_roundFinding 2 (some .int) 1 := ⟨q524, q7, q63, q525, by decide +kernel⟩
theorem kyX8_wholeRound : KV RX8 yX8_wholeRound cX8_wholeRound 3 (some (.object "SledgeStove$Village")) 1 := ⟨q528, q8, q63, q529, by decide +kernel⟩
theorem kyX8_tryThrees : KV RX8 yX8_tryThrees cX8_tryThrees 7 none 2 := ⟨q572, q9, q63, q573, by decide +kernel⟩
theorem kyX5_draw : KV RX5 yX5_draw cX5_draw 1 (some .int) 0 := ⟨q640, q641, q64, q642, by decide +kernel⟩
theorem kyX8_wipe : KV RX8 yX8_wipe cX8_wipe 2 (some .int) 0 := ⟨q659, q660, q63, q661, by decide +kernel⟩
theorem kyX2_readAll : KV RX2 yX2_readAll cX2_readAll 3 (some .int) 1 := ⟨q668, q669, q66, q670, by decide +kernel⟩
theorem kyX5_putSpot : KV RX5 yX5_putSpot cX5_putSpot 3 none 2 := ⟨q794, q795, q64, q796, by decide +kernel⟩
theorem kyX5_spotAt : KV RX5 yX5_spotAt cX5_spotAt 2 (some .int) 1 := ⟨q802, q803, q64, q804, by decide +kernel⟩
theorem kyX8_sheetAt : KV RX8 yX8_sheetAt cX8_sheetAt 2 (some (.object "SledgeStove$Sheet")) 1 := ⟨q812, q10, q63, q813, by decide +kernel⟩
theorem kyX3_begin : KV RX3 yX3_begin cX3_begin 4 none 2 := ⟨q815, q816, q67, q817, by decide +kernel⟩
theorem kyX3_isMissing : KV RX3 yX3_isMissing cX3_isMissing 1 (some .boolean) 0 := ⟨q823, q824, q67, q825, by decide +kernel⟩
theorem kyX3_put : KV RX3 yX3_put cX3_put 3 none 2 := ⟨q827, q828, q67, q829, by decide +kernel⟩
theorem kyX3_has : KV RX3 yX3_has cX3_has 3 (some .boolean) 2 := ⟨q839, q840, q67, q841, by decide +kernel⟩
theorem kyX8_tellsHouses : KV RX8 yX8_tellsHouses cX8_tellsHouses 3 (some .boolean) 1 := ⟨q853, q11, q63, q854, by decide +kernel⟩
theorem kyX5_beginRound : KV RX5 yX5_beginRound cX5_beginRound 2 none 1 := ⟨q531, q532, q64, q533, by decide +kernel⟩
theorem kyX5_leg : KV RX5 yX5_leg cX5_leg 5 none 2 := ⟨q536, q537, q64, q538, by decide +kernel⟩
theorem kyX5_spotsHeld : KV RX5 yX5_spotsHeld cX5_spotsHeld 3 (some .int) 0 := ⟨q894, q895, q64, q896, by decide +kernel⟩
theorem kyX9_in : KS RX9 yX9_in cX9_in 6 (some .boolean) 3 := ⟨q992, q68, q993, by decide +kernel⟩
theorem kyX9_at : KS RX9 yX9_at cX9_at 2 (some .int) 2 := ⟨q1005, q68, q1006, by decide +kernel⟩
theorem kyX9_finds : KV RX9 yX9_finds cX9_finds 2 (some .int) 1 := ⟨q997, q12, q68, q998, by decide +kernel⟩
theorem kyX9_newHouse : KV RX9 yX9_newHouse cX9_newHouse 7 (some .int) 5 := ⟨q1002, q13, q68, q1003, by decide +kernel⟩
theorem kyX9_its : KV RX9 yX9_its cX9_its 3 (some .int) 2 := ⟨q1018, q15, q68, q1019, by decide +kernel⟩
theorem kyX9_isHouse : KV RX9 yX9_isHouse cX9_isHouse 2 (some .boolean) 1 := ⟨q1013, q14, q68, q1014, by decide +kernel⟩
theorem kyX9_heats : KV RX9 yX9_heats cX9_heats 3 (some .int) 1 := ⟨q1022, q16, q68, q1023, by decide +kernel⟩
theorem kyX9_loses : KV RX9 yX9_loses cX9_loses 4 (some .int) 1 := ⟨q1026, q17, q68, q1027, by decide +kernel⟩
theorem kyX9_burns : KV RX9 yX9_burns cX9_burns 3 (some .int) 1 := ⟨q1030, q18, q68, q1031, by decide +kernel⟩
theorem kyX9_isPart : KS RX9 yX9_isPart cX9_isPart 2 (some .boolean) 2 := ⟨q1037, q68, q1038, by decide +kernel⟩
theorem kyX9_wayOf : KV RX9 yX9_wayOf cX9_wayOf 7 (some .int) 2 := ⟨q1063, q19, q68, q1064, by decide +kernel⟩
theorem kyX9_isGoing : KV RX9 yX9_isGoing cX9_isGoing 1 (some .boolean) 0 := ⟨q1071, q20, q68, q1072, by decide +kernel⟩
theorem kyX9_sends : KV RX9 yX9_sends cX9_sends 2 none 1 := ⟨q1075, q21, q68, q1076, by decide +kernel⟩
theorem kyX9_warms : KV RX9 yX9_warms cX9_warms 4 none 2 := ⟨q1100, q26, q68, q1101, by decide +kernel⟩
theorem kyX9_getsOf : KV RX9 yX9_getsOf cX9_getsOf 3 none 2 := ⟨q1104, q27, q68, q1105, by decide +kernel⟩
theorem kyX9_quarter : KV RX9 yX9_quarter cX9_quarter 5 none 0 := ⟨q1096, q25, q68, q1097, by decide +kernel⟩
theorem kyX9_isTooLate : KV RX9 yX9_isTooLate cX9_isTooLate 2 (some .boolean) 1 := ⟨q1084, q22, q68, q1085, by decide +kernel⟩
theorem kyX9_sumOf : KV RX9 yX9_sumOf cX9_sumOf 4 (some .int) 1 := ⟨q1088, q23, q68, q1089, by decide +kernel⟩
theorem kyX9_quartersGo : KV RX9 yX9_quartersGo cX9_quartersGo 3 none 1 := ⟨q1092, q24, q68, q1093, by decide +kernel⟩
theorem kyX9_isCold : KV RX9 yX9_isCold cX9_isCold 2 (some .boolean) 1 := ⟨q1116, q29, q68, q1117, by decide +kernel⟩
theorem kyX9_coldSet : KV RX9 yX9_coldSet cX9_coldSet 3 (some .int) 0 := ⟨q1112, q28, q68, q1113, by decide +kernel⟩
theorem kyX9_saves : KV RX9 yX9_saves cX9_saves 2 none 0 := ⟨q1124, q30, q68, q1125, by decide +kernel⟩
theorem kyX9_leastWarmth : KV RX9 yX9_leastWarmth cX9_leastWarmth 3 (some .int) 0 := ⟨q1128, q31, q68, q1129, by decide +kernel⟩
theorem kyX9_putsBack : KV RX9 yX9_putsBack cX9_putsBack 2 none 0 := ⟨q1132, q32, q68, q1133, by decide +kernel⟩
theorem kyX9_isSpan : KS RX9 yX9_isSpan cX9_isSpan 1 (some .boolean) 1 := ⟨q1148, q68, q1149, by decide +kernel⟩
theorem kyX9_isFixed : KV RX9 yX9_isFixed cX9_isFixed 2 (some .boolean) 1 := ⟨q1152, q33, q68, q1153, by decide +kernel⟩
theorem kyX9_isAbove : KV RX9 yX9_isAbove cX9_isAbove 2 (some .boolean) 1 := ⟨q1164, q34, q68, q1165, by decide +kernel⟩
theorem kyX9_leastPart : KV RX9 yX9_leastPart cX9_leastPart 8 (some .int) 5 := ⟨q1172, q35, q68, q1173, by decide +kernel⟩
theorem kyX9_isDone : KV RX9 yX9_isDone cX9_isDone 1 (some .boolean) 0 := ⟨q1220, q42, q68, q1221, by decide +kernel⟩
theorem kyX9_watches : KV RX9 yX9_watches cX9_watches 4 none 1 := ⟨q1216, q41, q68, q1217, by decide +kernel⟩
theorem kyX9_begins : KV RX9 yX9_begins cX9_begins 1 none 0 := ⟨q1208, q39, q68, q1209, by decide +kernel⟩
theorem kyX9_visits : KV RX9 yX9_visits cX9_visits 3 none 2 := ⟨q1212, q40, q68, q1213, by decide +kernel⟩
theorem kyX9_stands : KV RX9 yX9_stands cX9_stands 3 none 1 := ⟨q1240, q45, q68, q1241, by decide +kernel⟩
theorem kyX9_ended : KV RX9 yX9_ended cX9_ended 6 none 3 := ⟨q1248, q47, q68, q1249, by decide +kernel⟩
theorem kyX9_standsAgain : KV RX9 yX9_standsAgain cX9_standsAgain 3 none 1 := ⟨q1252, q48, q68, q1253, by decide +kernel⟩
theorem kyX9_thirds : KV RX9 yX9_thirds cX9_thirds 6 none 4 := ⟨q1244, q46, q68, q1245, by decide +kernel⟩
theorem kyX9_seconds : KV RX9 yX9_seconds cX9_seconds 6 none 4 := ⟨q1236, q44, q68, q1237, by decide +kernel⟩
theorem kyX9_goesRound : KV RX9 yX9_goesRound cX9_goesRound 3 none 1 := ⟨q1204, q38, q68, q1205, by decide +kernel⟩
theorem kyX9_isStay : KS RX9 yX9_isStay cX9_isStay 1 (some .boolean) 1 := ⟨q1191, q68, q1192, by decide +kernel⟩
theorem kyX9_isBarred : KV RX9 yX9_isBarred cX9_isBarred 1 (some .boolean) 0 := ⟨q1196, q36, q68, q1197, by decide +kernel⟩
theorem kyX9_leastRound : KV RX9 yX9_leastRound cX9_leastRound 2 (some .int) 1 := ⟨q1200, q37, q68, q1201, by decide +kernel⟩
theorem kyX9_threes : KV RX9 yX9_threes cX9_threes 5 none 3 := ⟨q1232, q43, q68, q1233, by decide +kernel⟩
theorem kyX9_draw : KV RX9 yX9_draw cX9_draw 1 (some .int) 0 := ⟨q1276, q49, q68, q1277, by decide +kernel⟩
theorem kyX9_ones : KS RX9 yX9_ones cX9_ones 3 (some .int) 1 := ⟨q1280, q68, q1281, by decide +kernel⟩
theorem kyX9_byteAt : KV RX9 yX9_byteAt cX9_byteAt 2 (some .int) 1 := ⟨q1305, q51, q68, q1306, by decide +kernel⟩
theorem kyX9_isLetter : KS RX9 yX9_isLetter cX9_isLetter 1 (some .boolean) 1 := ⟨q1308, q68, q1309, by decide +kernel⟩
theorem kyX9_isDigit : KS RX9 yX9_isDigit cX9_isDigit 1 (some .boolean) 1 := ⟨q1313, q68, q1314, by decide +kernel⟩
theorem kyX9_token : KV RX9 yX9_token cX9_token 3 none 0 := ⟨q1301, q50, q68, q1302, by decide +kernel⟩
theorem kyX9_needs : KV RX9 yX9_needs cX9_needs 2 none 1 := ⟨q1344, q56, q68, q1345, by decide +kernel⟩
theorem kyX9_word : KV RX9 yX9_word cX9_word 4 (some .long) 0 := ⟨q1327, q54, q68, q1328, by decide +kernel⟩
theorem kyX9_number : KV RX9 yX9_number cX9_number 6 none 2 := ⟨q1353, q58, q68, q1354, by decide +kernel⟩
theorem kyX9_perhaps : KV RX9 yX9_perhaps cX9_perhaps 5 (some .int) 4 := ⟨q1349, q57, q68, q1350, by decide +kernel⟩
theorem kyX9_kindHere : KV RX9 yX9_kindHere cX9_kindHere 3 (some .int) 0 := ⟨q1323, q53, q68, q1324, by decide +kernel⟩
theorem kyX9_houseItem : KV RX9 yX9_houseItem cX9_houseItem 7 none 1 := ⟨q1340, q55, q68, q1341, by decide +kernel⟩
theorem kyX9_steepItem : KV RX9 yX9_steepItem cX9_steepItem 2 none 0 := ⟨q1361, q59, q68, q1362, by decide +kernel⟩
theorem kyX9_item : KV RX9 yX9_item cX9_item 3 none 0 := ⟨q1319, q52, q68, q1320, by decide +kernel⟩
theorem kyX9_isOne : KS RX9 yX9_isOne cX9_isOne 1 (some .boolean) 1 := ⟨q1381, q68, q1382, by decide +kernel⟩
theorem kyX9_wrong : KV RX9 yX9_wrong cX9_wrong 2 (some .int) 1 := ⟨q1391, q60, q68, q1392, by decide +kernel⟩
theorem kyX9_narrowed : KS RX9 yX9_narrowed cX9_narrowed 2 (some .int) 2 := ⟨q1394, q68, q1395, by decide +kernel⟩
theorem kyX9_held : KV RX9 yX9_held cX9_held 3 (some .int) 0 := ⟨q1434, q61, q68, q1435, by decide +kernel⟩
theorem kyX8_house : KV RX8 yX8_house cX8_house 2 (some .int) 1 := ⟨q267, q268, q63, q269, by decide +kernel⟩
theorem kyX8_of : KV RX8 yX8_of cX8_of 4 (some .int) 2 := ⟨q291, q292, q63, q293, by decide +kernel⟩
theorem kyX8_change : KV RX8 yX8_change cX8_change 6 (some .int) 3 := ⟨q316, q317, q63, q318, by decide +kernel⟩
theorem kyX8_steep : KV RX8 yX8_steep cX8_steep 4 (some .int) 2 := ⟨q330, q331, q63, q332, by decide +kernel⟩
theorem kyX8_weather : KV RX8 yX8_weather cX8_weather 4 (some .int) 2 := ⟨q342, q343, q63, q344, by decide +kernel⟩
theorem kyX8_lend : KV RX8 yX8_lend cX8_lend 6 (some .int) 3 := ⟨q346, q347, q63, q348, by decide +kernel⟩
theorem kyX8_way : KV RX8 yX8_way cX8_way 3 (some .int) 2 := ⟨q350, q351, q63, q352, by decide +kernel⟩
theorem kyX8_send : KV RX8 yX8_send cX8_send 2 (some .int) 1 := ⟨q365, q366, q63, q367, by decide +kernel⟩
theorem kyX8_quarters : KV RX8 yX8_quarters cX8_quarters 3 (some .int) 1 := ⟨q374, q375, q63, q376, by decide +kernel⟩
theorem kyX8_now : KV RX8 yX8_now cX8_now 2 (some .int) 1 := ⟨q420, q421, q63, q422, by decide +kernel⟩
theorem kyX8_ahead : KV RX8 yX8_ahead cX8_ahead 5 (some .int) 2 := ⟨q440, q441, q63, q442, by decide +kernel⟩
theorem kyX8_cold : KV RX8 yX8_cold cX8_cold 4 (some .int) 1 := ⟨q464, q465, q63, q466, by decide +kernel⟩
theorem kyX8_bake : KV RX8 yX8_bake cX8_bake 6 (some .int) 1 := ⟨q469, q470, q63, q471, by decide +kernel⟩
theorem kyX8_best : KV RX8 yX8_best cX8_best 6 (some .int) 1 := ⟨q477, q478, q63, q479, by decide +kernel⟩
theorem kyX8_lost : KV RX8 yX8_lost cX8_lost 4 (some .int) 1 := ⟨q485, q486, q63, q487, by decide +kernel⟩
theorem kyX8_stay : KV RX8 yX8_stay cX8_stay 5 (some .int) 2 := ⟨q489, q490, q63, q491, by decide +kernel⟩
theorem kyX8_logs : KV RX8 yX8_logs cX8_logs 3 (some .int) 2 := ⟨q493, q494, q63, q495, by decide +kernel⟩
theorem kyX8_wall : KV RX8 yX8_wall cX8_wall 3 (some .int) 2 := ⟨q506, q507, q63, q508, by decide +kernel⟩
theorem kyX8_straw : KV RX8 yX8_straw cX8_straw 8 (some .int) 1 := ⟨q510, q511, q63, q512, by decide +kernel⟩
theorem kyX8_kindFor : KV RX8 yX8_kindFor cX8_kindFor 7 (some .int) 2 := ⟨q515, q516, q63, q517, by decide +kernel⟩
theorem kyX8_round : KV RX8 yX8_round cX8_round 3 (some .int) 1 := ⟨q519, q520, q63, q521, by decide +kernel⟩
theorem kyX8_takes : KV RX8 yX8_takes cX8_takes 3 (some .int) 1 := ⟨q545, q546, q63, q547, by decide +kernel⟩
theorem kyX8_three : KV RX8 yX8_three cX8_three 4 (some .int) 1 := ⟨q549, q550, q63, q551, by decide +kernel⟩
theorem kyX8_least : KV RX8 yX8_least cX8_least 4 (some .int) 1 := ⟨q606, q607, q63, q608, by decide +kernel⟩
theorem kyX8_pace : KV RX8 yX8_pace cX8_pace 5 (some .int) 0 := ⟨q610, q611, q63, q612, by decide +kernel⟩
theorem kyX8_thrift : KV RX8 yX8_thrift cX8_thrift 4 (some .int) 1 := ⟨q614, q615, q63, q616, by decide +kernel⟩
theorem kyX8_middle : KV RX8 yX8_middle cX8_middle 6 (some .int) 0 := ⟨q632, q633, q63, q634, by decide +kernel⟩
theorem kyX8_calls : KV RX8 yX8_calls cX8_calls 4 (some .int) 1 := ⟨q636, q637, q63, q638, by decide +kernel⟩
theorem kyX8_seed : KV RX8 yX8_seed cX8_seed 3 (some .int) 1 := ⟨q651, q652, q63, q653, by decide +kernel⟩
theorem kyX8_feed : KV RX8 yX8_feed cX8_feed 4 (some .int) 2 := ⟨q655, q656, q63, q657, by decide +kernel⟩
theorem kyX8_text : KV RX8 yX8_text cX8_text 2 (some .int) 0 := ⟨q663, q664, q63, q665, by decide +kernel⟩
theorem kyX8_hold : KV RX8 yX8_hold cX8_hold 3 (some .int) 2 := ⟨q790, q791, q63, q792, by decide +kernel⟩
theorem kyX8_as : KV RX8 yX8_as cX8_as 5 (some .int) 2 := ⟨q798, q799, q63, q800, by decide +kernel⟩
theorem kyX8_sheet : KV RX8 yX8_sheet cX8_sheet 5 (some .int) 3 := ⟨q807, q808, q63, q809, by decide +kernel⟩
theorem kyX8_write : KV RX8 yX8_write cX8_write 5 (some .int) 3 := ⟨q819, q820, q63, q821, by decide +kernel⟩
theorem kyX8_copy : KV RX8 yX8_copy cX8_copy 10 (some .int) 5 := ⟨q835, q836, q63, q837, by decide +kernel⟩
theorem kyX8_load : KV RX8 yX8_load cX8_load 7 (some .int) 1 := ⟨q844, q845, q63, q846, by decide +kernel⟩
theorem kyX8_rounds : KV RX8 yX8_rounds cX8_rounds 5 (some .int) 2 := ⟨q848, q849, q63, q850, by decide +kernel⟩
theorem kyX8_diary : KV RX8 yX8_diary cX8_diary 6 (some .int) 2 := ⟨q856, q857, q63, q858, by decide +kernel⟩
theorem kyX8_judge : KV RX8 yX8_judge cX8_judge 7 (some .int) 2 := ⟨q874, q875, q63, q876, by decide +kernel⟩
theorem kyX8_image : KV RX8 yX8_image cX8_image 1 (some .int) 0 := ⟨q878, q879, q63, q880, by decide +kernel⟩
theorem kyX8_undo : KV RX8 yX8_undo cX8_undo 1 (some .int) 0 := ⟨q882, q883, q63, q884, by decide +kernel⟩
theorem kyX8_tear : KV RX8 yX8_tear cX8_tear 2 (some .int) 0 := ⟨q886, q887, q63, q888, by decide +kernel⟩
theorem kyX8_count : KV RX8 yX8_count cX8_count 2 (some .int) 1 := ⟨q890, q891, q63, q892, by decide +kernel⟩
theorem kyX8_status : KV RX8 yX8_status cX8_status 4 (some .int) 1 := ⟨q898, q899, q63, q900, by decide +kernel⟩
theorem kyX9_house : KV RX9 yX9_house cX9_house 2 (some .int) 1 := ⟨q987, q988, q68, q989, by decide +kernel⟩
theorem kyX9_of : KV RX9 yX9_of cX9_of 3 (some .int) 2 := ⟨q1008, q1009, q68, q1010, by decide +kernel⟩
theorem kyX9_change : KV RX9 yX9_change cX9_change 5 (some .int) 3 := ⟨q1033, q1034, q68, q1035, by decide +kernel⟩
theorem kyX9_steep : KV RX9 yX9_steep cX9_steep 4 (some .int) 2 := ⟨q1043, q1044, q68, q1045, by decide +kernel⟩
theorem kyX9_weather : KV RX9 yX9_weather cX9_weather 4 (some .int) 2 := ⟨q1048, q1049, q68, q1050, by decide +kernel⟩
theorem kyX9_lend : KV RX9 yX9_lend cX9_lend 4 (some .int) 3 := ⟨q1053, q1054, q68, q1055, by decide +kernel⟩
theorem kyX9_way : KV RX9 yX9_way cX9_way 3 (some .int) 2 := ⟨q1058, q1059, q68, q1060, by decide +kernel⟩
theorem kyX9_send : KV RX9 yX9_send cX9_send 2 (some .int) 1 := ⟨q1066, q1067, q68, q1068, by decide +kernel⟩
theorem kyX9_quarters : KV RX9 yX9_quarters cX9_quarters 3 (some .int) 1 := ⟨q1078, q1079, q68, q1080, by decide +kernel⟩
theorem kyX9_now : KV RX9 yX9_now cX9_now 2 (some .int) 1 := ⟨q1107, q1108, q68, q1109, by decide +kernel⟩
theorem kyX9_ahead : KV RX9 yX9_ahead cX9_ahead 5 (some .int) 2 := ⟨q1119, q1120, q68, q1121, by decide +kernel⟩
theorem kyX9_cold : KV RX9 yX9_cold cX9_cold 3 (some .int) 1 := ⟨q1135, q1136, q68, q1137, by decide +kernel⟩
theorem kyX9_bake : KV RX9 yX9_bake cX9_bake 3 (some .int) 1 := ⟨q1140, q1141, q68, q1142, by decide +kernel⟩
theorem kyX9_best : KV RX9 yX9_best cX9_best 6 (some .int) 1 := ⟨q1144, q1145, q68, q1146, by decide +kernel⟩
theorem kyX9_lost : KV RX9 yX9_lost cX9_lost 4 (some .int) 1 := ⟨q1155, q1156, q68, q1157, by decide +kernel⟩
theorem kyX9_stay : KV RX9 yX9_stay cX9_stay 5 (some .int) 2 := ⟨q1159, q1160, q68, q1161, by decide +kernel⟩
theorem kyX9_logs : KV RX9 yX9_logs cX9_logs 3 (some .int) 2 := ⟨q1167, q1168, q68, q1169, by decide +kernel⟩
theorem kyX9_wall : KV RX9 yX9_wall cX9_wall 3 (some .int) 2 := ⟨q1175, q1176, q68, q1177, by decide +kernel⟩
theorem kyX9_straw : KV RX9 yX9_straw cX9_straw 7 (some .int) 1 := ⟨q1179, q1180, q68, q1181, by decide +kernel⟩
theorem kyX9_kindFor : KV RX9 yX9_kindFor cX9_kindFor 7 (some .int) 2 := ⟨q1183, q1184, q68, q1185, by decide +kernel⟩
theorem kyX9_round : KV RX9 yX9_round cX9_round 2 (some .int) 1 := ⟨q1187, q1188, q68, q1189, by decide +kernel⟩
theorem kyX9_takes : KV RX9 yX9_takes cX9_takes 3 (some .int) 1 := ⟨q1223, q1224, q68, q1225, by decide +kernel⟩
theorem kyX9_three : KV RX9 yX9_three cX9_three 2 (some .int) 1 := ⟨q1227, q1228, q68, q1229, by decide +kernel⟩
theorem kyX9_least : KV RX9 yX9_least cX9_least 2 (some .int) 1 := ⟨q1255, q1256, q68, q1257, by decide +kernel⟩
theorem kyX9_pace : KV RX9 yX9_pace cX9_pace 5 (some .int) 0 := ⟨q1259, q1260, q68, q1261, by decide +kernel⟩
theorem kyX9_thrift : KV RX9 yX9_thrift cX9_thrift 2 (some .int) 1 := ⟨q1263, q1264, q68, q1265, by decide +kernel⟩
theorem kyX9_middle : KV RX9 yX9_middle cX9_middle 6 (some .int) 0 := ⟨q1267, q1268, q68, q1269, by decide +kernel⟩
theorem kyX9_calls : KV RX9 yX9_calls cX9_calls 3 (some .int) 1 := ⟨q1271, q1272, q68, q1273, by decide +kernel⟩
theorem kyX9_seed : KV RX9 yX9_seed cX9_seed 3 (some .int) 1 := ⟨q1283, q1284, q68, q1285, by decide +kernel⟩
theorem kyX9_feed : KV RX9 yX9_feed cX9_feed 4 (some .int) 2 := ⟨q1287, q1288, q68, q1289, by decide +kernel⟩
theorem kyX9_wipe : KV RX9 yX9_wipe cX9_wipe 2 (some .int) 0 := ⟨q1292, q1293, q68, q1294, by decide +kernel⟩
theorem kyX9_text : KV RX9 yX9_text cX9_text 2 (some .int) 0 := ⟨q1296, q1297, q68, q1298, by decide +kernel⟩
theorem kyX9_hold : KV RX9 yX9_hold cX9_hold 3 (some .int) 2 := ⟨q1367, q1368, q68, q1369, by decide +kernel⟩
theorem kyX9_as : KV RX9 yX9_as cX9_as 6 (some .int) 2 := ⟨q1371, q1372, q68, q1373, by decide +kernel⟩
theorem kyX9_sheet : KV RX9 yX9_sheet cX9_sheet 5 (some .int) 3 := ⟨q1377, q1378, q68, q1379, by decide +kernel⟩
theorem kyX9_write : KV RX9 yX9_write cX9_write 5 (some .int) 3 := ⟨q1386, q1387, q68, q1388, by decide +kernel⟩
theorem kyX9_copy : KV RX9 yX9_copy cX9_copy 7 (some .int) 5 := ⟨q1397, q1398, q68, q1399, by decide +kernel⟩
theorem kyX9_load : KV RX9 yX9_load cX9_load 4 (some .int) 1 := ⟨q1401, q1402, q68, q1403, by decide +kernel⟩
theorem kyX9_rounds : KV RX9 yX9_rounds cX9_rounds 5 (some .int) 2 := ⟨q1405, q1406, q68, q1407, by decide +kernel⟩
theorem kyX9_diary : KV RX9 yX9_diary cX9_diary 4 (some .int) 2 := ⟨q1409, q1410, q68, q1411, by decide +kernel⟩
theorem kyX9_judge : KV RX9 yX9_judge cX9_judge 6 (some .int) 2 := ⟨q1413, q1414, q68, q1415, by decide +kernel⟩
theorem kyX9_image : KV RX9 yX9_image cX9_image 2 (some .int) 0 := ⟨q1417, q1418, q68, q1419, by decide +kernel⟩
theorem kyX9_undo : KV RX9 yX9_undo cX9_undo 2 (some .int) 0 := ⟨q1421, q1422, q68, q1423, by decide +kernel⟩
theorem kyX9_tear : KV RX9 yX9_tear cX9_tear 2 (some .int) 0 := ⟨q1425, q1426, q68, q1427, by decide +kernel⟩
theorem kyX9_count : KV RX9 yX9_count cX9_count 2 (some .int) 1 := ⟨q1429, q1430, q68, q1431, by decide +kernel⟩
theorem kyX9_status : KV RX9 yX9_status cX9_status 4 (some .int) 1 := ⟨q1437, q1438, q68, q1439, by decide +kernel⟩
def rmX0_init : Room := { frames := 2, cells := 0, slots := 0, locals := 40 }
def rmX0_givesUp : Room := { frames := 0, cells := 0, slots := 0, locals := 0 }
def rmX0_look : Room := { frames := 1, cells := 0, slots := 0, locals := 21 }
def rmX1_init : Room := { frames := 1, cells := 0, slots := 0, locals := 20 }
def rmX1_begin : Room := { frames := 0, cells := 0, slots := 0, locals := 0 }
def rmX1_be : Room := { frames := 0, cells := 0, slots := 0, locals := 0 }
def rmX1_told : Room := { frames := 0, cells := 0, slots := 0, locals := 0 }
def rmX1_put : Room := { frames := 0, cells := 0, slots := 0, locals := 0 }
def rmX1_isA : Room := { frames := 0, cells := 0, slots := 0, locals := 0 }
def rmX1_heats : Room := { frames := 1, cells := 0, slots := 0, locals := 21 }
def rmX1_loses : Room := { frames := 1, cells := 0, slots := 0, locals := 21 }
def rmX1_burns : Room := { frames := 0, cells := 0, slots := 0, locals := 0 }
def rmX1_needs : Room := { frames := 0, cells := 0, slots := 0, locals := 0 }
def rmX1_gets : Room := { frames := 1, cells := 0, slots := 0, locals := 21 }
def rmX1_isCold : Room := { frames := 1, cells := 0, slots := 0, locals := 20 }
def rmX1_warmBy : Room := { frames := 1, cells := 0, slots := 0, locals := 21 }
def rmX1_cool : Room := { frames := 2, cells := 0, slots := 0, locals := 43 }
def rmX2_init : Room := { frames := 1, cells := 0, slots := 0, locals := 20 }
def rmX2_readAll : Room := { frames := 5, cells := 0, slots := 0, locals := 109 }
def rmX2_readItem : Room := { frames := 4, cells := 0, slots := 0, locals := 88 }
def rmX2_kindTold : Room := { frames := 2, cells := 0, slots := 0, locals := 43 }
def rmX2_readHouse : Room := { frames := 3, cells := 0, slots := 0, locals := 66 }
def rmX2_readPart : Room := { frames := 2, cells := 0, slots := 0, locals := 43 }
def rmX2_readSteep : Room := { frames := 2, cells := 0, slots := 0, locals := 41 }
def rmX2_readOut : Room := { frames := 2, cells := 0, slots := 0, locals := 41 }
def rmX2_isNumber : Room := { frames := 0, cells := 0, slots := 0, locals := 0 }
def rmX2_isWord : Room := { frames := 1, cells := 0, slots := 0, locals := 21 }
def rmX2_byteAt : Room := { frames := 0, cells := 0, slots := 0, locals := 0 }
def rmX2_isLetter : Room := { frames := 0, cells := 0, slots := 0, locals := 0 }
def rmX2_isDigit : Room := { frames := 0, cells := 0, slots := 0, locals := 0 }
def rmX2_next : Room := { frames := 1, cells := 0, slots := 0, locals := 21 }
def rmX3_init : Room := { frames := 1, cells := 0, slots := 0, locals := 20 }
def rmX3_begin : Room := { frames := 0, cells := 0, slots := 0, locals := 0 }
def rmX3_isMissing : Room := { frames := 0, cells := 0, slots := 0, locals := 0 }
def rmX3_has : Room := { frames := 0, cells := 0, slots := 0, locals := 0 }
def rmX3_get : Room := { frames := 0, cells := 0, slots := 0, locals := 0 }
def rmX3_put : Room := { frames := 1, cells := 0, slots := 0, locals := 21 }
def rmX3_cut : Room := { frames := 0, cells := 0, slots := 0, locals := 0 }
def rmX4_init : Room := { frames := 2, cells := 0, slots := 0, locals := 40 }
def rmX4_givesUp : Room := { frames := 0, cells := 0, slots := 0, locals := 0 }
def rmX4_look : Room := { frames := 1, cells := 0, slots := 0, locals := 21 }
def rmX5_init : Room := { frames := 2, cells := 0, slots := 0, locals := 40 }
def rmX5_be : Room := { frames := 1, cells := 0, slots := 0, locals := 40 }
def rmX5_get : Room := { frames := 0, cells := 0, slots := 0, locals := 0 }
def rmX5_build : Room := { frames := 1, cells := 0, slots := 0, locals := 21 }
def rmX5_steepAt : Room := { frames := 0, cells := 0, slots := 0, locals := 0 }
def rmX5_putSteep : Room := { frames := 0, cells := 0, slots := 0, locals := 0 }
def rmX5_spotAt : Room := { frames := 0, cells := 0, slots := 0, locals := 0 }
def rmX5_putSpot : Room := { frames := 0, cells := 0, slots := 0, locals := 0 }
def rmX5_spotsHeld : Room := { frames := 0, cells := 0, slots := 0, locals := 0 }
def rmX5_between : Room := { frames := 1, cells := 0, slots := 0, locals := 21 }
def rmX5_go : Room := { frames := 2, cells := 0, slots := 0, locals := 46 }
def rmX5_pass : Room := { frames := 4, cells := 0, slots := 0, locals := 89 }
def rmX5_passOne : Room := { frames := 3, cells := 0, slots := 0, locals := 66 }
def rmX5_stoveHouse : Room := { frames := 1, cells := 0, slots := 0, locals := 21 }
def rmX5_burnAt : Room := { frames := 2, cells := 0, slots := 0, locals := 42 }
def rmX5_isCold : Room := { frames := 2, cells := 0, slots := 0, locals := 40 }
def rmX5_coldSet : Room := { frames := 3, cells := 0, slots := 0, locals := 62 }
def rmX5_leastWarmth : Room := { frames := 1, cells := 0, slots := 0, locals := 21 }
def rmX5_sum : Room := { frames := 1, cells := 0, slots := 0, locals := 21 }
def rmX5_beginRound : Room := { frames := 2, cells := 0, slots := 0, locals := 64 }
def rmX5_leg : Room := { frames := 4, cells := 0, slots := 0, locals := 89 }
def rmX5_watch : Room := { frames := 2, cells := 0, slots := 0, locals := 40 }
def rmX5_draw : Room := { frames := 0, cells := 0, slots := 0, locals := 0 }
def rmX6_init : Room := { frames := 2, cells := 0, slots := 0, locals := 40 }
def rmX6_givesUp : Room := { frames := 0, cells := 0, slots := 0, locals := 0 }
def rmX6_look : Room := { frames := 0, cells := 0, slots := 0, locals := 0 }
def rmX7_init : Room := { frames := 1, cells := 0, slots := 0, locals := 20 }
def rmX8_init : Room := { frames := 3, cells := 0, slots := 0, locals := 61 }
def rmX8_house : Room := { frames := 2, cells := 0, slots := 0, locals := 43 }
def rmX8_of : Room := { frames := 2, cells := 0, slots := 0, locals := 43 }
def rmX8_change : Room := { frames := 2, cells := 0, slots := 0, locals := 43 }
def rmX8_steep : Room := { frames := 2, cells := 0, slots := 0, locals := 43 }
def rmX8_weather : Room := { frames := 2, cells := 0, slots := 0, locals := 43 }
def rmX8_lend : Room := { frames := 2, cells := 0, slots := 0, locals := 43 }
def rmX8_way : Room := { frames := 2, cells := 0, slots := 0, locals := 46 }
def rmX8_send : Room := { frames := 3, cells := 0, slots := 0, locals := 67 }
def rmX8_quarters : Room := { frames := 5, cells := 0, slots := 0, locals := 111 }
def rmX8_now : Room := { frames := 4, cells := 0, slots := 0, locals := 84 }
def rmX8_ahead : Room := { frames := 5, cells := 0, slots := 0, locals := 111 }
def rmX8_cold : Room := { frames := 5, cells := 0, slots := 0, locals := 111 }
def rmX8_bake : Room := { frames := 5, cells := 0, slots := 0, locals := 111 }
def rmX8_best : Room := { frames := 6, cells := 0, slots := 0, locals := 134 }
def rmX8_lost : Room := { frames := 6, cells := 0, slots := 0, locals := 134 }
def rmX8_stay : Room := { frames := 5, cells := 0, slots := 0, locals := 111 }
def rmX8_logs : Room := { frames := 7, cells := 0, slots := 0, locals := 162 }
def rmX8_wall : Room := { frames := 7, cells := 0, slots := 0, locals := 162 }
def rmX8_straw : Room := { frames := 5, cells := 0, slots := 0, locals := 111 }
def rmX8_kindFor : Room := { frames := 6, cells := 0, slots := 0, locals := 137 }
def rmX8_round : Room := { frames := 6, cells := 0, slots := 0, locals := 135 }
def rmX8_takes : Room := { frames := 6, cells := 0, slots := 0, locals := 135 }
def rmX8_three : Room := { frames := 6, cells := 0, slots := 0, locals := 139 }
def rmX8_least : Room := { frames := 6, cells := 0, slots := 0, locals := 139 }
def rmX8_pace : Room := { frames := 6, cells := 0, slots := 0, locals := 135 }
def rmX8_thrift : Room := { frames := 6, cells := 0, slots := 0, locals := 139 }
def rmX8_middle : Room := { frames := 2, cells := 0, slots := 0, locals := 46 }
def rmX8_calls : Room := { frames := 5, cells := 0, slots := 0, locals := 111 }
def rmX8_seed : Room := { frames := 0, cells := 0, slots := 0, locals := 0 }
def rmX8_feed : Room := { frames := 2, cells := 0, slots := 0, locals := 43 }
def rmX8_wipe : Room := { frames := 0, cells := 0, slots := 0, locals := 0 }
def rmX8_text : Room := { frames := 6, cells := 0, slots := 0, locals := 131 }
def rmX8_hold : Room := { frames := 2, cells := 0, slots := 0, locals := 43 }
def rmX8_as : Room := { frames := 2, cells := 0, slots := 0, locals := 43 }
def rmX8_sheet : Room := { frames := 2, cells := 0, slots := 0, locals := 43 }
def rmX8_write : Room := { frames := 2, cells := 0, slots := 0, locals := 43 }
def rmX8_copy : Room := { frames := 2, cells := 0, slots := 0, locals := 43 }
def rmX8_load : Room := { frames := 2, cells := 0, slots := 0, locals := 43 }
def rmX8_rounds : Room := { frames := 5, cells := 0, slots := 0, locals := 113 }
def rmX8_diary : Room := { frames := 6, cells := 0, slots := 0, locals := 139 }
def rmX8_judge : Room := { frames := 5, cells := 0, slots := 0, locals := 111 }
def rmX8_image : Room := { frames := 2, cells := 0, slots := 0, locals := 64 }
def rmX8_undo : Room := { frames := 2, cells := 0, slots := 0, locals := 64 }
def rmX8_tear : Room := { frames := 0, cells := 0, slots := 0, locals := 0 }
def rmX8_count : Room := { frames := 2, cells := 0, slots := 0, locals := 45 }
def rmX8_status : Room := { frames := 2, cells := 0, slots := 0, locals := 43 }
def rmX8_within : Room := { frames := 0, cells := 0, slots := 0, locals := 0 }
def rmX8_lowest : Room := { frames := 0, cells := 0, slots := 0, locals := 0 }
def rmX8_highest : Room := { frames := 0, cells := 0, slots := 0, locals := 0 }
def rmX8_fail : Room := { frames := 1, cells := 0, slots := 0, locals := 22 }
def rmX8_endsTooLate : Room := { frames := 0, cells := 0, slots := 0, locals := 0 }
def rmX8_cannotStart : Room := { frames := 0, cells := 0, slots := 0, locals := 0 }
def rmX8_roundFinding : Room := { frames := 1, cells := 0, slots := 0, locals := 22 }
def rmX8_trial : Room := { frames := 2, cells := 0, slots := 0, locals := 64 }
def rmX8_sentTo : Room := { frames := 5, cells := 0, slots := 0, locals := 111 }
def rmX8_changed : Room := { frames := 5, cells := 0, slots := 0, locals := 111 }
def rmX8_leastValue : Room := { frames := 6, cells := 0, slots := 0, locals := 137 }
def rmX8_wholeRound : Room := { frames := 5, cells := 0, slots := 0, locals := 113 }
def rmX8_tryThrees : Room := { frames := 5, cells := 0, slots := 0, locals := 113 }
def rmX8_sheetAt : Room := { frames := 1, cells := 0, slots := 0, locals := 22 }
def rmX8_tellsHouses : Room := { frames := 1, cells := 0, slots := 0, locals := 21 }
def rmX9_init : Room := { frames := 1, cells := 0, slots := 0, locals := 20 }
def rmX9_in : Room := { frames := 0, cells := 0, slots := 0, locals := 0 }
def rmX9_finds : Room := { frames := 0, cells := 0, slots := 0, locals := 0 }
def rmX9_isHouse : Room := { frames := 1, cells := 0, slots := 0, locals := 25 }
def rmX9_draw : Room := { frames := 0, cells := 0, slots := 0, locals := 0 }
def rmX9_saves : Room := { frames := 0, cells := 0, slots := 0, locals := 0 }
def rmX9_putsBack : Room := { frames := 0, cells := 0, slots := 0, locals := 0 }
def rmX9_at : Room := { frames := 0, cells := 0, slots := 0, locals := 0 }
def rmX9_its : Room := { frames := 1, cells := 0, slots := 0, locals := 21 }
def rmX9_newHouse : Room := { frames := 1, cells := 0, slots := 0, locals := 21 }
def rmX9_house : Room := { frames := 2, cells := 0, slots := 0, locals := 47 }
def rmX9_heats : Room := { frames := 2, cells := 0, slots := 0, locals := 43 }
def rmX9_loses : Room := { frames := 2, cells := 0, slots := 0, locals := 43 }
def rmX9_burns : Room := { frames := 2, cells := 0, slots := 0, locals := 43 }
def rmX9_of : Room := { frames := 3, cells := 0, slots := 0, locals := 66 }
def rmX9_isPart : Room := { frames := 1, cells := 0, slots := 0, locals := 25 }
def rmX9_change : Room := { frames := 2, cells := 0, slots := 0, locals := 46 }
def rmX9_steep : Room := { frames := 1, cells := 0, slots := 0, locals := 25 }
def rmX9_weather : Room := { frames := 1, cells := 0, slots := 0, locals := 25 }
def rmX9_lend : Room := { frames := 2, cells := 0, slots := 0, locals := 46 }
def rmX9_wayOf : Room := { frames := 0, cells := 0, slots := 0, locals := 0 }
def rmX9_way : Room := { frames := 2, cells := 0, slots := 0, locals := 46 }
def rmX9_sends : Room := { frames := 1, cells := 0, slots := 0, locals := 26 }
def rmX9_isGoing : Room := { frames := 0, cells := 0, slots := 0, locals := 0 }
def rmX9_send : Room := { frames := 2, cells := 0, slots := 0, locals := 47 }
def rmX9_warms : Room := { frames := 2, cells := 0, slots := 0, locals := 43 }
def rmX9_getsOf : Room := { frames := 3, cells := 0, slots := 0, locals := 66 }
def rmX9_quarter : Room := { frames := 4, cells := 0, slots := 0, locals := 88 }
def rmX9_quartersGo : Room := { frames := 5, cells := 0, slots := 0, locals := 112 }
def rmX9_isAbove : Room := { frames := 0, cells := 0, slots := 0, locals := 0 }
def rmX9_isTooLate : Room := { frames := 0, cells := 0, slots := 0, locals := 0 }
def rmX9_sumOf : Room := { frames := 2, cells := 0, slots := 0, locals := 43 }
def rmX9_quarters : Room := { frames := 6, cells := 0, slots := 0, locals := 134 }
def rmX9_isCold : Room := { frames := 2, cells := 0, slots := 0, locals := 43 }
def rmX9_coldSet : Room := { frames := 3, cells := 0, slots := 0, locals := 64 }
def rmX9_now : Room := { frames := 4, cells := 0, slots := 0, locals := 86 }
def rmX9_leastWarmth : Room := { frames := 2, cells := 0, slots := 0, locals := 43 }
def rmX9_ahead : Room := { frames := 6, cells := 0, slots := 0, locals := 134 }
def rmX9_cold : Room := { frames := 5, cells := 0, slots := 0, locals := 112 }
def rmX9_bake : Room := { frames := 5, cells := 0, slots := 0, locals := 112 }
def rmX9_isSpan : Room := { frames := 1, cells := 0, slots := 0, locals := 25 }
def rmX9_isFixed : Room := { frames := 1, cells := 0, slots := 0, locals := 21 }
def rmX9_best : Room := { frames := 6, cells := 0, slots := 0, locals := 134 }
def rmX9_lost : Room := { frames := 6, cells := 0, slots := 0, locals := 134 }
def rmX9_stay : Room := { frames := 6, cells := 0, slots := 0, locals := 134 }
def rmX9_leastPart : Room := { frames := 6, cells := 0, slots := 0, locals := 134 }
def rmX9_logs : Room := { frames := 7, cells := 0, slots := 0, locals := 161 }
def rmX9_wall : Room := { frames := 7, cells := 0, slots := 0, locals := 161 }
def rmX9_straw : Room := { frames := 6, cells := 0, slots := 0, locals := 134 }
def rmX9_kindFor : Room := { frames := 6, cells := 0, slots := 0, locals := 134 }
def rmX9_begins : Room := { frames := 0, cells := 0, slots := 0, locals := 0 }
def rmX9_isDone : Room := { frames := 0, cells := 0, slots := 0, locals := 0 }
def rmX9_watches : Room := { frames := 5, cells := 0, slots := 0, locals := 112 }
def rmX9_stands : Room := { frames := 0, cells := 0, slots := 0, locals := 0 }
def rmX9_standsAgain : Room := { frames := 0, cells := 0, slots := 0, locals := 0 }
def rmX9_visits : Room := { frames := 6, cells := 0, slots := 0, locals := 135 }
def rmX9_goesRound : Room := { frames := 7, cells := 0, slots := 0, locals := 157 }
def rmX9_ended : Room := { frames := 2, cells := 0, slots := 0, locals := 43 }
def rmX9_thirds : Room := { frames := 7, cells := 0, slots := 0, locals := 157 }
def rmX9_seconds : Room := { frames := 8, cells := 0, slots := 0, locals := 182 }
def rmX9_threes : Room := { frames := 9, cells := 0, slots := 0, locals := 207 }
def rmX9_isStay : Room := { frames := 1, cells := 0, slots := 0, locals := 25 }
def rmX9_isBarred : Room := { frames := 1, cells := 0, slots := 0, locals := 21 }
def rmX9_leastRound : Room := { frames := 8, cells := 0, slots := 0, locals := 179 }
def rmX9_round : Room := { frames := 9, cells := 0, slots := 0, locals := 200 }
def rmX9_takes : Room := { frames := 8, cells := 0, slots := 0, locals := 179 }
def rmX9_three : Room := { frames := 10, cells := 0, slots := 0, locals := 231 }
def rmX9_least : Room := { frames := 10, cells := 0, slots := 0, locals := 231 }
def rmX9_pace : Room := { frames := 9, cells := 0, slots := 0, locals := 200 }
def rmX9_thrift : Room := { frames := 10, cells := 0, slots := 0, locals := 231 }
def rmX9_middle : Room := { frames := 1, cells := 0, slots := 0, locals := 26 }
def rmX9_ones : Room := { frames := 0, cells := 0, slots := 0, locals := 0 }
def rmX9_calls : Room := { frames := 6, cells := 0, slots := 0, locals := 134 }
def rmX9_seed : Room := { frames := 0, cells := 0, slots := 0, locals := 0 }
def rmX9_feed : Room := { frames := 1, cells := 0, slots := 0, locals := 25 }
def rmX9_wipe : Room := { frames := 0, cells := 0, slots := 0, locals := 0 }
def rmX9_byteAt : Room := { frames := 0, cells := 0, slots := 0, locals := 0 }
def rmX9_isLetter : Room := { frames := 1, cells := 0, slots := 0, locals := 25 }
def rmX9_isDigit : Room := { frames := 1, cells := 0, slots := 0, locals := 25 }
def rmX9_token : Room := { frames := 2, cells := 0, slots := 0, locals := 45 }
def rmX9_needs : Room := { frames := 3, cells := 0, slots := 0, locals := 67 }
def rmX9_word : Room := { frames := 2, cells := 0, slots := 0, locals := 45 }
def rmX9_number : Room := { frames := 4, cells := 0, slots := 0, locals := 88 }
def rmX9_kindHere : Room := { frames := 3, cells := 0, slots := 0, locals := 68 }
def rmX9_perhaps : Room := { frames := 5, cells := 0, slots := 0, locals := 113 }
def rmX9_houseItem : Room := { frames := 6, cells := 0, slots := 0, locals := 137 }
def rmX9_steepItem : Room := { frames := 6, cells := 0, slots := 0, locals := 137 }
def rmX9_item : Room := { frames := 7, cells := 0, slots := 0, locals := 163 }
def rmX9_text : Room := { frames := 8, cells := 0, slots := 0, locals := 185 }
def rmX9_hold : Room := { frames := 2, cells := 0, slots := 0, locals := 46 }
def rmX9_as : Room := { frames := 2, cells := 0, slots := 0, locals := 43 }
def rmX9_isOne : Room := { frames := 1, cells := 0, slots := 0, locals := 25 }
def rmX9_sheet : Room := { frames := 2, cells := 0, slots := 0, locals := 45 }
def rmX9_narrowed : Room := { frames := 0, cells := 0, slots := 0, locals := 0 }
def rmX9_wrong : Room := { frames := 2, cells := 0, slots := 0, locals := 45 }
def rmX9_write : Room := { frames := 3, cells := 0, slots := 0, locals := 66 }
def rmX9_copy : Room := { frames := 2, cells := 0, slots := 0, locals := 45 }
def rmX9_load : Room := { frames := 3, cells := 0, slots := 0, locals := 66 }
def rmX9_rounds : Room := { frames := 7, cells := 0, slots := 0, locals := 157 }
def rmX9_diary : Room := { frames := 10, cells := 0, slots := 0, locals := 231 }
def rmX9_judge : Room := { frames := 5, cells := 0, slots := 0, locals := 112 }
def rmX9_image : Room := { frames := 0, cells := 0, slots := 0, locals := 0 }
def rmX9_undo : Room := { frames := 1, cells := 0, slots := 0, locals := 21 }
def rmX9_tear : Room := { frames := 0, cells := 0, slots := 0, locals := 0 }
def rmX9_held : Room := { frames := 0, cells := 0, slots := 0, locals := 0 }
def rmX9_count : Room := { frames := 3, cells := 0, slots := 0, locals := 66 }
def rmX9_status : Room := { frames := 1, cells := 0, slots := 0, locals := 25 }
theorem in_X0 : ∀ w ∈ u_ws RX0 TX0 2, w ∈ lw_gd := in_of (by decide +kernel) (by decide +kernel)
theorem ft_X0 : FT RX0 TX0 2 tyX0 := ⟨in_X0, tyX0_ok, nmX0⟩
theorem in_X1 : ∀ w ∈ u_ws RX1 TX1 6, w ∈ lw_gd := in_of (by decide +kernel) (by decide +kernel)
theorem ft_X1 : FT RX1 TX1 6 tyX1 := ⟨in_X1, tyX1_ok, nmX1⟩
theorem in_X2 : ∀ w ∈ u_ws RX2 TX2 7, w ∈ lw_gd := in_of (by decide +kernel) (by decide +kernel)
theorem ft_X2 : FT RX2 TX2 7 tyX2 := ⟨in_X2, tyX2_ok, nmX2⟩
theorem in_X3 : ∀ w ∈ u_ws RX3 TX3 3, w ∈ lw_gd := in_of (by decide +kernel) (by decide +kernel)
theorem ft_X3 : FT RX3 TX3 3 tyX3 := ⟨in_X3, tyX3_ok, nmX3⟩
theorem in_X4 : ∀ w ∈ u_ws RX4 TX4 2, w ∈ lw_gd := in_of (by decide +kernel) (by decide +kernel)
theorem ft_X4 : FT RX4 TX4 2 tyX4 := ⟨in_X4, tyX4_ok, nmX4⟩
theorem in_X5 : ∀ w ∈ u_ws RX5 TX5 13, w ∈ lw_gd := in_of (by decide +kernel) (by decide +kernel)
theorem ft_X5 : FT RX5 TX5 13 tyX5 := ⟨in_X5, tyX5_ok, nmX5⟩
theorem in_X6 : ∀ w ∈ u_ws RX6 TX6 2, w ∈ lw_gd := in_of (by decide +kernel) (by decide +kernel)
theorem ft_X6 : FT RX6 TX6 2 tyX6 := ⟨in_X6, tyX6_ok, nmX6⟩
theorem in_X8 : ∀ w ∈ u_ws RX8 TX8 11, w ∈ lw_gd := in_of (by decide +kernel) (by decide +kernel)
theorem ft_X8 : FT RX8 TX8 11 tyX8 := ⟨in_X8, tyX8_ok, nmX8⟩
theorem in_X9 : ∀ w ∈ u_ws RX9 TX9 26, w ∈ lw_gd := in_of (by decide +kernel) (by decide +kernel)
theorem ft_X9 : FT RX9 TX9 26 tyX9 := ⟨in_X9, tyX9_ok, nmX9⟩
