/-! the words, by their places (by program) -/
theorem q0 : Cond.selects RX8 yX8_fail yX8_fail ∈ lw_gd := gd 0 (by decide +kernel) rfl
theorem q1 : Cond.selects RX8 yX8_endsTooLate yX8_endsTooLate ∈ lw_gd := gd 1 (by decide +kernel) rfl
theorem q2 : Cond.selects RX8 yX8_trial yX8_trial ∈ lw_gd := gd 2 (by decide +kernel) rfl
theorem q3 : Cond.selects RX8 yX8_cannotStart yX8_cannotStart ∈ lw_gd := gd 3 (by decide +kernel) rfl
theorem q4 : Cond.selects RX8 yX8_sentTo yX8_sentTo ∈ lw_gd := gd 4 (by decide +kernel) rfl
theorem q5 : Cond.selects RX8 yX8_leastValue yX8_leastValue ∈ lw_gd := gd 5 (by decide +kernel) rfl
theorem q6 : Cond.selects RX8 yX8_changed yX8_changed ∈ lw_gd := gd 6 (by decide +kernel) rfl
theorem q7 : Cond.selects RX8 yX8_roundFinding yX8_roundFinding ∈ lw_gd := gd 7 (by decide +kernel) rfl
theorem q8 : Cond.selects RX8 yX8_wholeRound yX8_wholeRound ∈ lw_gd := gd 8 (by decide +kernel) rfl
theorem q9 : Cond.selects RX8 yX8_tryThrees yX8_tryThrees ∈ lw_gd := gd 9 (by decide +kernel) rfl
theorem q10 : Cond.selects RX8 yX8_sheetAt yX8_sheetAt ∈ lw_gd := gd 10 (by decide +kernel) rfl
theorem q11 : Cond.selects RX8 yX8_tellsHouses yX8_tellsHouses ∈ lw_gd := gd 11 (by decide +kernel) rfl
theorem q12 : Cond.selects RX9 yX9_finds yX9_finds ∈ lw_gd := gd 12 (by decide +kernel) rfl
theorem q13 : Cond.selects RX9 yX9_newHouse yX9_newHouse ∈ lw_gd := gd 13 (by decide +kernel) rfl
theorem q14 : Cond.selects RX9 yX9_isHouse yX9_isHouse ∈ lw_gd := gd 14 (by decide +kernel) rfl
theorem q15 : Cond.selects RX9 yX9_its yX9_its ∈ lw_gd := gd 15 (by decide +kernel) rfl
theorem q16 : Cond.selects RX9 yX9_heats yX9_heats ∈ lw_gd := gd 16 (by decide +kernel) rfl
theorem q17 : Cond.selects RX9 yX9_loses yX9_loses ∈ lw_gd := gd 17 (by decide +kernel) rfl
theorem q18 : Cond.selects RX9 yX9_burns yX9_burns ∈ lw_gd := gd 18 (by decide +kernel) rfl
theorem q19 : Cond.selects RX9 yX9_wayOf yX9_wayOf ∈ lw_gd := gd 19 (by decide +kernel) rfl
theorem q20 : Cond.selects RX9 yX9_isGoing yX9_isGoing ∈ lw_gd := gd 20 (by decide +kernel) rfl
theorem q21 : Cond.selects RX9 yX9_sends yX9_sends ∈ lw_gd := gd 21 (by decide +kernel) rfl
theorem q22 : Cond.selects RX9 yX9_isTooLate yX9_isTooLate ∈ lw_gd := gd 22 (by decide +kernel) rfl
theorem q23 : Cond.selects RX9 yX9_sumOf yX9_sumOf ∈ lw_gd := gd 23 (by decide +kernel) rfl
theorem q24 : Cond.selects RX9 yX9_quartersGo yX9_quartersGo ∈ lw_gd := gd 24 (by decide +kernel) rfl
theorem q25 : Cond.selects RX9 yX9_quarter yX9_quarter ∈ lw_gd := gd 25 (by decide +kernel) rfl
theorem q26 : Cond.selects RX9 yX9_warms yX9_warms ∈ lw_gd := gd 26 (by decide +kernel) rfl
theorem q27 : Cond.selects RX9 yX9_getsOf yX9_getsOf ∈ lw_gd := gd 27 (by decide +kernel) rfl
theorem q28 : Cond.selects RX9 yX9_coldSet yX9_coldSet ∈ lw_gd := gd 28 (by decide +kernel) rfl
theorem q29 : Cond.selects RX9 yX9_isCold yX9_isCold ∈ lw_gd := gd 29 (by decide +kernel) rfl
theorem q30 : Cond.selects RX9 yX9_saves yX9_saves ∈ lw_gd := gd 30 (by decide +kernel) rfl
theorem q31 : Cond.selects RX9 yX9_leastWarmth yX9_leastWarmth ∈ lw_gd := gd 31 (by decide +kernel) rfl
theorem q32 : Cond.selects RX9 yX9_putsBack yX9_putsBack ∈ lw_gd := gd 32 (by decide +kernel) rfl
theorem q33 : Cond.selects RX9 yX9_isFixed yX9_isFixed ∈ lw_gd := gd 33 (by decide +kernel) rfl
theorem q34 : Cond.selects RX9 yX9_isAbove yX9_isAbove ∈ lw_gd := gd 34 (by decide +kernel) rfl
theorem q35 : Cond.selects RX9 yX9_leastPart yX9_leastPart ∈ lw_gd := gd 35 (by decide +kernel) rfl
theorem q36 : Cond.selects RX9 yX9_isBarred yX9_isBarred ∈ lw_gd := gd 36 (by decide +kernel) rfl
theorem q37 : Cond.selects RX9 yX9_leastRound yX9_leastRound ∈ lw_gd := gd 37 (by decide +kernel) rfl
theorem q38 : Cond.selects RX9 yX9_goesRound yX9_goesRound ∈ lw_gd := gd 38 (by decide +kernel) rfl
theorem q39 : Cond.selects RX9 yX9_begins yX9_begins ∈ lw_gd := gd 39 (by decide +kernel) rfl
theorem q40 : Cond.selects RX9 yX9_visits yX9_visits ∈ lw_gd := gd 40 (by decide +kernel) rfl
theorem q41 : Cond.selects RX9 yX9_watches yX9_watches ∈ lw_gd := gd 41 (by decide +kernel) rfl
theorem q42 : Cond.selects RX9 yX9_isDone yX9_isDone ∈ lw_gd := gd 42 (by decide +kernel) rfl
theorem q43 : Cond.selects RX9 yX9_threes yX9_threes ∈ lw_gd := gd 43 (by decide +kernel) rfl
theorem q44 : Cond.selects RX9 yX9_seconds yX9_seconds ∈ lw_gd := gd 44 (by decide +kernel) rfl
theorem q45 : Cond.selects RX9 yX9_stands yX9_stands ∈ lw_gd := gd 45 (by decide +kernel) rfl
theorem q46 : Cond.selects RX9 yX9_thirds yX9_thirds ∈ lw_gd := gd 46 (by decide +kernel) rfl
theorem q47 : Cond.selects RX9 yX9_ended yX9_ended ∈ lw_gd := gd 47 (by decide +kernel) rfl
theorem q48 : Cond.selects RX9 yX9_standsAgain yX9_standsAgain ∈ lw_gd := gd 48 (by decide +kernel) rfl
theorem q49 : Cond.selects RX9 yX9_draw yX9_draw ∈ lw_gd := gd 49 (by decide +kernel) rfl
theorem q50 : Cond.selects RX9 yX9_token yX9_token ∈ lw_gd := gd 50 (by decide +kernel) rfl
theorem q51 : Cond.selects RX9 yX9_byteAt yX9_byteAt ∈ lw_gd := gd 51 (by decide +kernel) rfl
theorem q52 : Cond.selects RX9 yX9_item yX9_item ∈ lw_gd := gd 52 (by decide +kernel) rfl
theorem q53 : Cond.selects RX9 yX9_kindHere yX9_kindHere ∈ lw_gd := gd 53 (by decide +kernel) rfl
theorem q54 : Cond.selects RX9 yX9_word yX9_word ∈ lw_gd := gd 54 (by decide +kernel) rfl
theorem q55 : Cond.selects RX9 yX9_houseItem yX9_houseItem ∈ lw_gd := gd 55 (by decide +kernel) rfl
theorem q56 : Cond.selects RX9 yX9_needs yX9_needs ∈ lw_gd := gd 56 (by decide +kernel) rfl
theorem q57 : Cond.selects RX9 yX9_perhaps yX9_perhaps ∈ lw_gd := gd 57 (by decide +kernel) rfl
theorem q58 : Cond.selects RX9 yX9_number yX9_number ∈ lw_gd := gd 58 (by decide +kernel) rfl
theorem q59 : Cond.selects RX9 yX9_steepItem yX9_steepItem ∈ lw_gd := gd 59 (by decide +kernel) rfl
theorem q60 : Cond.selects RX9 yX9_wrong yX9_wrong ∈ lw_gd := gd 60 (by decide +kernel) rfl
theorem q61 : Cond.selects RX9 yX9_held yX9_held ∈ lw_gd := gd 61 (by decide +kernel) rfl
theorem q63 : Cond.initialized RX8 ∈ lw_gd := gd 63 (by decide +kernel) rfl
theorem q64 : Cond.initialized RX5 ∈ lw_gd := gd 64 (by decide +kernel) rfl
theorem q65 : Cond.initialized RX1 ∈ lw_gd := gd 65 (by decide +kernel) rfl
theorem q66 : Cond.initialized RX2 ∈ lw_gd := gd 66 (by decide +kernel) rfl
theorem q67 : Cond.initialized RX3 ∈ lw_gd := gd 67 (by decide +kernel) rfl
theorem q68 : Cond.initialized RX9 ∈ lw_gd := gd 68 (by decide +kernel) rfl
theorem q69 : Cond.initialized "java/lang/Math" ∈ lw_gd := gd 69 (by decide +kernel) rfl
theorem q73 : Cond.initialized RX4 ∈ lw_gd := gd 73 (by decide +kernel) rfl
theorem q85 : Cond.methodLink RX8 1 objectInit ∈ lw_gd := gd 85 (by decide +kernel) rfl
theorem q90 : Cond.methodLink RX8 9 yX5_init ∈ lw_gd := gd 90 (by decide +kernel) rfl
theorem q93 : Cond.methodLink RX5 3 objectInit ∈ lw_gd := gd 93 (by decide +kernel) rfl
theorem q100 : Cond.methodLink RX1 3 objectInit ∈ lw_gd := gd 100 (by decide +kernel) rfl
theorem q101 : Cond.fieldLink RX1 9 RX1 "kind" "I" ∈ lw_gd := gd 101 (by decide +kernel) rfl
theorem q102 : Cond.fieldLink RX1 15 RX1 "warmth" "I" ∈ lw_gd := gd 102 (by decide +kernel) rfl
theorem q103 : Cond.fieldLinkNest RX8 152 RX1 "warmth" "I" RX8 ∈ lw_nw := gdn 103 (by decide +kernel) rfl
theorem q104 : Cond.fieldLinkNest RX5 104 RX1 "warmth" "I" RX8 ∈ lw_nw := gdn 104 (by decide +kernel) rfl
theorem q105 : Cond.fieldLink RX1 18 RX1 "wall" "I" ∈ lw_gd := gd 105 (by decide +kernel) rfl
theorem q106 : Cond.fieldLinkNest RX8 173 RX1 "wall" "I" RX8 ∈ lw_nw := gdn 106 (by decide +kernel) rfl
theorem q107 : Cond.fieldLink RX1 21 RX1 "logs" "I" ∈ lw_gd := gd 107 (by decide +kernel) rfl
theorem q108 : Cond.fieldLinkNest RX8 109 RX1 "logs" "I" RX8 ∈ lw_nw := gdn 108 (by decide +kernel) rfl
theorem q109 : Cond.fieldLinkNest RX5 110 RX1 "logs" "I" RX8 ∈ lw_nw := gdn 109 (by decide +kernel) rfl
theorem q110 : Cond.fieldLink RX1 24 RX1 "bound" "I" ∈ lw_gd := gd 110 (by decide +kernel) rfl
theorem q111 : Cond.fieldLink RX1 27 RX1 "bread" "I" ∈ lw_gd := gd 111 (by decide +kernel) rfl
theorem q112 : Cond.fieldLinkNest RX0 34 RX1 "bread" "I" RX8 ∈ lw_nw := gdn 112 (by decide +kernel) rfl
theorem q113 : Cond.fieldLinkNest RX8 70 RX1 "bread" "I" RX8 ∈ lw_nw := gdn 113 (by decide +kernel) rfl
theorem q114 : Cond.fieldLinkNest RX5 107 RX1 "bread" "I" RX8 ∈ lw_nw := gdn 114 (by decide +kernel) rfl
theorem q129 : Cond.fieldLink RX5 11 RX5 "lane" "[LSledgeStove$House;" ∈ lw_gd := gd 129 (by decide +kernel) rfl
theorem q130 : Cond.fieldLink RX5 17 RX5 "steeps" "[I" ∈ lw_gd := gd 130 (by decide +kernel) rfl
theorem q131 : Cond.fieldLink RX5 21 RX5 "spots" "[I" ∈ lw_gd := gd 131 (by decide +kernel) rfl
theorem q132 : Cond.fieldLink RX5 35 RX5 "houses" "I" ∈ lw_gd := gd 132 (by decide +kernel) rfl
theorem q133 : Cond.fieldLinkNest RX8 59 RX5 "houses" "I" RX8 ∈ lw_nw := gdn 133 (by decide +kernel) rfl
theorem q134 : Cond.fieldLinkNest RX0 19 RX5 "houses" "I" RX8 ∈ lw_nw := gdn 134 (by decide +kernel) rfl
theorem q135 : Cond.fieldLink RX5 52 RX5 "ice" "I" ∈ lw_gd := gd 135 (by decide +kernel) rfl
theorem q136 : Cond.fieldLinkNest RX2 65 RX5 "ice" "I" RX8 ∈ lw_nw := gdn 136 (by decide +kernel) rfl
theorem q137 : Cond.fieldLinkNest RX8 106 RX5 "ice" "I" RX8 ∈ lw_nw := gdn 137 (by decide +kernel) rfl
theorem q138 : Cond.fieldLink RX5 24 RX5 "out" "I" ∈ lw_gd := gd 138 (by decide +kernel) rfl
theorem q139 : Cond.fieldLinkNest RX8 79 RX5 "out" "I" RX8 ∈ lw_nw := gdn 139 (by decide +kernel) rfl
theorem q140 : Cond.fieldLinkNest RX2 122 RX5 "out" "I" RX8 ∈ lw_nw := gdn 140 (by decide +kernel) rfl
theorem q141 : Cond.fieldLink RX5 55 RX5 "at" "I" ∈ lw_gd := gd 141 (by decide +kernel) rfl
theorem q142 : Cond.fieldLinkNest RX8 136 RX5 "at" "I" RX8 ∈ lw_nw := gdn 142 (by decide +kernel) rfl
theorem q143 : Cond.fieldLink RX5 58 RX5 "left" "I" ∈ lw_gd := gd 143 (by decide +kernel) rfl
theorem q144 : Cond.fieldLinkNest RX8 116 RX5 "left" "I" RX8 ∈ lw_nw := gdn 144 (by decide +kernel) rfl
theorem q145 : Cond.fieldLink RX5 61 RX5 "quarter" "I" ∈ lw_gd := gd 145 (by decide +kernel) rfl
theorem q146 : Cond.fieldLinkNest RX8 133 RX5 "quarter" "I" RX8 ∈ lw_nw := gdn 146 (by decide +kernel) rfl
theorem q147 : Cond.fieldLinkNest RX4 19 RX5 "burnt" "I" RX8 ∈ lw_nw := gdn 147 (by decide +kernel) rfl
theorem q148 : Cond.fieldLink RX5 64 RX5 "burnt" "I" ∈ lw_gd := gd 148 (by decide +kernel) rfl
theorem q149 : Cond.fieldLinkNest RX8 142 RX5 "burnt" "I" RX8 ∈ lw_nw := gdn 149 (by decide +kernel) rfl
theorem q150 : Cond.fieldLink RX5 28 RX5 "z" "I" ∈ lw_gd := gd 150 (by decide +kernel) rfl
theorem q151 : Cond.fieldLinkNest RX8 218 RX5 "z" "I" RX8 ∈ lw_nw := gdn 151 (by decide +kernel) rfl
theorem q152 : Cond.fieldLink RX5 31 RX5 "least" "I" ∈ lw_gd := gd 152 (by decide +kernel) rfl
theorem q153 : Cond.fieldLinkNest RX6 13 RX5 "least" "I" RX8 ∈ lw_nw := gdn 153 (by decide +kernel) rfl
theorem q154 : Cond.fieldLinkNest RX8 192 RX5 "least" "I" RX8 ∈ lw_nw := gdn 154 (by decide +kernel) rfl
theorem q155 : Cond.fieldLinkNest RX4 13 RX5 "chilled" "Z" RX8 ∈ lw_nw := gdn 155 (by decide +kernel) rfl
theorem q156 : Cond.fieldLink RX5 67 RX5 "chilled" "Z" ∈ lw_gd := gd 156 (by decide +kernel) rfl
theorem q188 : Cond.methodLink RX8 43 yX2_init ∈ lw_gd := gd 188 (by decide +kernel) rfl
theorem q191 : Cond.methodLink RX2 3 objectInit ∈ lw_gd := gd 191 (by decide +kernel) rfl
theorem q192 : Cond.fieldLink RX2 9 RX2 "bytes" "[I" ∈ lw_gd := gd 192 (by decide +kernel) rfl
theorem q193 : Cond.fieldLink RX2 15 RX2 "village" "LSledgeStove$Village;" ∈ lw_gd := gd 193 (by decide +kernel) rfl
theorem q194 : Cond.fieldLink RX2 19 RX2 "length" "I" ∈ lw_gd := gd 194 (by decide +kernel) rfl
theorem q195 : Cond.fieldLink RX2 23 RX2 "pos" "I" ∈ lw_gd := gd 195 (by decide +kernel) rfl
theorem q196 : Cond.fieldLink RX2 33 RX2 "start" "I" ∈ lw_gd := gd 196 (by decide +kernel) rfl
theorem q197 : Cond.fieldLink RX2 36 RX2 "token" "I" ∈ lw_gd := gd 197 (by decide +kernel) rfl
theorem q198 : Cond.fieldLink RX2 110 RX2 "value" "I" ∈ lw_gd := gd 198 (by decide +kernel) rfl
theorem q218 : Cond.methodLink RX3 3 objectInit ∈ lw_gd := gd 218 (by decide +kernel) rfl
theorem q219 : Cond.fieldLink RX3 9 RX3 "numbers" "[I" ∈ lw_gd := gd 219 (by decide +kernel) rfl
theorem q220 : Cond.fieldLink RX3 15 RX3 "bits" "I" ∈ lw_gd := gd 220 (by decide +kernel) rfl
theorem q221 : Cond.fieldLinkNest RX8 254 RX3 "bits" "I" RX8 ∈ lw_nw := gdn 221 (by decide +kernel) rfl
theorem q222 : Cond.fieldLink RX3 19 RX3 "length" "I" ∈ lw_gd := gd 222 (by decide +kernel) rfl
theorem q223 : Cond.fieldLinkNest RX0 13 RX3 "length" "I" RX8 ∈ lw_nw := gdn 223 (by decide +kernel) rfl
theorem q224 : Cond.fieldLinkNest RX8 246 RX3 "length" "I" RX8 ∈ lw_nw := gdn 224 (by decide +kernel) rfl
theorem q232 : Cond.fieldLink RX8 10 RX8 "live" "LSledgeStove$Village;" ∈ lw_gd := gd 232 (by decide +kernel) rfl
theorem q233 : Cond.fieldLink RX8 16 RX8 "kept" "LSledgeStove$Village;" ∈ lw_gd := gd 233 (by decide +kernel) rfl
theorem q234 : Cond.fieldLink RX8 19 RX8 "first" "LSledgeStove$Village;" ∈ lw_gd := gd 234 (by decide +kernel) rfl
theorem q235 : Cond.fieldLink RX8 22 RX8 "second" "LSledgeStove$Village;" ∈ lw_gd := gd 235 (by decide +kernel) rfl
theorem q236 : Cond.fieldLink RX8 25 RX8 "third" "LSledgeStove$Village;" ∈ lw_gd := gd 236 (by decide +kernel) rfl
theorem q237 : Cond.fieldLink RX8 30 RX8 "sheets" "[LSledgeStove$Sheet;" ∈ lw_gd := gd 237 (by decide +kernel) rfl
theorem q238 : Cond.fieldLink RX8 34 RX8 "told" "[I" ∈ lw_gd := gd 238 (by decide +kernel) rfl
theorem q239 : Cond.fieldLink RX8 38 RX8 "tape" "[I" ∈ lw_gd := gd 239 (by decide +kernel) rfl
theorem q240 : Cond.fieldLink RX8 46 RX8 "reader" "LSledgeStove$Reader;" ∈ lw_gd := gd 240 (by decide +kernel) rfl
theorem q241 : Cond.fieldLink RX8 221 RX8 "tapeLength" "I" ∈ lw_gd := gd 241 (by decide +kernel) rfl
theorem q242 : Cond.fieldLink RX8 281 RX8 "isKept" "Z" ∈ lw_gd := gd 242 (by decide +kernel) rfl
theorem q266 : Cond.methodLink RL 13 yX8_house ∈ lw_gd := gd 266 (by decide +kernel) rfl
theorem q267 : Cond.instanceMethod yX8_house ∈ lw_gd := gd 267 (by decide +kernel) rfl
theorem q268 : Cond.selects RX8 yX8_house yX8_house ∈ lw_gd := gd 268 (by decide +kernel) rfl
theorem q269 : Cond.code yX8_house cX8_house 2 (some .int) ∈ lw_gd := gd 269 (by decide +kernel) rfl
theorem q270 : Cond.methodLink RX8 51 yX8_within ∈ lw_gd := gd 270 (by decide +kernel) rfl
theorem q271 : Cond.static yX8_within ∈ lw_gd := gd 271 (by decide +kernel) rfl
theorem q272 : Cond.code yX8_within cX8_within 3 (some .boolean) ∈ lw_gd := gd 272 (by decide +kernel) rfl
theorem q273 : Cond.methodLink RX8 55 yX8_fail ∈ lw_gd := gd 273 (by decide +kernel) rfl
theorem q275 : Cond.instanceMethod yX8_fail ∈ lw_gd := gd 275 (by decide +kernel) rfl
theorem q276 : Cond.code yX8_fail cX8_fail 2 (some .int) ∈ lw_gd := gd 276 (by decide +kernel) rfl
theorem q277 : Cond.constant RX8 288 (-1000001) ∈ lw_gd := gd 277 (by decide +kernel) rfl
theorem q278 : Cond.methodLink RX8 63 yX5_build ∈ lw_gd := gd 278 (by decide +kernel) rfl
theorem q279 : Cond.instanceMethod yX5_build ∈ lw_gd := gd 279 (by decide +kernel) rfl
theorem q280 : Cond.selects RX5 yX5_build yX5_build ∈ lw_gd := gd 280 (by decide +kernel) rfl
theorem q281 : Cond.code yX5_build cX5_build 3 (some (.object "SledgeStove$House")) ∈ lw_gd := gd 281 (by decide +kernel) rfl
theorem q282 : Cond.methodLink RX5 38 yX5_get ∈ lw_gd := gd 282 (by decide +kernel) rfl
theorem q283 : Cond.instanceMethod yX5_get ∈ lw_gd := gd 283 (by decide +kernel) rfl
theorem q284 : Cond.selects RX5 yX5_get yX5_get ∈ lw_gd := gd 284 (by decide +kernel) rfl
theorem q285 : Cond.code yX5_get cX5_get 2 (some (.object "SledgeStove$House")) ∈ lw_gd := gd 285 (by decide +kernel) rfl
theorem q286 : Cond.methodLink RX5 71 yX1_begin ∈ lw_gd := gd 286 (by decide +kernel) rfl
theorem q287 : Cond.instanceMethod yX1_begin ∈ lw_gd := gd 287 (by decide +kernel) rfl
theorem q288 : Cond.selects RX1 yX1_begin yX1_begin ∈ lw_gd := gd 288 (by decide +kernel) rfl
theorem q289 : Cond.code yX1_begin cX1_begin 2 none ∈ lw_gd := gd 289 (by decide +kernel) rfl
theorem q290 : Cond.methodLink RL 18 yX8_of ∈ lw_gd := gd 290 (by decide +kernel) rfl
theorem q291 : Cond.instanceMethod yX8_of ∈ lw_gd := gd 291 (by decide +kernel) rfl
theorem q292 : Cond.selects RX8 yX8_of yX8_of ∈ lw_gd := gd 292 (by decide +kernel) rfl
theorem q293 : Cond.code yX8_of cX8_of 4 (some .int) ∈ lw_gd := gd 293 (by decide +kernel) rfl
theorem q294 : Cond.methodLink RX8 67 yX5_get ∈ lw_gd := gd 294 (by decide +kernel) rfl
theorem q295 : Cond.methodLink RX8 75 yX1_heats ∈ lw_gd := gd 295 (by decide +kernel) rfl
theorem q296 : Cond.instanceMethod yX1_heats ∈ lw_gd := gd 296 (by decide +kernel) rfl
theorem q297 : Cond.selects RX1 yX1_heats yX1_heats ∈ lw_gd := gd 297 (by decide +kernel) rfl
theorem q298 : Cond.code yX1_heats cX1_heats 2 (some .int) ∈ lw_gd := gd 298 (by decide +kernel) rfl
theorem q299 : Cond.methodLink RX1 30 yX1_isA ∈ lw_gd := gd 299 (by decide +kernel) rfl
theorem q300 : Cond.instanceMethod yX1_isA ∈ lw_gd := gd 300 (by decide +kernel) rfl
theorem q301 : Cond.selects RX1 yX1_isA yX1_isA ∈ lw_gd := gd 301 (by decide +kernel) rfl
theorem q302 : Cond.code yX1_isA cX1_isA 2 (some .boolean) ∈ lw_gd := gd 302 (by decide +kernel) rfl
theorem q303 : Cond.methodLink RX8 82 yX1_loses ∈ lw_gd := gd 303 (by decide +kernel) rfl
theorem q304 : Cond.instanceMethod yX1_loses ∈ lw_gd := gd 304 (by decide +kernel) rfl
theorem q305 : Cond.selects RX1 yX1_loses yX1_loses ∈ lw_gd := gd 305 (by decide +kernel) rfl
theorem q306 : Cond.code yX1_loses cX1_loses 3 (some .int) ∈ lw_gd := gd 306 (by decide +kernel) rfl
theorem q307 : Cond.methodLink RX8 85 yX1_burns ∈ lw_gd := gd 307 (by decide +kernel) rfl
theorem q308 : Cond.instanceMethod yX1_burns ∈ lw_gd := gd 308 (by decide +kernel) rfl
theorem q309 : Cond.selects RX1 yX1_burns yX1_burns ∈ lw_gd := gd 309 (by decide +kernel) rfl
theorem q310 : Cond.code yX1_burns cX1_burns 1 (some .int) ∈ lw_gd := gd 310 (by decide +kernel) rfl
theorem q311 : Cond.methodLink RX8 88 yX1_told ∈ lw_gd := gd 311 (by decide +kernel) rfl
theorem q312 : Cond.instanceMethod yX1_told ∈ lw_gd := gd 312 (by decide +kernel) rfl
theorem q313 : Cond.selects RX1 yX1_told yX1_told ∈ lw_gd := gd 313 (by decide +kernel) rfl
theorem q314 : Cond.code yX1_told cX1_told 2 (some .int) ∈ lw_gd := gd 314 (by decide +kernel) rfl
theorem q315 : Cond.methodLink RL 23 yX8_change ∈ lw_gd := gd 315 (by decide +kernel) rfl
theorem q316 : Cond.instanceMethod yX8_change ∈ lw_gd := gd 316 (by decide +kernel) rfl
theorem q317 : Cond.selects RX8 yX8_change yX8_change ∈ lw_gd := gd 317 (by decide +kernel) rfl
theorem q318 : Cond.code yX8_change cX8_change 6 (some .int) ∈ lw_gd := gd 318 (by decide +kernel) rfl
theorem q319 : Cond.methodLink RX8 90 yX8_lowest ∈ lw_gd := gd 319 (by decide +kernel) rfl
theorem q320 : Cond.static yX8_lowest ∈ lw_gd := gd 320 (by decide +kernel) rfl
theorem q321 : Cond.code yX8_lowest cX8_lowest 1 (some .int) ∈ lw_gd := gd 321 (by decide +kernel) rfl
theorem q322 : Cond.methodLink RX8 93 yX8_highest ∈ lw_gd := gd 322 (by decide +kernel) rfl
theorem q323 : Cond.static yX8_highest ∈ lw_gd := gd 323 (by decide +kernel) rfl
theorem q324 : Cond.code yX8_highest cX8_highest 1 (some .int) ∈ lw_gd := gd 324 (by decide +kernel) rfl
theorem q325 : Cond.methodLink RX8 96 yX1_put ∈ lw_gd := gd 325 (by decide +kernel) rfl
theorem q326 : Cond.instanceMethod yX1_put ∈ lw_gd := gd 326 (by decide +kernel) rfl
theorem q327 : Cond.selects RX1 yX1_put yX1_put ∈ lw_gd := gd 327 (by decide +kernel) rfl
theorem q328 : Cond.code yX1_put cX1_put 3 none ∈ lw_gd := gd 328 (by decide +kernel) rfl
theorem q329 : Cond.methodLink RL 28 yX8_steep ∈ lw_gd := gd 329 (by decide +kernel) rfl
theorem q330 : Cond.instanceMethod yX8_steep ∈ lw_gd := gd 330 (by decide +kernel) rfl
theorem q331 : Cond.selects RX8 yX8_steep yX8_steep ∈ lw_gd := gd 331 (by decide +kernel) rfl
theorem q332 : Cond.code yX8_steep cX8_steep 4 (some .int) ∈ lw_gd := gd 332 (by decide +kernel) rfl
theorem q333 : Cond.methodLink RX8 100 yX5_steepAt ∈ lw_gd := gd 333 (by decide +kernel) rfl
theorem q334 : Cond.instanceMethod yX5_steepAt ∈ lw_gd := gd 334 (by decide +kernel) rfl
theorem q335 : Cond.selects RX5 yX5_steepAt yX5_steepAt ∈ lw_gd := gd 335 (by decide +kernel) rfl
theorem q336 : Cond.code yX5_steepAt cX5_steepAt 2 (some .int) ∈ lw_gd := gd 336 (by decide +kernel) rfl
theorem q337 : Cond.methodLink RX8 103 yX5_putSteep ∈ lw_gd := gd 337 (by decide +kernel) rfl
theorem q338 : Cond.instanceMethod yX5_putSteep ∈ lw_gd := gd 338 (by decide +kernel) rfl
theorem q339 : Cond.selects RX5 yX5_putSteep yX5_putSteep ∈ lw_gd := gd 339 (by decide +kernel) rfl
theorem q340 : Cond.code yX5_putSteep cX5_putSteep 3 none ∈ lw_gd := gd 340 (by decide +kernel) rfl
theorem q341 : Cond.methodLink RL 32 yX8_weather ∈ lw_gd := gd 341 (by decide +kernel) rfl
theorem q342 : Cond.instanceMethod yX8_weather ∈ lw_gd := gd 342 (by decide +kernel) rfl
theorem q343 : Cond.selects RX8 yX8_weather yX8_weather ∈ lw_gd := gd 343 (by decide +kernel) rfl
theorem q344 : Cond.code yX8_weather cX8_weather 4 (some .int) ∈ lw_gd := gd 344 (by decide +kernel) rfl
theorem q345 : Cond.methodLink RL 36 yX8_lend ∈ lw_gd := gd 345 (by decide +kernel) rfl
theorem q346 : Cond.instanceMethod yX8_lend ∈ lw_gd := gd 346 (by decide +kernel) rfl
theorem q347 : Cond.selects RX8 yX8_lend yX8_lend ∈ lw_gd := gd 347 (by decide +kernel) rfl
theorem q348 : Cond.code yX8_lend cX8_lend 6 (some .int) ∈ lw_gd := gd 348 (by decide +kernel) rfl
theorem q349 : Cond.methodLink RL 40 yX8_way ∈ lw_gd := gd 349 (by decide +kernel) rfl
theorem q350 : Cond.instanceMethod yX8_way ∈ lw_gd := gd 350 (by decide +kernel) rfl
theorem q351 : Cond.selects RX8 yX8_way yX8_way ∈ lw_gd := gd 351 (by decide +kernel) rfl
theorem q352 : Cond.code yX8_way cX8_way 3 (some .int) ∈ lw_gd := gd 352 (by decide +kernel) rfl
theorem q353 : Cond.methodLink RX8 112 yX5_between ∈ lw_gd := gd 353 (by decide +kernel) rfl
theorem q354 : Cond.instanceMethod yX5_between ∈ lw_gd := gd 354 (by decide +kernel) rfl
theorem q355 : Cond.selects RX5 yX5_between yX5_between ∈ lw_gd := gd 355 (by decide +kernel) rfl
theorem q356 : Cond.code yX5_between cX5_between 6 (some .int) ∈ lw_gd := gd 356 (by decide +kernel) rfl
theorem q357 : Cond.methodLink RX5 75 Lib.Math.max.name ∈ lw_gd := gd 357 (by decide +kernel) rfl
theorem q358 : Cond.static Lib.Math.max.name ∈ lw_gd := gd 358 (by decide +kernel) rfl
theorem q359 : Cond.code Lib.Math.max.name Lib.Math.max.code 2 (some .int) ∈ lw_gd := gd 359 (by decide +kernel) rfl
theorem q360 : Cond.methodLink RX5 81 Lib.Math.min.name ∈ lw_gd := gd 360 (by decide +kernel) rfl
theorem q361 : Cond.static Lib.Math.min.name ∈ lw_gd := gd 361 (by decide +kernel) rfl
theorem q362 : Cond.code Lib.Math.min.name Lib.Math.min.code 2 (some .int) ∈ lw_gd := gd 362 (by decide +kernel) rfl
theorem q363 : Cond.methodLink RX5 84 yX5_steepAt ∈ lw_gd := gd 363 (by decide +kernel) rfl
theorem q364 : Cond.methodLink RL 44 yX8_send ∈ lw_gd := gd 364 (by decide +kernel) rfl
theorem q365 : Cond.instanceMethod yX8_send ∈ lw_gd := gd 365 (by decide +kernel) rfl
theorem q366 : Cond.selects RX8 yX8_send yX8_send ∈ lw_gd := gd 366 (by decide +kernel) rfl
theorem q367 : Cond.code yX8_send cX8_send 2 (some .int) ∈ lw_gd := gd 367 (by decide +kernel) rfl
theorem q368 : Cond.methodLink RX8 119 yX5_go ∈ lw_gd := gd 368 (by decide +kernel) rfl
theorem q369 : Cond.instanceMethod yX5_go ∈ lw_gd := gd 369 (by decide +kernel) rfl
theorem q370 : Cond.selects RX5 yX5_go yX5_go ∈ lw_gd := gd 370 (by decide +kernel) rfl
theorem q371 : Cond.code yX5_go cX5_go 2 (some .int) ∈ lw_gd := gd 371 (by decide +kernel) rfl
theorem q372 : Cond.methodLink RX5 88 yX5_between ∈ lw_gd := gd 372 (by decide +kernel) rfl
theorem q373 : Cond.methodLink RL 48 yX8_quarters ∈ lw_gd := gd 373 (by decide +kernel) rfl
theorem q374 : Cond.instanceMethod yX8_quarters ∈ lw_gd := gd 374 (by decide +kernel) rfl
theorem q375 : Cond.selects RX8 yX8_quarters yX8_quarters ∈ lw_gd := gd 375 (by decide +kernel) rfl
theorem q376 : Cond.code yX8_quarters cX8_quarters 3 (some .int) ∈ lw_gd := gd 376 (by decide +kernel) rfl
theorem q377 : Cond.methodLink RX8 122 yX8_endsTooLate ∈ lw_gd := gd 377 (by decide +kernel) rfl
theorem q379 : Cond.instanceMethod yX8_endsTooLate ∈ lw_gd := gd 379 (by decide +kernel) rfl
theorem q380 : Cond.code yX8_endsTooLate cX8_endsTooLate 2 (some .boolean) ∈ lw_gd := gd 380 (by decide +kernel) rfl
theorem q381 : Cond.methodLink RX8 126 yX5_sum ∈ lw_gd := gd 381 (by decide +kernel) rfl
theorem q382 : Cond.instanceMethod yX5_sum ∈ lw_gd := gd 382 (by decide +kernel) rfl
theorem q383 : Cond.selects RX5 yX5_sum yX5_sum ∈ lw_gd := gd 383 (by decide +kernel) rfl
theorem q384 : Cond.code yX5_sum cX5_sum 5 (some .int) ∈ lw_gd := gd 384 (by decide +kernel) rfl
theorem q385 : Cond.methodLink RX5 136 yX1_told ∈ lw_gd := gd 385 (by decide +kernel) rfl
theorem q386 : Cond.methodLink RX8 129 yX5_pass ∈ lw_gd := gd 386 (by decide +kernel) rfl
theorem q387 : Cond.instanceMethod yX5_pass ∈ lw_gd := gd 387 (by decide +kernel) rfl
theorem q388 : Cond.selects RX5 yX5_pass yX5_pass ∈ lw_gd := gd 388 (by decide +kernel) rfl
theorem q389 : Cond.code yX5_pass cX5_pass 3 none ∈ lw_gd := gd 389 (by decide +kernel) rfl
theorem q390 : Cond.methodLink RX5 91 yX5_passOne ∈ lw_gd := gd 390 (by decide +kernel) rfl
theorem q391 : Cond.instanceMethod yX5_passOne ∈ lw_gd := gd 391 (by decide +kernel) rfl
theorem q392 : Cond.selects RX5 yX5_passOne yX5_passOne ∈ lw_gd := gd 392 (by decide +kernel) rfl
theorem q393 : Cond.code yX5_passOne cX5_passOne 4 none ∈ lw_gd := gd 393 (by decide +kernel) rfl
theorem q394 : Cond.methodLink RX5 94 yX5_stoveHouse ∈ lw_gd := gd 394 (by decide +kernel) rfl
theorem q395 : Cond.instanceMethod yX5_stoveHouse ∈ lw_gd := gd 395 (by decide +kernel) rfl
theorem q396 : Cond.selects RX5 yX5_stoveHouse yX5_stoveHouse ∈ lw_gd := gd 396 (by decide +kernel) rfl
theorem q397 : Cond.code yX5_stoveHouse cX5_stoveHouse 2 (some (.object "SledgeStove$House")) ∈ lw_gd := gd 397 (by decide +kernel) rfl
theorem q398 : Cond.methodLink RX5 113 yX1_burns ∈ lw_gd := gd 398 (by decide +kernel) rfl
theorem q399 : Cond.methodLink RX5 98 yX5_burnAt ∈ lw_gd := gd 399 (by decide +kernel) rfl
theorem q400 : Cond.instanceMethod yX5_burnAt ∈ lw_gd := gd 400 (by decide +kernel) rfl
theorem q401 : Cond.selects RX5 yX5_burnAt yX5_burnAt ∈ lw_gd := gd 401 (by decide +kernel) rfl
theorem q402 : Cond.code yX5_burnAt cX5_burnAt 5 none ∈ lw_gd := gd 402 (by decide +kernel) rfl
theorem q403 : Cond.methodLink RX5 117 yX1_heats ∈ lw_gd := gd 403 (by decide +kernel) rfl
theorem q404 : Cond.methodLink RX5 120 yX1_warmBy ∈ lw_gd := gd 404 (by decide +kernel) rfl
theorem q405 : Cond.instanceMethod yX1_warmBy ∈ lw_gd := gd 405 (by decide +kernel) rfl
theorem q406 : Cond.selects RX1 yX1_warmBy yX1_warmBy ∈ lw_gd := gd 406 (by decide +kernel) rfl
theorem q407 : Cond.code yX1_warmBy cX1_warmBy 2 none ∈ lw_gd := gd 407 (by decide +kernel) rfl
theorem q408 : Cond.methodLink RX1 38 Lib.Math.min.name ∈ lw_gd := gd 408 (by decide +kernel) rfl
theorem q409 : Cond.methodLink RX5 123 yX1_gets ∈ lw_gd := gd 409 (by decide +kernel) rfl
theorem q410 : Cond.instanceMethod yX1_gets ∈ lw_gd := gd 410 (by decide +kernel) rfl
theorem q411 : Cond.selects RX1 yX1_gets yX1_gets ∈ lw_gd := gd 411 (by decide +kernel) rfl
theorem q412 : Cond.code yX1_gets cX1_gets 2 (some .int) ∈ lw_gd := gd 412 (by decide +kernel) rfl
theorem q413 : Cond.methodLink RX5 101 yX1_cool ∈ lw_gd := gd 413 (by decide +kernel) rfl
theorem q414 : Cond.instanceMethod yX1_cool ∈ lw_gd := gd 414 (by decide +kernel) rfl
theorem q415 : Cond.selects RX1 yX1_cool yX1_cool ∈ lw_gd := gd 415 (by decide +kernel) rfl
theorem q416 : Cond.code yX1_cool cX1_cool 2 none ∈ lw_gd := gd 416 (by decide +kernel) rfl
theorem q417 : Cond.methodLink RX1 44 yX1_loses ∈ lw_gd := gd 417 (by decide +kernel) rfl
theorem q418 : Cond.methodLink RX1 48 Lib.Math.max.name ∈ lw_gd := gd 418 (by decide +kernel) rfl
theorem q419 : Cond.methodLink RL 52 yX8_now ∈ lw_gd := gd 419 (by decide +kernel) rfl
theorem q420 : Cond.instanceMethod yX8_now ∈ lw_gd := gd 420 (by decide +kernel) rfl
theorem q421 : Cond.selects RX8 yX8_now yX8_now ∈ lw_gd := gd 421 (by decide +kernel) rfl
theorem q422 : Cond.code yX8_now cX8_now 2 (some .int) ∈ lw_gd := gd 422 (by decide +kernel) rfl
theorem q423 : Cond.methodLink RX8 139 yX5_coldSet ∈ lw_gd := gd 423 (by decide +kernel) rfl
theorem q424 : Cond.instanceMethod yX5_coldSet ∈ lw_gd := gd 424 (by decide +kernel) rfl
theorem q425 : Cond.selects RX5 yX5_coldSet yX5_coldSet ∈ lw_gd := gd 425 (by decide +kernel) rfl
theorem q426 : Cond.code yX5_coldSet cX5_coldSet 3 (some .int) ∈ lw_gd := gd 426 (by decide +kernel) rfl
theorem q427 : Cond.methodLink RX5 130 yX5_isCold ∈ lw_gd := gd 427 (by decide +kernel) rfl
theorem q428 : Cond.instanceMethod yX5_isCold ∈ lw_gd := gd 428 (by decide +kernel) rfl
theorem q429 : Cond.selects RX5 yX5_isCold yX5_isCold ∈ lw_gd := gd 429 (by decide +kernel) rfl
theorem q430 : Cond.code yX5_isCold cX5_isCold 3 (some .boolean) ∈ lw_gd := gd 430 (by decide +kernel) rfl
theorem q431 : Cond.methodLink RX5 126 yX1_isCold ∈ lw_gd := gd 431 (by decide +kernel) rfl
theorem q432 : Cond.instanceMethod yX1_isCold ∈ lw_gd := gd 432 (by decide +kernel) rfl
theorem q433 : Cond.selects RX1 yX1_isCold yX1_isCold ∈ lw_gd := gd 433 (by decide +kernel) rfl
theorem q434 : Cond.code yX1_isCold cX1_isCold 1 (some .boolean) ∈ lw_gd := gd 434 (by decide +kernel) rfl
theorem q435 : Cond.methodLink RX1 34 yX1_needs ∈ lw_gd := gd 435 (by decide +kernel) rfl
theorem q436 : Cond.instanceMethod yX1_needs ∈ lw_gd := gd 436 (by decide +kernel) rfl
theorem q437 : Cond.selects RX1 yX1_needs yX1_needs ∈ lw_gd := gd 437 (by decide +kernel) rfl
theorem q438 : Cond.code yX1_needs cX1_needs 1 (some .boolean) ∈ lw_gd := gd 438 (by decide +kernel) rfl
theorem q439 : Cond.methodLink RL 56 yX8_ahead ∈ lw_gd := gd 439 (by decide +kernel) rfl
theorem q440 : Cond.instanceMethod yX8_ahead ∈ lw_gd := gd 440 (by decide +kernel) rfl
theorem q441 : Cond.selects RX8 yX8_ahead yX8_ahead ∈ lw_gd := gd 441 (by decide +kernel) rfl
theorem q442 : Cond.code yX8_ahead cX8_ahead 5 (some .int) ∈ lw_gd := gd 442 (by decide +kernel) rfl
theorem q443 : Cond.methodLink RX8 145 yX8_trial ∈ lw_gd := gd 443 (by decide +kernel) rfl
theorem q445 : Cond.instanceMethod yX8_trial ∈ lw_gd := gd 445 (by decide +kernel) rfl
theorem q446 : Cond.code yX8_trial cX8_trial 1 (some (.object "SledgeStove$Village")) ∈ lw_gd := gd 446 (by decide +kernel) rfl
theorem q447 : Cond.methodLink RX8 165 yX5_be ∈ lw_gd := gd 447 (by decide +kernel) rfl
theorem q448 : Cond.instanceMethod yX5_be ∈ lw_gd := gd 448 (by decide +kernel) rfl
theorem q449 : Cond.selects RX5 yX5_be yX5_be ∈ lw_gd := gd 449 (by decide +kernel) rfl
theorem q450 : Cond.code yX5_be cX5_be 5 none ∈ lw_gd := gd 450 (by decide +kernel) rfl
theorem q451 : Cond.methodLink RX5 42 yX1_be ∈ lw_gd := gd 451 (by decide +kernel) rfl
theorem q452 : Cond.instanceMethod yX1_be ∈ lw_gd := gd 452 (by decide +kernel) rfl
theorem q453 : Cond.selects RX1 yX1_be yX1_be ∈ lw_gd := gd 453 (by decide +kernel) rfl
theorem q454 : Cond.code yX1_be cX1_be 2 none ∈ lw_gd := gd 454 (by decide +kernel) rfl
theorem q455 : Cond.methodLink RX5 46 arraycopyName ∈ lw_gd := gd 455 (by decide +kernel) rfl
theorem q458 : Cond.methodLink RX8 149 yX5_leastWarmth ∈ lw_gd := gd 458 (by decide +kernel) rfl
theorem q459 : Cond.instanceMethod yX5_leastWarmth ∈ lw_gd := gd 459 (by decide +kernel) rfl
theorem q460 : Cond.selects RX5 yX5_leastWarmth yX5_leastWarmth ∈ lw_gd := gd 460 (by decide +kernel) rfl
theorem q461 : Cond.code yX5_leastWarmth cX5_leastWarmth 4 (some .int) ∈ lw_gd := gd 461 (by decide +kernel) rfl
theorem q462 : Cond.methodLink RX5 133 yX1_needs ∈ lw_gd := gd 462 (by decide +kernel) rfl
theorem q463 : Cond.methodLink RL 60 yX8_cold ∈ lw_gd := gd 463 (by decide +kernel) rfl
theorem q464 : Cond.instanceMethod yX8_cold ∈ lw_gd := gd 464 (by decide +kernel) rfl
theorem q465 : Cond.selects RX8 yX8_cold yX8_cold ∈ lw_gd := gd 465 (by decide +kernel) rfl
theorem q466 : Cond.code yX8_cold cX8_cold 4 (some .int) ∈ lw_gd := gd 466 (by decide +kernel) rfl
theorem q467 : Cond.methodLink RX8 155 yX5_isCold ∈ lw_gd := gd 467 (by decide +kernel) rfl
theorem q468 : Cond.methodLink RL 64 yX8_bake ∈ lw_gd := gd 468 (by decide +kernel) rfl
theorem q469 : Cond.instanceMethod yX8_bake ∈ lw_gd := gd 469 (by decide +kernel) rfl
theorem q470 : Cond.selects RX8 yX8_bake yX8_bake ∈ lw_gd := gd 470 (by decide +kernel) rfl
theorem q471 : Cond.code yX8_bake cX8_bake 6 (some .int) ∈ lw_gd := gd 471 (by decide +kernel) rfl
theorem q472 : Cond.methodLink RX8 158 yX8_cannotStart ∈ lw_gd := gd 472 (by decide +kernel) rfl
theorem q474 : Cond.instanceMethod yX8_cannotStart ∈ lw_gd := gd 474 (by decide +kernel) rfl
theorem q475 : Cond.code yX8_cannotStart cX8_cannotStart 2 (some .boolean) ∈ lw_gd := gd 475 (by decide +kernel) rfl
theorem q476 : Cond.methodLink RL 68 yX8_best ∈ lw_gd := gd 476 (by decide +kernel) rfl
theorem q477 : Cond.instanceMethod yX8_best ∈ lw_gd := gd 477 (by decide +kernel) rfl
theorem q478 : Cond.selects RX8 yX8_best yX8_best ∈ lw_gd := gd 478 (by decide +kernel) rfl
theorem q479 : Cond.code yX8_best cX8_best 6 (some .int) ∈ lw_gd := gd 479 (by decide +kernel) rfl
theorem q480 : Cond.methodLink RX8 161 yX8_sentTo ∈ lw_gd := gd 480 (by decide +kernel) rfl
theorem q482 : Cond.instanceMethod yX8_sentTo ∈ lw_gd := gd 482 (by decide +kernel) rfl
theorem q483 : Cond.code yX8_sentTo cX8_sentTo 4 (some (.object "SledgeStove$Village")) ∈ lw_gd := gd 483 (by decide +kernel) rfl
theorem q484 : Cond.methodLink RL 72 yX8_lost ∈ lw_gd := gd 484 (by decide +kernel) rfl
theorem q485 : Cond.instanceMethod yX8_lost ∈ lw_gd := gd 485 (by decide +kernel) rfl
theorem q486 : Cond.selects RX8 yX8_lost yX8_lost ∈ lw_gd := gd 486 (by decide +kernel) rfl
theorem q487 : Cond.code yX8_lost cX8_lost 4 (some .int) ∈ lw_gd := gd 487 (by decide +kernel) rfl
theorem q488 : Cond.methodLink RL 76 yX8_stay ∈ lw_gd := gd 488 (by decide +kernel) rfl
theorem q489 : Cond.instanceMethod yX8_stay ∈ lw_gd := gd 489 (by decide +kernel) rfl
theorem q490 : Cond.selects RX8 yX8_stay yX8_stay ∈ lw_gd := gd 490 (by decide +kernel) rfl
theorem q491 : Cond.code yX8_stay cX8_stay 5 (some .int) ∈ lw_gd := gd 491 (by decide +kernel) rfl
theorem q492 : Cond.methodLink RL 80 yX8_logs ∈ lw_gd := gd 492 (by decide +kernel) rfl
theorem q493 : Cond.instanceMethod yX8_logs ∈ lw_gd := gd 493 (by decide +kernel) rfl
theorem q494 : Cond.selects RX8 yX8_logs yX8_logs ∈ lw_gd := gd 494 (by decide +kernel) rfl
theorem q495 : Cond.code yX8_logs cX8_logs 3 (some .int) ∈ lw_gd := gd 495 (by decide +kernel) rfl
theorem q496 : Cond.methodLink RX8 169 yX8_leastValue ∈ lw_gd := gd 496 (by decide +kernel) rfl
theorem q498 : Cond.instanceMethod yX8_leastValue ∈ lw_gd := gd 498 (by decide +kernel) rfl
theorem q499 : Cond.code yX8_leastValue cX8_leastValue 6 (some .int) ∈ lw_gd := gd 499 (by decide +kernel) rfl
theorem q500 : Cond.methodLink RX8 181 yX8_changed ∈ lw_gd := gd 500 (by decide +kernel) rfl
theorem q502 : Cond.instanceMethod yX8_changed ∈ lw_gd := gd 502 (by decide +kernel) rfl
theorem q503 : Cond.code yX8_changed cX8_changed 7 (some (.object "SledgeStove$House")) ∈ lw_gd := gd 503 (by decide +kernel) rfl
theorem q504 : Cond.methodLink RX8 289 yX1_isCold ∈ lw_gd := gd 504 (by decide +kernel) rfl
theorem q505 : Cond.methodLink RL 84 yX8_wall ∈ lw_gd := gd 505 (by decide +kernel) rfl
theorem q506 : Cond.instanceMethod yX8_wall ∈ lw_gd := gd 506 (by decide +kernel) rfl
theorem q507 : Cond.selects RX8 yX8_wall yX8_wall ∈ lw_gd := gd 507 (by decide +kernel) rfl
theorem q508 : Cond.code yX8_wall cX8_wall 3 (some .int) ∈ lw_gd := gd 508 (by decide +kernel) rfl
theorem q509 : Cond.methodLink RL 88 yX8_straw ∈ lw_gd := gd 509 (by decide +kernel) rfl
theorem q510 : Cond.instanceMethod yX8_straw ∈ lw_gd := gd 510 (by decide +kernel) rfl
theorem q511 : Cond.selects RX8 yX8_straw yX8_straw ∈ lw_gd := gd 511 (by decide +kernel) rfl
theorem q512 : Cond.code yX8_straw cX8_straw 8 (some .int) ∈ lw_gd := gd 512 (by decide +kernel) rfl
theorem q513 : Cond.methodLink RX8 176 Lib.Math.min.name ∈ lw_gd := gd 513 (by decide +kernel) rfl
theorem q514 : Cond.methodLink RL 92 yX8_kindFor ∈ lw_gd := gd 514 (by decide +kernel) rfl
theorem q515 : Cond.instanceMethod yX8_kindFor ∈ lw_gd := gd 515 (by decide +kernel) rfl
theorem q516 : Cond.selects RX8 yX8_kindFor yX8_kindFor ∈ lw_gd := gd 516 (by decide +kernel) rfl
theorem q517 : Cond.code yX8_kindFor cX8_kindFor 7 (some .int) ∈ lw_gd := gd 517 (by decide +kernel) rfl
theorem q518 : Cond.methodLink RL 96 yX8_round ∈ lw_gd := gd 518 (by decide +kernel) rfl
theorem q519 : Cond.instanceMethod yX8_round ∈ lw_gd := gd 519 (by decide +kernel) rfl
theorem q520 : Cond.selects RX8 yX8_round yX8_round ∈ lw_gd := gd 520 (by decide +kernel) rfl
theorem q521 : Cond.code yX8_round cX8_round 3 (some .int) ∈ lw_gd := gd 521 (by decide +kernel) rfl
theorem q522 : Cond.methodLink RX8 185 yX8_roundFinding ∈ lw_gd := gd 522 (by decide +kernel) rfl
theorem q524 : Cond.instanceMethod yX8_roundFinding ∈ lw_gd := gd 524 (by decide +kernel) rfl
theorem q525 : Cond.code yX8_roundFinding cX8_roundFinding 2 (some .int) ∈ lw_gd := gd 525 (by decide +kernel) rfl
theorem q526 : Cond.methodLink RX8 188 yX8_wholeRound ∈ lw_gd := gd 526 (by decide +kernel) rfl
theorem q528 : Cond.instanceMethod yX8_wholeRound ∈ lw_gd := gd 528 (by decide +kernel) rfl
theorem q529 : Cond.code yX8_wholeRound cX8_wholeRound 3 (some (.object "SledgeStove$Village")) ∈ lw_gd := gd 529 (by decide +kernel) rfl
theorem q530 : Cond.methodLink RX8 267 yX5_beginRound ∈ lw_gd := gd 530 (by decide +kernel) rfl
theorem q531 : Cond.instanceMethod yX5_beginRound ∈ lw_gd := gd 531 (by decide +kernel) rfl
theorem q532 : Cond.selects RX5 yX5_beginRound yX5_beginRound ∈ lw_gd := gd 532 (by decide +kernel) rfl
theorem q533 : Cond.code yX5_beginRound cX5_beginRound 2 none ∈ lw_gd := gd 533 (by decide +kernel) rfl
theorem q534 : Cond.methodLink RX5 139 yX5_be ∈ lw_gd := gd 534 (by decide +kernel) rfl
theorem q535 : Cond.methodLink RX8 270 yX5_leg ∈ lw_gd := gd 535 (by decide +kernel) rfl
theorem q536 : Cond.instanceMethod yX5_leg ∈ lw_gd := gd 536 (by decide +kernel) rfl
theorem q537 : Cond.selects RX5 yX5_leg yX5_leg ∈ lw_gd := gd 537 (by decide +kernel) rfl
theorem q538 : Cond.code yX5_leg cX5_leg 5 none ∈ lw_gd := gd 538 (by decide +kernel) rfl
theorem q539 : Cond.methodLink RX5 142 yX5_go ∈ lw_gd := gd 539 (by decide +kernel) rfl
theorem q540 : Cond.methodLink RX5 145 yX5_watch ∈ lw_gd := gd 540 (by decide +kernel) rfl
theorem q541 : Cond.instanceMethod yX5_watch ∈ lw_gd := gd 541 (by decide +kernel) rfl
theorem q542 : Cond.selects RX5 yX5_watch yX5_watch ∈ lw_gd := gd 542 (by decide +kernel) rfl
theorem q543 : Cond.code yX5_watch cX5_watch 3 none ∈ lw_gd := gd 543 (by decide +kernel) rfl
theorem q544 : Cond.methodLink RL 100 yX8_takes ∈ lw_gd := gd 544 (by decide +kernel) rfl
theorem q545 : Cond.instanceMethod yX8_takes ∈ lw_gd := gd 545 (by decide +kernel) rfl
theorem q546 : Cond.selects RX8 yX8_takes yX8_takes ∈ lw_gd := gd 546 (by decide +kernel) rfl
theorem q547 : Cond.code yX8_takes cX8_takes 3 (some .int) ∈ lw_gd := gd 547 (by decide +kernel) rfl
theorem q548 : Cond.methodLink RL 104 yX8_three ∈ lw_gd := gd 548 (by decide +kernel) rfl
theorem q549 : Cond.instanceMethod yX8_three ∈ lw_gd := gd 549 (by decide +kernel) rfl
theorem q550 : Cond.selects RX8 yX8_three yX8_three ∈ lw_gd := gd 550 (by decide +kernel) rfl
theorem q551 : Cond.code yX8_three cX8_three 4 (some .int) ∈ lw_gd := gd 551 (by decide +kernel) rfl
theorem q560 : Cond.methodLink RX7 1 objectInit ∈ lw_gd := gd 560 (by decide +kernel) rfl
theorem q561 : Cond.fieldLink RX6 7 RX6 "least" "I" ∈ lw_gd := gd 561 (by decide +kernel) rfl
theorem q562 : Cond.fieldLinkNest RX8 205 RX6 "least" "I" RX8 ∈ lw_nw := gdn 562 (by decide +kernel) rfl
theorem q563 : Cond.fieldLink RX6 16 RX6 "code" "I" ∈ lw_gd := gd 563 (by decide +kernel) rfl
theorem q564 : Cond.fieldLinkNest RX8 202 RX6 "code" "I" RX8 ∈ lw_nw := gdn 564 (by decide +kernel) rfl
theorem q570 : Cond.methodLink RX8 198 yX8_tryThrees ∈ lw_gd := gd 570 (by decide +kernel) rfl
theorem q572 : Cond.instanceMethod yX8_tryThrees ∈ lw_gd := gd 572 (by decide +kernel) rfl
theorem q573 : Cond.code yX8_tryThrees cX8_tryThrees 7 none ∈ lw_gd := gd 573 (by decide +kernel) rfl
theorem q574 : Cond.methodLink RX8 291 ⟨RX7, "givesUp", "(LSledgeStove$Village;)Z"⟩ ∈ lw_gd := gd 574 (by decide +kernel) rfl
theorem q581 : Cond.instanceMethod yX4_givesUp ∈ lw_gd := gd 581 (by decide +kernel) rfl
theorem q582 : Cond.code yX4_givesUp cX4_givesUp 2 (some .boolean) ∈ lw_gd := gd 582 (by decide +kernel) rfl
theorem q586 : Cond.methodLink RX8 297 ⟨RX7, "look", "(LSledgeStove$Village;I)V"⟩ ∈ lw_gd := gd 586 (by decide +kernel) rfl
theorem q592 : Cond.methodLink RX0 24 Lib.Math.min.name ∈ lw_gd := gd 592 (by decide +kernel) rfl
theorem q593 : Cond.methodLink RX0 30 yX5_get ∈ lw_gd := gd 593 (by decide +kernel) rfl
theorem q594 : Cond.methodLink RX0 39 yX3_get ∈ lw_gd := gd 594 (by decide +kernel) rfl
theorem q595 : Cond.instanceMethod yX3_get ∈ lw_gd := gd 595 (by decide +kernel) rfl
theorem q596 : Cond.selects RX3 yX3_get yX3_get ∈ lw_gd := gd 596 (by decide +kernel) rfl
theorem q597 : Cond.code yX3_get cX3_get 2 (some .int) ∈ lw_gd := gd 597 (by decide +kernel) rfl
theorem q601 : Cond.methodLink RX4 23 yX4_givesUp ∈ lw_gd := gd 601 (by decide +kernel) rfl
theorem q605 : Cond.methodLink RL 108 yX8_least ∈ lw_gd := gd 605 (by decide +kernel) rfl
theorem q606 : Cond.instanceMethod yX8_least ∈ lw_gd := gd 606 (by decide +kernel) rfl
theorem q607 : Cond.selects RX8 yX8_least yX8_least ∈ lw_gd := gd 607 (by decide +kernel) rfl
theorem q608 : Cond.code yX8_least cX8_least 4 (some .int) ∈ lw_gd := gd 608 (by decide +kernel) rfl
theorem q609 : Cond.methodLink RL 112 yX8_pace ∈ lw_gd := gd 609 (by decide +kernel) rfl
theorem q610 : Cond.instanceMethod yX8_pace ∈ lw_gd := gd 610 (by decide +kernel) rfl
theorem q611 : Cond.selects RX8 yX8_pace yX8_pace ∈ lw_gd := gd 611 (by decide +kernel) rfl
theorem q612 : Cond.code yX8_pace cX8_pace 5 (some .int) ∈ lw_gd := gd 612 (by decide +kernel) rfl
theorem q613 : Cond.methodLink RL 117 yX8_thrift ∈ lw_gd := gd 613 (by decide +kernel) rfl
theorem q614 : Cond.instanceMethod yX8_thrift ∈ lw_gd := gd 614 (by decide +kernel) rfl
theorem q615 : Cond.selects RX8 yX8_thrift yX8_thrift ∈ lw_gd := gd 615 (by decide +kernel) rfl
theorem q616 : Cond.code yX8_thrift cX8_thrift 4 (some .int) ∈ lw_gd := gd 616 (by decide +kernel) rfl
theorem q623 : Cond.fieldLink RX4 22 RX4 "burnt" "I" ∈ lw_gd := gd 623 (by decide +kernel) rfl
theorem q624 : Cond.fieldLink RX4 7 RX4 "code" "I" ∈ lw_gd := gd 624 (by decide +kernel) rfl
theorem q625 : Cond.fieldLinkNest RX8 209 RX4 "code" "I" RX8 ∈ lw_nw := gdn 625 (by decide +kernel) rfl
theorem q631 : Cond.methodLink RL 121 yX8_middle ∈ lw_gd := gd 631 (by decide +kernel) rfl
theorem q632 : Cond.instanceMethod yX8_middle ∈ lw_gd := gd 632 (by decide +kernel) rfl
theorem q633 : Cond.selects RX8 yX8_middle yX8_middle ∈ lw_gd := gd 633 (by decide +kernel) rfl
theorem q634 : Cond.code yX8_middle cX8_middle 6 (some .int) ∈ lw_gd := gd 634 (by decide +kernel) rfl
theorem q635 : Cond.methodLink RL 125 yX8_calls ∈ lw_gd := gd 635 (by decide +kernel) rfl
theorem q636 : Cond.instanceMethod yX8_calls ∈ lw_gd := gd 636 (by decide +kernel) rfl
theorem q637 : Cond.selects RX8 yX8_calls yX8_calls ∈ lw_gd := gd 637 (by decide +kernel) rfl
theorem q638 : Cond.code yX8_calls cX8_calls 4 (some .int) ∈ lw_gd := gd 638 (by decide +kernel) rfl
theorem q639 : Cond.methodLink RX8 210 yX5_draw ∈ lw_gd := gd 639 (by decide +kernel) rfl
theorem q640 : Cond.instanceMethod yX5_draw ∈ lw_gd := gd 640 (by decide +kernel) rfl
theorem q641 : Cond.selects RX5 yX5_draw yX5_draw ∈ lw_gd := gd 641 (by decide +kernel) rfl
theorem q642 : Cond.code yX5_draw cX5_draw 1 (some .int) ∈ lw_gd := gd 642 (by decide +kernel) rfl
theorem q643 : Cond.constant RX5 148 1103515245 ∈ lw_gd := gd 643 (by decide +kernel) rfl
theorem q644 : Cond.methodLink RX8 213 yJ6_bitCount_0f7a4 ∈ lw_gd := gd 644 (by decide +kernel) rfl
theorem q650 : Cond.methodLink RL 129 yX8_seed ∈ lw_gd := gd 650 (by decide +kernel) rfl
theorem q651 : Cond.instanceMethod yX8_seed ∈ lw_gd := gd 651 (by decide +kernel) rfl
theorem q652 : Cond.selects RX8 yX8_seed yX8_seed ∈ lw_gd := gd 652 (by decide +kernel) rfl
theorem q653 : Cond.code yX8_seed cX8_seed 3 (some .int) ∈ lw_gd := gd 653 (by decide +kernel) rfl
theorem q654 : Cond.methodLink RL 133 yX8_feed ∈ lw_gd := gd 654 (by decide +kernel) rfl
theorem q655 : Cond.instanceMethod yX8_feed ∈ lw_gd := gd 655 (by decide +kernel) rfl
theorem q656 : Cond.selects RX8 yX8_feed yX8_feed ∈ lw_gd := gd 656 (by decide +kernel) rfl
theorem q657 : Cond.code yX8_feed cX8_feed 4 (some .int) ∈ lw_gd := gd 657 (by decide +kernel) rfl
theorem q658 : Cond.methodLink RL 137 yX8_wipe ∈ lw_gd := gd 658 (by decide +kernel) rfl
theorem q659 : Cond.instanceMethod yX8_wipe ∈ lw_gd := gd 659 (by decide +kernel) rfl
theorem q660 : Cond.selects RX8 yX8_wipe yX8_wipe ∈ lw_gd := gd 660 (by decide +kernel) rfl
theorem q661 : Cond.code yX8_wipe cX8_wipe 2 (some .int) ∈ lw_gd := gd 661 (by decide +kernel) rfl
theorem q662 : Cond.methodLink RL 141 yX8_text ∈ lw_gd := gd 662 (by decide +kernel) rfl
theorem q663 : Cond.instanceMethod yX8_text ∈ lw_gd := gd 663 (by decide +kernel) rfl
theorem q664 : Cond.selects RX8 yX8_text yX8_text ∈ lw_gd := gd 664 (by decide +kernel) rfl
theorem q665 : Cond.code yX8_text cX8_text 2 (some .int) ∈ lw_gd := gd 665 (by decide +kernel) rfl
theorem q666 : Cond.methodLink RX8 224 yX8_wipe ∈ lw_gd := gd 666 (by decide +kernel) rfl
theorem q667 : Cond.methodLink RX8 227 yX2_readAll ∈ lw_gd := gd 667 (by decide +kernel) rfl
theorem q668 : Cond.instanceMethod yX2_readAll ∈ lw_gd := gd 668 (by decide +kernel) rfl
theorem q669 : Cond.selects RX2 yX2_readAll yX2_readAll ∈ lw_gd := gd 669 (by decide +kernel) rfl
theorem q670 : Cond.code yX2_readAll cX2_readAll 3 (some .int) ∈ lw_gd := gd 670 (by decide +kernel) rfl
theorem q671 : Cond.methodLink RX2 26 yX2_next ∈ lw_gd := gd 671 (by decide +kernel) rfl
theorem q672 : Cond.instanceMethod yX2_next ∈ lw_gd := gd 672 (by decide +kernel) rfl
theorem q673 : Cond.selects RX2 yX2_next yX2_next ∈ lw_gd := gd 673 (by decide +kernel) rfl
theorem q674 : Cond.code yX2_next cX2_next 1 none ∈ lw_gd := gd 674 (by decide +kernel) rfl
theorem q675 : Cond.methodLink RX2 128 yX2_byteAt ∈ lw_gd := gd 675 (by decide +kernel) rfl
theorem q676 : Cond.instanceMethod yX2_byteAt ∈ lw_gd := gd 676 (by decide +kernel) rfl
theorem q677 : Cond.selects RX2 yX2_byteAt yX2_byteAt ∈ lw_gd := gd 677 (by decide +kernel) rfl
theorem q678 : Cond.code yX2_byteAt cX2_byteAt 2 (some .int) ∈ lw_gd := gd 678 (by decide +kernel) rfl
theorem q679 : Cond.methodLink RX2 135 yX2_isLetter ∈ lw_gd := gd 679 (by decide +kernel) rfl
theorem q680 : Cond.instanceMethod yX2_isLetter ∈ lw_gd := gd 680 (by decide +kernel) rfl
theorem q681 : Cond.selects RX2 yX2_isLetter yX2_isLetter ∈ lw_gd := gd 681 (by decide +kernel) rfl
theorem q682 : Cond.code yX2_isLetter cX2_isLetter 2 (some .boolean) ∈ lw_gd := gd 682 (by decide +kernel) rfl
theorem q683 : Cond.methodLink RX2 138 yX2_isDigit ∈ lw_gd := gd 683 (by decide +kernel) rfl
theorem q684 : Cond.instanceMethod yX2_isDigit ∈ lw_gd := gd 684 (by decide +kernel) rfl
theorem q685 : Cond.selects RX2 yX2_isDigit yX2_isDigit ∈ lw_gd := gd 685 (by decide +kernel) rfl
theorem q686 : Cond.code yX2_isDigit cX2_isDigit 2 (some .boolean) ∈ lw_gd := gd 686 (by decide +kernel) rfl
theorem q687 : Cond.methodLink RX2 141 Lib.Math.min.name ∈ lw_gd := gd 687 (by decide +kernel) rfl
theorem q688 : Cond.methodLink RX2 29 yX2_readItem ∈ lw_gd := gd 688 (by decide +kernel) rfl
theorem q689 : Cond.instanceMethod yX2_readItem ∈ lw_gd := gd 689 (by decide +kernel) rfl
theorem q690 : Cond.selects RX2 yX2_readItem yX2_readItem ∈ lw_gd := gd 690 (by decide +kernel) rfl
theorem q691 : Cond.code yX2_readItem cX2_readItem 2 (some .boolean) ∈ lw_gd := gd 691 (by decide +kernel) rfl
theorem q692 : Cond.methodLink RX2 39 yX2_kindTold ∈ lw_gd := gd 692 (by decide +kernel) rfl
theorem q693 : Cond.instanceMethod yX2_kindTold ∈ lw_gd := gd 693 (by decide +kernel) rfl
theorem q694 : Cond.selects RX2 yX2_kindTold yX2_kindTold ∈ lw_gd := gd 694 (by decide +kernel) rfl
theorem q695 : Cond.code yX2_kindTold cX2_kindTold 1 (some .int) ∈ lw_gd := gd 695 (by decide +kernel) rfl
theorem q697 : Cond.methodLink RX2 49 yX2_isWord ∈ lw_gd := gd 697 (by decide +kernel) rfl
theorem q698 : Cond.instanceMethod yX2_isWord ∈ lw_gd := gd 698 (by decide +kernel) rfl
theorem q699 : Cond.selects RX2 yX2_isWord yX2_isWord ∈ lw_gd := gd 699 (by decide +kernel) rfl
theorem q700 : Cond.code yX2_isWord cX2_isWord 3 (some .boolean) ∈ lw_gd := gd 700 (by decide +kernel) rfl
theorem q701 : Cond.methodLink RX2 124 yJ0_length_8abf5 ∈ lw_gd := gd 701 (by decide +kernel) rfl
theorem q711 : Cond.methodLink RX2 131 yJ0_charAt_5068e ∈ lw_gd := gd 711 (by decide +kernel) rfl
theorem q755 : Cond.methodLink RX2 43 yX2_readHouse ∈ lw_gd := gd 755 (by decide +kernel) rfl
theorem q756 : Cond.instanceMethod yX2_readHouse ∈ lw_gd := gd 756 (by decide +kernel) rfl
theorem q757 : Cond.selects RX2 yX2_readHouse yX2_readHouse ∈ lw_gd := gd 757 (by decide +kernel) rfl
theorem q758 : Cond.code yX2_readHouse cX2_readHouse 3 (some .boolean) ∈ lw_gd := gd 758 (by decide +kernel) rfl
theorem q759 : Cond.methodLink RX2 83 yX5_build ∈ lw_gd := gd 759 (by decide +kernel) rfl
theorem q761 : Cond.methodLink RX2 89 yX2_readPart ∈ lw_gd := gd 761 (by decide +kernel) rfl
theorem q762 : Cond.instanceMethod yX2_readPart ∈ lw_gd := gd 762 (by decide +kernel) rfl
theorem q763 : Cond.selects RX2 yX2_readPart yX2_readPart ∈ lw_gd := gd 763 (by decide +kernel) rfl
theorem q764 : Cond.code yX2_readPart cX2_readPart 4 (some .boolean) ∈ lw_gd := gd 764 (by decide +kernel) rfl
theorem q767 : Cond.methodLink RX2 106 yX2_isNumber ∈ lw_gd := gd 767 (by decide +kernel) rfl
theorem q768 : Cond.instanceMethod yX2_isNumber ∈ lw_gd := gd 768 (by decide +kernel) rfl
theorem q769 : Cond.selects RX2 yX2_isNumber yX2_isNumber ∈ lw_gd := gd 769 (by decide +kernel) rfl
theorem q770 : Cond.code yX2_isNumber cX2_isNumber 3 (some .boolean) ∈ lw_gd := gd 770 (by decide +kernel) rfl
theorem q771 : Cond.methodLink RX2 113 yX1_put ∈ lw_gd := gd 771 (by decide +kernel) rfl
theorem q776 : Cond.methodLink RX2 53 yX2_readSteep ∈ lw_gd := gd 776 (by decide +kernel) rfl
theorem q777 : Cond.instanceMethod yX2_readSteep ∈ lw_gd := gd 777 (by decide +kernel) rfl
theorem q778 : Cond.selects RX2 yX2_readSteep yX2_readSteep ∈ lw_gd := gd 778 (by decide +kernel) rfl
theorem q779 : Cond.code yX2_readSteep cX2_readSteep 2 (some .boolean) ∈ lw_gd := gd 779 (by decide +kernel) rfl
theorem q780 : Cond.methodLink RX2 119 yX5_putSteep ∈ lw_gd := gd 780 (by decide +kernel) rfl
theorem q782 : Cond.methodLink RX2 58 yX2_readOut ∈ lw_gd := gd 782 (by decide +kernel) rfl
theorem q783 : Cond.instanceMethod yX2_readOut ∈ lw_gd := gd 783 (by decide +kernel) rfl
theorem q784 : Cond.selects RX2 yX2_readOut yX2_readOut ∈ lw_gd := gd 784 (by decide +kernel) rfl
theorem q785 : Cond.code yX2_readOut cX2_readOut 1 (some .boolean) ∈ lw_gd := gd 785 (by decide +kernel) rfl
theorem q789 : Cond.methodLink RL 145 yX8_hold ∈ lw_gd := gd 789 (by decide +kernel) rfl
theorem q790 : Cond.instanceMethod yX8_hold ∈ lw_gd := gd 790 (by decide +kernel) rfl
theorem q791 : Cond.selects RX8 yX8_hold yX8_hold ∈ lw_gd := gd 791 (by decide +kernel) rfl
theorem q792 : Cond.code yX8_hold cX8_hold 3 (some .int) ∈ lw_gd := gd 792 (by decide +kernel) rfl
theorem q793 : Cond.methodLink RX8 230 yX5_putSpot ∈ lw_gd := gd 793 (by decide +kernel) rfl
theorem q794 : Cond.instanceMethod yX5_putSpot ∈ lw_gd := gd 794 (by decide +kernel) rfl
theorem q795 : Cond.selects RX5 yX5_putSpot yX5_putSpot ∈ lw_gd := gd 795 (by decide +kernel) rfl
theorem q796 : Cond.code yX5_putSpot cX5_putSpot 3 none ∈ lw_gd := gd 796 (by decide +kernel) rfl
theorem q797 : Cond.methodLink RL 149 yX8_as ∈ lw_gd := gd 797 (by decide +kernel) rfl
theorem q798 : Cond.instanceMethod yX8_as ∈ lw_gd := gd 798 (by decide +kernel) rfl
theorem q799 : Cond.selects RX8 yX8_as yX8_as ∈ lw_gd := gd 799 (by decide +kernel) rfl
theorem q800 : Cond.code yX8_as cX8_as 5 (some .int) ∈ lw_gd := gd 800 (by decide +kernel) rfl
theorem q801 : Cond.methodLink RX8 233 yX5_spotAt ∈ lw_gd := gd 801 (by decide +kernel) rfl
theorem q802 : Cond.instanceMethod yX5_spotAt ∈ lw_gd := gd 802 (by decide +kernel) rfl
theorem q803 : Cond.selects RX5 yX5_spotAt yX5_spotAt ∈ lw_gd := gd 803 (by decide +kernel) rfl
theorem q804 : Cond.code yX5_spotAt cX5_spotAt 2 (some .int) ∈ lw_gd := gd 804 (by decide +kernel) rfl
theorem q805 : Cond.methodLink RX8 236 yX1_isA ∈ lw_gd := gd 805 (by decide +kernel) rfl
theorem q806 : Cond.methodLink RL 153 yX8_sheet ∈ lw_gd := gd 806 (by decide +kernel) rfl
theorem q807 : Cond.instanceMethod yX8_sheet ∈ lw_gd := gd 807 (by decide +kernel) rfl
theorem q808 : Cond.selects RX8 yX8_sheet yX8_sheet ∈ lw_gd := gd 808 (by decide +kernel) rfl
theorem q809 : Cond.code yX8_sheet cX8_sheet 5 (some .int) ∈ lw_gd := gd 809 (by decide +kernel) rfl
theorem q810 : Cond.methodLink RX8 239 yX8_sheetAt ∈ lw_gd := gd 810 (by decide +kernel) rfl
theorem q812 : Cond.instanceMethod yX8_sheetAt ∈ lw_gd := gd 812 (by decide +kernel) rfl
theorem q813 : Cond.code yX8_sheetAt cX8_sheetAt 2 (some (.object "SledgeStove$Sheet")) ∈ lw_gd := gd 813 (by decide +kernel) rfl
theorem q814 : Cond.methodLink RX8 243 yX3_begin ∈ lw_gd := gd 814 (by decide +kernel) rfl
theorem q815 : Cond.instanceMethod yX3_begin ∈ lw_gd := gd 815 (by decide +kernel) rfl
theorem q816 : Cond.selects RX3 yX3_begin yX3_begin ∈ lw_gd := gd 816 (by decide +kernel) rfl
theorem q817 : Cond.code yX3_begin cX3_begin 4 none ∈ lw_gd := gd 817 (by decide +kernel) rfl
theorem q818 : Cond.methodLink RL 157 yX8_write ∈ lw_gd := gd 818 (by decide +kernel) rfl
theorem q819 : Cond.instanceMethod yX8_write ∈ lw_gd := gd 819 (by decide +kernel) rfl
theorem q820 : Cond.selects RX8 yX8_write yX8_write ∈ lw_gd := gd 820 (by decide +kernel) rfl
theorem q821 : Cond.code yX8_write cX8_write 5 (some .int) ∈ lw_gd := gd 821 (by decide +kernel) rfl
theorem q822 : Cond.methodLink RX8 249 yX3_isMissing ∈ lw_gd := gd 822 (by decide +kernel) rfl
theorem q823 : Cond.instanceMethod yX3_isMissing ∈ lw_gd := gd 823 (by decide +kernel) rfl
theorem q824 : Cond.selects RX3 yX3_isMissing yX3_isMissing ∈ lw_gd := gd 824 (by decide +kernel) rfl
theorem q825 : Cond.code yX3_isMissing cX3_isMissing 1 (some .boolean) ∈ lw_gd := gd 825 (by decide +kernel) rfl
theorem q826 : Cond.methodLink RX8 253 yX3_put ∈ lw_gd := gd 826 (by decide +kernel) rfl
theorem q827 : Cond.instanceMethod yX3_put ∈ lw_gd := gd 827 (by decide +kernel) rfl
theorem q828 : Cond.selects RX3 yX3_put yX3_put ∈ lw_gd := gd 828 (by decide +kernel) rfl
theorem q829 : Cond.code yX3_put cX3_put 3 none ∈ lw_gd := gd 829 (by decide +kernel) rfl
theorem q830 : Cond.methodLink RX3 22 yX3_cut ∈ lw_gd := gd 830 (by decide +kernel) rfl
theorem q831 : Cond.instanceMethod yX3_cut ∈ lw_gd := gd 831 (by decide +kernel) rfl
theorem q832 : Cond.selects RX3 yX3_cut yX3_cut ∈ lw_gd := gd 832 (by decide +kernel) rfl
theorem q833 : Cond.code yX3_cut cX3_cut 2 (some .int) ∈ lw_gd := gd 833 (by decide +kernel) rfl
theorem q834 : Cond.methodLink RL 161 yX8_copy ∈ lw_gd := gd 834 (by decide +kernel) rfl
theorem q835 : Cond.instanceMethod yX8_copy ∈ lw_gd := gd 835 (by decide +kernel) rfl
theorem q836 : Cond.selects RX8 yX8_copy yX8_copy ∈ lw_gd := gd 836 (by decide +kernel) rfl
theorem q837 : Cond.code yX8_copy cX8_copy 10 (some .int) ∈ lw_gd := gd 837 (by decide +kernel) rfl
theorem q838 : Cond.methodLink RX8 257 yX3_has ∈ lw_gd := gd 838 (by decide +kernel) rfl
theorem q839 : Cond.instanceMethod yX3_has ∈ lw_gd := gd 839 (by decide +kernel) rfl
theorem q840 : Cond.selects RX3 yX3_has yX3_has ∈ lw_gd := gd 840 (by decide +kernel) rfl
theorem q841 : Cond.code yX3_has cX3_has 3 (some .boolean) ∈ lw_gd := gd 841 (by decide +kernel) rfl
theorem q842 : Cond.methodLink RX8 261 yX3_get ∈ lw_gd := gd 842 (by decide +kernel) rfl
theorem q843 : Cond.methodLink RL 166 yX8_load ∈ lw_gd := gd 843 (by decide +kernel) rfl
theorem q844 : Cond.instanceMethod yX8_load ∈ lw_gd := gd 844 (by decide +kernel) rfl
theorem q845 : Cond.selects RX8 yX8_load yX8_load ∈ lw_gd := gd 845 (by decide +kernel) rfl
theorem q846 : Cond.code yX8_load cX8_load 7 (some .int) ∈ lw_gd := gd 846 (by decide +kernel) rfl
theorem q847 : Cond.methodLink RL 170 yX8_rounds ∈ lw_gd := gd 847 (by decide +kernel) rfl
theorem q848 : Cond.instanceMethod yX8_rounds ∈ lw_gd := gd 848 (by decide +kernel) rfl
theorem q849 : Cond.selects RX8 yX8_rounds yX8_rounds ∈ lw_gd := gd 849 (by decide +kernel) rfl
theorem q850 : Cond.code yX8_rounds cX8_rounds 5 (some .int) ∈ lw_gd := gd 850 (by decide +kernel) rfl
theorem q851 : Cond.methodLink RX8 263 yX8_tellsHouses ∈ lw_gd := gd 851 (by decide +kernel) rfl
theorem q853 : Cond.instanceMethod yX8_tellsHouses ∈ lw_gd := gd 853 (by decide +kernel) rfl
theorem q854 : Cond.code yX8_tellsHouses cX8_tellsHouses 3 (some .boolean) ∈ lw_gd := gd 854 (by decide +kernel) rfl
theorem q855 : Cond.methodLink RL 174 yX8_diary ∈ lw_gd := gd 855 (by decide +kernel) rfl
theorem q856 : Cond.instanceMethod yX8_diary ∈ lw_gd := gd 856 (by decide +kernel) rfl
theorem q857 : Cond.selects RX8 yX8_diary yX8_diary ∈ lw_gd := gd 857 (by decide +kernel) rfl
theorem q858 : Cond.code yX8_diary cX8_diary 6 (some .int) ∈ lw_gd := gd 858 (by decide +kernel) rfl
theorem q861 : Cond.methodLink RX8 275 yX0_init ∈ lw_gd := gd 861 (by decide +kernel) rfl
theorem q865 : Cond.fieldLink RX0 7 RX0 "sheet" "LSledgeStove$Sheet;" ∈ lw_gd := gd 865 (by decide +kernel) rfl
theorem q866 : Cond.fieldLink RX0 42 RX0 "fitting" "I" ∈ lw_gd := gd 866 (by decide +kernel) rfl
theorem q867 : Cond.fieldLinkNest RX8 278 RX0 "fitting" "I" RX8 ∈ lw_nw := gdn 867 (by decide +kernel) rfl
theorem q873 : Cond.methodLink RL 178 yX8_judge ∈ lw_gd := gd 873 (by decide +kernel) rfl
theorem q874 : Cond.instanceMethod yX8_judge ∈ lw_gd := gd 874 (by decide +kernel) rfl
theorem q875 : Cond.selects RX8 yX8_judge yX8_judge ∈ lw_gd := gd 875 (by decide +kernel) rfl
theorem q876 : Cond.code yX8_judge cX8_judge 7 (some .int) ∈ lw_gd := gd 876 (by decide +kernel) rfl
theorem q877 : Cond.methodLink RL 182 yX8_image ∈ lw_gd := gd 877 (by decide +kernel) rfl
theorem q878 : Cond.instanceMethod yX8_image ∈ lw_gd := gd 878 (by decide +kernel) rfl
theorem q879 : Cond.selects RX8 yX8_image yX8_image ∈ lw_gd := gd 879 (by decide +kernel) rfl
theorem q880 : Cond.code yX8_image cX8_image 1 (some .int) ∈ lw_gd := gd 880 (by decide +kernel) rfl
theorem q881 : Cond.methodLink RL 186 yX8_undo ∈ lw_gd := gd 881 (by decide +kernel) rfl
theorem q882 : Cond.instanceMethod yX8_undo ∈ lw_gd := gd 882 (by decide +kernel) rfl
theorem q883 : Cond.selects RX8 yX8_undo yX8_undo ∈ lw_gd := gd 883 (by decide +kernel) rfl
theorem q884 : Cond.code yX8_undo cX8_undo 1 (some .int) ∈ lw_gd := gd 884 (by decide +kernel) rfl
theorem q885 : Cond.methodLink RL 190 yX8_tear ∈ lw_gd := gd 885 (by decide +kernel) rfl
theorem q886 : Cond.instanceMethod yX8_tear ∈ lw_gd := gd 886 (by decide +kernel) rfl
theorem q887 : Cond.selects RX8 yX8_tear yX8_tear ∈ lw_gd := gd 887 (by decide +kernel) rfl
theorem q888 : Cond.code yX8_tear cX8_tear 2 (some .int) ∈ lw_gd := gd 888 (by decide +kernel) rfl
theorem q889 : Cond.methodLink RL 194 yX8_count ∈ lw_gd := gd 889 (by decide +kernel) rfl
theorem q890 : Cond.instanceMethod yX8_count ∈ lw_gd := gd 890 (by decide +kernel) rfl
theorem q891 : Cond.selects RX8 yX8_count yX8_count ∈ lw_gd := gd 891 (by decide +kernel) rfl
theorem q892 : Cond.code yX8_count cX8_count 2 (some .int) ∈ lw_gd := gd 892 (by decide +kernel) rfl
theorem q893 : Cond.methodLink RX8 285 yX5_spotsHeld ∈ lw_gd := gd 893 (by decide +kernel) rfl
theorem q894 : Cond.instanceMethod yX5_spotsHeld ∈ lw_gd := gd 894 (by decide +kernel) rfl
theorem q895 : Cond.selects RX5 yX5_spotsHeld yX5_spotsHeld ∈ lw_gd := gd 895 (by decide +kernel) rfl
theorem q896 : Cond.code yX5_spotsHeld cX5_spotsHeld 3 (some .int) ∈ lw_gd := gd 896 (by decide +kernel) rfl
theorem q897 : Cond.methodLink RL 198 yX8_status ∈ lw_gd := gd 897 (by decide +kernel) rfl
theorem q898 : Cond.instanceMethod yX8_status ∈ lw_gd := gd 898 (by decide +kernel) rfl
theorem q899 : Cond.selects RX8 yX8_status yX8_status ∈ lw_gd := gd 899 (by decide +kernel) rfl
theorem q900 : Cond.code yX8_status cX8_status 4 (some .int) ∈ lw_gd := gd 900 (by decide +kernel) rfl
theorem q906 : Cond.methodLink RX9 1 objectInit ∈ lw_gd := gd 906 (by decide +kernel) rfl
theorem q907 : Cond.fieldLink RX9 7 RX9 "s" "[I" ∈ lw_gd := gd 907 (by decide +kernel) rfl
theorem q908 : Cond.fieldLink RX9 13 RX9 "keptS" "[I" ∈ lw_gd := gd 908 (by decide +kernel) rfl
theorem q909 : Cond.fieldLink RX9 16 RX9 "other" "[I" ∈ lw_gd := gd 909 (by decide +kernel) rfl
theorem q910 : Cond.fieldLink RX9 19 RX9 "statuses" "[I" ∈ lw_gd := gd 910 (by decide +kernel) rfl
theorem q911 : Cond.fieldLink RX9 350 RX9 "isKept" "Z" ∈ lw_gd := gd 911 (by decide +kernel) rfl
theorem q912 : Cond.fieldLink RX9 116 RX9 "isAway" "Z" ∈ lw_gd := gd 912 (by decide +kernel) rfl
theorem q913 : Cond.fieldLink RX9 166 RX9 "leastSeen" "I" ∈ lw_gd := gd 913 (by decide +kernel) rfl
theorem q914 : Cond.fieldLink RX9 169 RX9 "isColdSeen" "Z" ∈ lw_gd := gd 914 (by decide +kernel) rfl
theorem q915 : Cond.fieldLink RX9 22 RX9 "floor" "I" ∈ lw_gd := gd 915 (by decide +kernel) rfl
theorem q916 : Cond.fieldLink RX9 175 RX9 "isWarmAsked" "Z" ∈ lw_gd := gd 916 (by decide +kernel) rfl
theorem q917 : Cond.fieldLink RX9 26 RX9 "stood" "[I" ∈ lw_gd := gd 917 (by decide +kernel) rfl
theorem q918 : Cond.fieldLink RX9 29 RX9 "leastStood" "[I" ∈ lw_gd := gd 918 (by decide +kernel) rfl
theorem q919 : Cond.fieldLink RX9 190 RX9 "bestTold" "I" ∈ lw_gd := gd 919 (by decide +kernel) rfl
theorem q920 : Cond.fieldLink RX9 187 RX9 "bestLeast" "I" ∈ lw_gd := gd 920 (by decide +kernel) rfl
theorem q921 : Cond.fieldLink RX9 193 RX9 "fewestBurnt" "I" ∈ lw_gd := gd 921 (by decide +kernel) rfl
theorem q922 : Cond.fieldLink RX9 196 RX9 "manyTold" "I" ∈ lw_gd := gd 922 (by decide +kernel) rfl
theorem q923 : Cond.fieldLink RX9 32 RX9 "tape" "[I" ∈ lw_gd := gd 923 (by decide +kernel) rfl
theorem q924 : Cond.fieldLink RX9 241 RX9 "taped" "I" ∈ lw_gd := gd 924 (by decide +kernel) rfl
theorem q925 : Cond.fieldLink RX9 255 RX9 "from" "I" ∈ lw_gd := gd 925 (by decide +kernel) rfl
theorem q926 : Cond.fieldLink RX9 252 RX9 "to" "I" ∈ lw_gd := gd 926 (by decide +kernel) rfl
theorem q927 : Cond.fieldLink RX9 277 RX9 "value" "I" ∈ lw_gd := gd 927 (by decide +kernel) rfl
theorem q928 : Cond.fieldLink RX9 267 RX9 "isWrong" "Z" ∈ lw_gd := gd 928 (by decide +kernel) rfl
theorem q929 : Cond.fieldLink RX9 35 RX9 "bitsOf" "[I" ∈ lw_gd := gd 929 (by decide +kernel) rfl
theorem q930 : Cond.fieldLink RX9 38 RX9 "sizeOf" "[I" ∈ lw_gd := gd 930 (by decide +kernel) rfl
theorem q931 : Cond.fieldLink RX9 41 RX9 "number" "[I" ∈ lw_gd := gd 931 (by decide +kernel) rfl
theorem q932 : Cond.fieldLink RX9 44 RX9 "moved" "[I" ∈ lw_gd := gd 932 (by decide +kernel) rfl
theorem q986 : Cond.methodLink RL 17 yX9_house ∈ lw_gd := gd 986 (by decide +kernel) rfl
theorem q987 : Cond.instanceMethod yX9_house ∈ lw_gd := gd 987 (by decide +kernel) rfl
theorem q988 : Cond.selects RX9 yX9_house yX9_house ∈ lw_gd := gd 988 (by decide +kernel) rfl
theorem q989 : Cond.code yX9_house cX9_house 2 (some .int) ∈ lw_gd := gd 989 (by decide +kernel) rfl
theorem q990 : Cond.constantLong RX9 57 6 ∈ lw_gd := gd 990 (by decide +kernel) rfl
theorem q991 : Cond.methodLink RX9 48 yX9_in ∈ lw_gd := gd 991 (by decide +kernel) rfl
theorem q992 : Cond.static yX9_in ∈ lw_gd := gd 992 (by decide +kernel) rfl
theorem q993 : Cond.code yX9_in cX9_in 6 (some .boolean) ∈ lw_gd := gd 993 (by decide +kernel) rfl
theorem q994 : Cond.constant RX9 47 (-1000001) ∈ lw_gd := gd 994 (by decide +kernel) rfl
theorem q995 : Cond.methodLink RX9 59 yX9_finds ∈ lw_gd := gd 995 (by decide +kernel) rfl
theorem q997 : Cond.instanceMethod yX9_finds ∈ lw_gd := gd 997 (by decide +kernel) rfl
theorem q998 : Cond.code yX9_finds cX9_finds 2 (some .int) ∈ lw_gd := gd 998 (by decide +kernel) rfl
theorem q999 : Cond.constant RX9 63 (-1000002) ∈ lw_gd := gd 999 (by decide +kernel) rfl
theorem q1000 : Cond.methodLink RX9 64 yX9_newHouse ∈ lw_gd := gd 1000 (by decide +kernel) rfl
theorem q1002 : Cond.instanceMethod yX9_newHouse ∈ lw_gd := gd 1002 (by decide +kernel) rfl
theorem q1003 : Cond.code yX9_newHouse cX9_newHouse 7 (some .int) ∈ lw_gd := gd 1003 (by decide +kernel) rfl
theorem q1004 : Cond.methodLink RX9 53 yX9_at ∈ lw_gd := gd 1004 (by decide +kernel) rfl
theorem q1005 : Cond.static yX9_at ∈ lw_gd := gd 1005 (by decide +kernel) rfl
theorem q1006 : Cond.code yX9_at cX9_at 2 (some .int) ∈ lw_gd := gd 1006 (by decide +kernel) rfl
theorem q1007 : Cond.methodLink RL 22 yX9_of ∈ lw_gd := gd 1007 (by decide +kernel) rfl
theorem q1008 : Cond.instanceMethod yX9_of ∈ lw_gd := gd 1008 (by decide +kernel) rfl
theorem q1009 : Cond.selects RX9 yX9_of yX9_of ∈ lw_gd := gd 1009 (by decide +kernel) rfl
theorem q1010 : Cond.code yX9_of cX9_of 3 (some .int) ∈ lw_gd := gd 1010 (by decide +kernel) rfl
theorem q1011 : Cond.methodLink RX9 71 yX9_isHouse ∈ lw_gd := gd 1011 (by decide +kernel) rfl
theorem q1013 : Cond.instanceMethod yX9_isHouse ∈ lw_gd := gd 1013 (by decide +kernel) rfl
theorem q1014 : Cond.code yX9_isHouse cX9_isHouse 2 (some .boolean) ∈ lw_gd := gd 1014 (by decide +kernel) rfl
theorem q1015 : Cond.constantLong RX9 75 8 ∈ lw_gd := gd 1015 (by decide +kernel) rfl
theorem q1016 : Cond.methodLink RX9 68 yX9_its ∈ lw_gd := gd 1016 (by decide +kernel) rfl
theorem q1018 : Cond.instanceMethod yX9_its ∈ lw_gd := gd 1018 (by decide +kernel) rfl
theorem q1019 : Cond.code yX9_its cX9_its 3 (some .int) ∈ lw_gd := gd 1019 (by decide +kernel) rfl
theorem q1020 : Cond.methodLink RX9 77 yX9_heats ∈ lw_gd := gd 1020 (by decide +kernel) rfl
theorem q1022 : Cond.instanceMethod yX9_heats ∈ lw_gd := gd 1022 (by decide +kernel) rfl
theorem q1023 : Cond.code yX9_heats cX9_heats 3 (some .int) ∈ lw_gd := gd 1023 (by decide +kernel) rfl
theorem q1024 : Cond.methodLink RX9 80 yX9_loses ∈ lw_gd := gd 1024 (by decide +kernel) rfl
theorem q1026 : Cond.instanceMethod yX9_loses ∈ lw_gd := gd 1026 (by decide +kernel) rfl
theorem q1027 : Cond.code yX9_loses cX9_loses 4 (some .int) ∈ lw_gd := gd 1027 (by decide +kernel) rfl
theorem q1028 : Cond.methodLink RX9 83 yX9_burns ∈ lw_gd := gd 1028 (by decide +kernel) rfl
theorem q1030 : Cond.instanceMethod yX9_burns ∈ lw_gd := gd 1030 (by decide +kernel) rfl
theorem q1031 : Cond.code yX9_burns cX9_burns 3 (some .int) ∈ lw_gd := gd 1031 (by decide +kernel) rfl
theorem q1032 : Cond.methodLink RL 27 yX9_change ∈ lw_gd := gd 1032 (by decide +kernel) rfl
theorem q1033 : Cond.instanceMethod yX9_change ∈ lw_gd := gd 1033 (by decide +kernel) rfl
theorem q1034 : Cond.selects RX9 yX9_change yX9_change ∈ lw_gd := gd 1034 (by decide +kernel) rfl
theorem q1035 : Cond.code yX9_change cX9_change 5 (some .int) ∈ lw_gd := gd 1035 (by decide +kernel) rfl
theorem q1036 : Cond.methodLink RX9 92 yX9_isPart ∈ lw_gd := gd 1036 (by decide +kernel) rfl
theorem q1037 : Cond.static yX9_isPart ∈ lw_gd := gd 1037 (by decide +kernel) rfl
theorem q1038 : Cond.code yX9_isPart cX9_isPart 2 (some .boolean) ∈ lw_gd := gd 1038 (by decide +kernel) rfl
theorem q1039 : Cond.constantLong RX9 86 40 ∈ lw_gd := gd 1039 (by decide +kernel) rfl
theorem q1040 : Cond.constantLong RX9 88 99 ∈ lw_gd := gd 1040 (by decide +kernel) rfl
theorem q1041 : Cond.constantLong RX9 90 400 ∈ lw_gd := gd 1041 (by decide +kernel) rfl
theorem q1042 : Cond.methodLink RL 31 yX9_steep ∈ lw_gd := gd 1042 (by decide +kernel) rfl
theorem q1043 : Cond.instanceMethod yX9_steep ∈ lw_gd := gd 1043 (by decide +kernel) rfl
theorem q1044 : Cond.selects RX9 yX9_steep yX9_steep ∈ lw_gd := gd 1044 (by decide +kernel) rfl
theorem q1045 : Cond.code yX9_steep cX9_steep 4 (some .int) ∈ lw_gd := gd 1045 (by decide +kernel) rfl
theorem q1046 : Cond.constantLong RX9 96 9 ∈ lw_gd := gd 1046 (by decide +kernel) rfl
theorem q1047 : Cond.methodLink RL 35 yX9_weather ∈ lw_gd := gd 1047 (by decide +kernel) rfl
theorem q1048 : Cond.instanceMethod yX9_weather ∈ lw_gd := gd 1048 (by decide +kernel) rfl
theorem q1049 : Cond.selects RX9 yX9_weather yX9_weather ∈ lw_gd := gd 1049 (by decide +kernel) rfl
theorem q1050 : Cond.code yX9_weather cX9_weather 4 (some .int) ∈ lw_gd := gd 1050 (by decide +kernel) rfl
theorem q1051 : Cond.constantLong RX9 98 100 ∈ lw_gd := gd 1051 (by decide +kernel) rfl
theorem q1052 : Cond.methodLink RL 39 yX9_lend ∈ lw_gd := gd 1052 (by decide +kernel) rfl
theorem q1053 : Cond.instanceMethod yX9_lend ∈ lw_gd := gd 1053 (by decide +kernel) rfl
theorem q1054 : Cond.selects RX9 yX9_lend yX9_lend ∈ lw_gd := gd 1054 (by decide +kernel) rfl
theorem q1055 : Cond.code yX9_lend cX9_lend 4 (some .int) ∈ lw_gd := gd 1055 (by decide +kernel) rfl
theorem q1056 : Cond.constant RX9 100 (-1000005) ∈ lw_gd := gd 1056 (by decide +kernel) rfl
theorem q1057 : Cond.methodLink RL 43 yX9_way ∈ lw_gd := gd 1057 (by decide +kernel) rfl
theorem q1058 : Cond.instanceMethod yX9_way ∈ lw_gd := gd 1058 (by decide +kernel) rfl
theorem q1059 : Cond.selects RX9 yX9_way yX9_way ∈ lw_gd := gd 1059 (by decide +kernel) rfl
theorem q1060 : Cond.code yX9_way cX9_way 3 (some .int) ∈ lw_gd := gd 1060 (by decide +kernel) rfl
theorem q1061 : Cond.methodLink RX9 101 yX9_wayOf ∈ lw_gd := gd 1061 (by decide +kernel) rfl
theorem q1063 : Cond.instanceMethod yX9_wayOf ∈ lw_gd := gd 1063 (by decide +kernel) rfl
theorem q1064 : Cond.code yX9_wayOf cX9_wayOf 7 (some .int) ∈ lw_gd := gd 1064 (by decide +kernel) rfl
theorem q1065 : Cond.methodLink RL 47 yX9_send ∈ lw_gd := gd 1065 (by decide +kernel) rfl
theorem q1066 : Cond.instanceMethod yX9_send ∈ lw_gd := gd 1066 (by decide +kernel) rfl
theorem q1067 : Cond.selects RX9 yX9_send yX9_send ∈ lw_gd := gd 1067 (by decide +kernel) rfl
theorem q1068 : Cond.code yX9_send cX9_send 2 (some .int) ∈ lw_gd := gd 1068 (by decide +kernel) rfl
theorem q1069 : Cond.methodLink RX9 104 yX9_isGoing ∈ lw_gd := gd 1069 (by decide +kernel) rfl
theorem q1071 : Cond.instanceMethod yX9_isGoing ∈ lw_gd := gd 1071 (by decide +kernel) rfl
theorem q1072 : Cond.code yX9_isGoing cX9_isGoing 1 (some .boolean) ∈ lw_gd := gd 1072 (by decide +kernel) rfl
theorem q1073 : Cond.methodLink RX9 108 yX9_sends ∈ lw_gd := gd 1073 (by decide +kernel) rfl
theorem q1075 : Cond.instanceMethod yX9_sends ∈ lw_gd := gd 1075 (by decide +kernel) rfl
theorem q1076 : Cond.code yX9_sends cX9_sends 2 none ∈ lw_gd := gd 1076 (by decide +kernel) rfl
theorem q1077 : Cond.methodLink RL 51 yX9_quarters ∈ lw_gd := gd 1077 (by decide +kernel) rfl
theorem q1078 : Cond.instanceMethod yX9_quarters ∈ lw_gd := gd 1078 (by decide +kernel) rfl
theorem q1079 : Cond.selects RX9 yX9_quarters yX9_quarters ∈ lw_gd := gd 1079 (by decide +kernel) rfl
theorem q1080 : Cond.code yX9_quarters cX9_quarters 3 (some .int) ∈ lw_gd := gd 1080 (by decide +kernel) rfl
theorem q1081 : Cond.constantLong RX9 126 96 ∈ lw_gd := gd 1081 (by decide +kernel) rfl
theorem q1082 : Cond.methodLink RX9 128 yX9_isTooLate ∈ lw_gd := gd 1082 (by decide +kernel) rfl
theorem q1084 : Cond.instanceMethod yX9_isTooLate ∈ lw_gd := gd 1084 (by decide +kernel) rfl
theorem q1085 : Cond.code yX9_isTooLate cX9_isTooLate 2 (some .boolean) ∈ lw_gd := gd 1085 (by decide +kernel) rfl
theorem q1086 : Cond.methodLink RX9 131 yX9_sumOf ∈ lw_gd := gd 1086 (by decide +kernel) rfl
theorem q1088 : Cond.instanceMethod yX9_sumOf ∈ lw_gd := gd 1088 (by decide +kernel) rfl
theorem q1089 : Cond.code yX9_sumOf cX9_sumOf 4 (some .int) ∈ lw_gd := gd 1089 (by decide +kernel) rfl
theorem q1090 : Cond.methodLink RX9 134 yX9_quartersGo ∈ lw_gd := gd 1090 (by decide +kernel) rfl
theorem q1092 : Cond.instanceMethod yX9_quartersGo ∈ lw_gd := gd 1092 (by decide +kernel) rfl
theorem q1093 : Cond.code yX9_quartersGo cX9_quartersGo 3 none ∈ lw_gd := gd 1093 (by decide +kernel) rfl
theorem q1094 : Cond.methodLink RX9 123 yX9_quarter ∈ lw_gd := gd 1094 (by decide +kernel) rfl
theorem q1096 : Cond.instanceMethod yX9_quarter ∈ lw_gd := gd 1096 (by decide +kernel) rfl
theorem q1097 : Cond.code yX9_quarter cX9_quarter 5 none ∈ lw_gd := gd 1097 (by decide +kernel) rfl
theorem q1098 : Cond.methodLink RX9 112 yX9_warms ∈ lw_gd := gd 1098 (by decide +kernel) rfl
theorem q1100 : Cond.instanceMethod yX9_warms ∈ lw_gd := gd 1100 (by decide +kernel) rfl
theorem q1101 : Cond.code yX9_warms cX9_warms 4 none ∈ lw_gd := gd 1101 (by decide +kernel) rfl
theorem q1102 : Cond.methodLink RX9 120 yX9_getsOf ∈ lw_gd := gd 1102 (by decide +kernel) rfl
theorem q1104 : Cond.instanceMethod yX9_getsOf ∈ lw_gd := gd 1104 (by decide +kernel) rfl
theorem q1105 : Cond.code yX9_getsOf cX9_getsOf 3 none ∈ lw_gd := gd 1105 (by decide +kernel) rfl
theorem q1106 : Cond.methodLink RL 55 yX9_now ∈ lw_gd := gd 1106 (by decide +kernel) rfl
theorem q1107 : Cond.instanceMethod yX9_now ∈ lw_gd := gd 1107 (by decide +kernel) rfl
theorem q1108 : Cond.selects RX9 yX9_now yX9_now ∈ lw_gd := gd 1108 (by decide +kernel) rfl
theorem q1109 : Cond.code yX9_now cX9_now 2 (some .int) ∈ lw_gd := gd 1109 (by decide +kernel) rfl
theorem q1110 : Cond.methodLink RX9 140 yX9_coldSet ∈ lw_gd := gd 1110 (by decide +kernel) rfl
theorem q1112 : Cond.instanceMethod yX9_coldSet ∈ lw_gd := gd 1112 (by decide +kernel) rfl
theorem q1113 : Cond.code yX9_coldSet cX9_coldSet 3 (some .int) ∈ lw_gd := gd 1113 (by decide +kernel) rfl
theorem q1114 : Cond.methodLink RX9 137 yX9_isCold ∈ lw_gd := gd 1114 (by decide +kernel) rfl
theorem q1116 : Cond.instanceMethod yX9_isCold ∈ lw_gd := gd 1116 (by decide +kernel) rfl
theorem q1117 : Cond.code yX9_isCold cX9_isCold 2 (some .boolean) ∈ lw_gd := gd 1117 (by decide +kernel) rfl
theorem q1118 : Cond.methodLink RL 59 yX9_ahead ∈ lw_gd := gd 1118 (by decide +kernel) rfl
theorem q1119 : Cond.instanceMethod yX9_ahead ∈ lw_gd := gd 1119 (by decide +kernel) rfl
theorem q1120 : Cond.selects RX9 yX9_ahead yX9_ahead ∈ lw_gd := gd 1120 (by decide +kernel) rfl
theorem q1121 : Cond.code yX9_ahead cX9_ahead 5 (some .int) ∈ lw_gd := gd 1121 (by decide +kernel) rfl
theorem q1122 : Cond.methodLink RX9 144 yX9_saves ∈ lw_gd := gd 1122 (by decide +kernel) rfl
theorem q1124 : Cond.instanceMethod yX9_saves ∈ lw_gd := gd 1124 (by decide +kernel) rfl
theorem q1125 : Cond.code yX9_saves cX9_saves 2 none ∈ lw_gd := gd 1125 (by decide +kernel) rfl
theorem q1126 : Cond.methodLink RX9 147 yX9_leastWarmth ∈ lw_gd := gd 1126 (by decide +kernel) rfl
theorem q1128 : Cond.instanceMethod yX9_leastWarmth ∈ lw_gd := gd 1128 (by decide +kernel) rfl
theorem q1129 : Cond.code yX9_leastWarmth cX9_leastWarmth 3 (some .int) ∈ lw_gd := gd 1129 (by decide +kernel) rfl
theorem q1130 : Cond.methodLink RX9 150 yX9_putsBack ∈ lw_gd := gd 1130 (by decide +kernel) rfl
theorem q1132 : Cond.instanceMethod yX9_putsBack ∈ lw_gd := gd 1132 (by decide +kernel) rfl
theorem q1133 : Cond.code yX9_putsBack cX9_putsBack 2 none ∈ lw_gd := gd 1133 (by decide +kernel) rfl
theorem q1134 : Cond.methodLink RL 63 yX9_cold ∈ lw_gd := gd 1134 (by decide +kernel) rfl
theorem q1135 : Cond.instanceMethod yX9_cold ∈ lw_gd := gd 1135 (by decide +kernel) rfl
theorem q1136 : Cond.selects RX9 yX9_cold yX9_cold ∈ lw_gd := gd 1136 (by decide +kernel) rfl
theorem q1137 : Cond.code yX9_cold cX9_cold 3 (some .int) ∈ lw_gd := gd 1137 (by decide +kernel) rfl
theorem q1138 : Cond.constant RX9 153 (-1000004) ∈ lw_gd := gd 1138 (by decide +kernel) rfl
theorem q1139 : Cond.methodLink RL 67 yX9_bake ∈ lw_gd := gd 1139 (by decide +kernel) rfl
theorem q1140 : Cond.instanceMethod yX9_bake ∈ lw_gd := gd 1140 (by decide +kernel) rfl
theorem q1141 : Cond.selects RX9 yX9_bake yX9_bake ∈ lw_gd := gd 1141 (by decide +kernel) rfl
theorem q1142 : Cond.code yX9_bake cX9_bake 3 (some .int) ∈ lw_gd := gd 1142 (by decide +kernel) rfl
theorem q1143 : Cond.methodLink RL 71 yX9_best ∈ lw_gd := gd 1143 (by decide +kernel) rfl
theorem q1144 : Cond.instanceMethod yX9_best ∈ lw_gd := gd 1144 (by decide +kernel) rfl
theorem q1145 : Cond.selects RX9 yX9_best yX9_best ∈ lw_gd := gd 1145 (by decide +kernel) rfl
theorem q1146 : Cond.code yX9_best cX9_best 6 (some .int) ∈ lw_gd := gd 1146 (by decide +kernel) rfl
theorem q1147 : Cond.methodLink RX9 154 yX9_isSpan ∈ lw_gd := gd 1147 (by decide +kernel) rfl
theorem q1148 : Cond.static yX9_isSpan ∈ lw_gd := gd 1148 (by decide +kernel) rfl
theorem q1149 : Cond.code yX9_isSpan cX9_isSpan 1 (some .boolean) ∈ lw_gd := gd 1149 (by decide +kernel) rfl
theorem q1150 : Cond.methodLink RX9 157 yX9_isFixed ∈ lw_gd := gd 1150 (by decide +kernel) rfl
theorem q1152 : Cond.instanceMethod yX9_isFixed ∈ lw_gd := gd 1152 (by decide +kernel) rfl
theorem q1153 : Cond.code yX9_isFixed cX9_isFixed 2 (some .boolean) ∈ lw_gd := gd 1153 (by decide +kernel) rfl
theorem q1154 : Cond.methodLink RL 75 yX9_lost ∈ lw_gd := gd 1154 (by decide +kernel) rfl
theorem q1155 : Cond.instanceMethod yX9_lost ∈ lw_gd := gd 1155 (by decide +kernel) rfl
theorem q1156 : Cond.selects RX9 yX9_lost yX9_lost ∈ lw_gd := gd 1156 (by decide +kernel) rfl
theorem q1157 : Cond.code yX9_lost cX9_lost 4 (some .int) ∈ lw_gd := gd 1157 (by decide +kernel) rfl
theorem q1158 : Cond.methodLink RL 79 yX9_stay ∈ lw_gd := gd 1158 (by decide +kernel) rfl
theorem q1159 : Cond.instanceMethod yX9_stay ∈ lw_gd := gd 1159 (by decide +kernel) rfl
theorem q1160 : Cond.selects RX9 yX9_stay yX9_stay ∈ lw_gd := gd 1160 (by decide +kernel) rfl
theorem q1161 : Cond.code yX9_stay cX9_stay 5 (some .int) ∈ lw_gd := gd 1161 (by decide +kernel) rfl
theorem q1162 : Cond.methodLink RX9 160 yX9_isAbove ∈ lw_gd := gd 1162 (by decide +kernel) rfl
theorem q1164 : Cond.instanceMethod yX9_isAbove ∈ lw_gd := gd 1164 (by decide +kernel) rfl
theorem q1165 : Cond.code yX9_isAbove cX9_isAbove 2 (some .boolean) ∈ lw_gd := gd 1165 (by decide +kernel) rfl
theorem q1166 : Cond.methodLink RL 83 yX9_logs ∈ lw_gd := gd 1166 (by decide +kernel) rfl
theorem q1167 : Cond.instanceMethod yX9_logs ∈ lw_gd := gd 1167 (by decide +kernel) rfl
theorem q1168 : Cond.selects RX9 yX9_logs yX9_logs ∈ lw_gd := gd 1168 (by decide +kernel) rfl
theorem q1169 : Cond.code yX9_logs cX9_logs 3 (some .int) ∈ lw_gd := gd 1169 (by decide +kernel) rfl
theorem q1170 : Cond.methodLink RX9 163 yX9_leastPart ∈ lw_gd := gd 1170 (by decide +kernel) rfl
theorem q1172 : Cond.instanceMethod yX9_leastPart ∈ lw_gd := gd 1172 (by decide +kernel) rfl
theorem q1173 : Cond.code yX9_leastPart cX9_leastPart 8 (some .int) ∈ lw_gd := gd 1173 (by decide +kernel) rfl
theorem q1174 : Cond.methodLink RL 87 yX9_wall ∈ lw_gd := gd 1174 (by decide +kernel) rfl
theorem q1175 : Cond.instanceMethod yX9_wall ∈ lw_gd := gd 1175 (by decide +kernel) rfl
theorem q1176 : Cond.selects RX9 yX9_wall yX9_wall ∈ lw_gd := gd 1176 (by decide +kernel) rfl
theorem q1177 : Cond.code yX9_wall cX9_wall 3 (some .int) ∈ lw_gd := gd 1177 (by decide +kernel) rfl
theorem q1178 : Cond.methodLink RL 91 yX9_straw ∈ lw_gd := gd 1178 (by decide +kernel) rfl
theorem q1179 : Cond.instanceMethod yX9_straw ∈ lw_gd := gd 1179 (by decide +kernel) rfl
theorem q1180 : Cond.selects RX9 yX9_straw yX9_straw ∈ lw_gd := gd 1180 (by decide +kernel) rfl
theorem q1181 : Cond.code yX9_straw cX9_straw 7 (some .int) ∈ lw_gd := gd 1181 (by decide +kernel) rfl
theorem q1182 : Cond.methodLink RL 95 yX9_kindFor ∈ lw_gd := gd 1182 (by decide +kernel) rfl
theorem q1183 : Cond.instanceMethod yX9_kindFor ∈ lw_gd := gd 1183 (by decide +kernel) rfl
theorem q1184 : Cond.selects RX9 yX9_kindFor yX9_kindFor ∈ lw_gd := gd 1184 (by decide +kernel) rfl
theorem q1185 : Cond.code yX9_kindFor cX9_kindFor 7 (some .int) ∈ lw_gd := gd 1185 (by decide +kernel) rfl
theorem q1186 : Cond.methodLink RL 99 yX9_round ∈ lw_gd := gd 1186 (by decide +kernel) rfl
theorem q1187 : Cond.instanceMethod yX9_round ∈ lw_gd := gd 1187 (by decide +kernel) rfl
theorem q1188 : Cond.selects RX9 yX9_round yX9_round ∈ lw_gd := gd 1188 (by decide +kernel) rfl
theorem q1189 : Cond.code yX9_round cX9_round 2 (some .int) ∈ lw_gd := gd 1189 (by decide +kernel) rfl
theorem q1190 : Cond.methodLink RX9 221 yX9_isStay ∈ lw_gd := gd 1190 (by decide +kernel) rfl
theorem q1191 : Cond.static yX9_isStay ∈ lw_gd := gd 1191 (by decide +kernel) rfl
theorem q1192 : Cond.code yX9_isStay cX9_isStay 1 (some .boolean) ∈ lw_gd := gd 1192 (by decide +kernel) rfl
theorem q1193 : Cond.constantLong RX9 216 12 ∈ lw_gd := gd 1193 (by decide +kernel) rfl
theorem q1194 : Cond.methodLink RX9 224 yX9_isBarred ∈ lw_gd := gd 1194 (by decide +kernel) rfl
theorem q1196 : Cond.instanceMethod yX9_isBarred ∈ lw_gd := gd 1196 (by decide +kernel) rfl
theorem q1197 : Cond.code yX9_isBarred cX9_isBarred 1 (some .boolean) ∈ lw_gd := gd 1197 (by decide +kernel) rfl
theorem q1198 : Cond.methodLink RX9 227 yX9_leastRound ∈ lw_gd := gd 1198 (by decide +kernel) rfl
theorem q1200 : Cond.instanceMethod yX9_leastRound ∈ lw_gd := gd 1200 (by decide +kernel) rfl
theorem q1201 : Cond.code yX9_leastRound cX9_leastRound 2 (some .int) ∈ lw_gd := gd 1201 (by decide +kernel) rfl
theorem q1202 : Cond.methodLink RX9 218 yX9_goesRound ∈ lw_gd := gd 1202 (by decide +kernel) rfl
theorem q1204 : Cond.instanceMethod yX9_goesRound ∈ lw_gd := gd 1204 (by decide +kernel) rfl
theorem q1205 : Cond.code yX9_goesRound cX9_goesRound 3 none ∈ lw_gd := gd 1205 (by decide +kernel) rfl
theorem q1206 : Cond.methodLink RX9 181 yX9_begins ∈ lw_gd := gd 1206 (by decide +kernel) rfl
theorem q1208 : Cond.instanceMethod yX9_begins ∈ lw_gd := gd 1208 (by decide +kernel) rfl
theorem q1209 : Cond.code yX9_begins cX9_begins 1 none ∈ lw_gd := gd 1209 (by decide +kernel) rfl
theorem q1210 : Cond.methodLink RX9 184 yX9_visits ∈ lw_gd := gd 1210 (by decide +kernel) rfl
theorem q1212 : Cond.instanceMethod yX9_visits ∈ lw_gd := gd 1212 (by decide +kernel) rfl
theorem q1213 : Cond.code yX9_visits cX9_visits 3 none ∈ lw_gd := gd 1213 (by decide +kernel) rfl
theorem q1214 : Cond.methodLink RX9 178 yX9_watches ∈ lw_gd := gd 1214 (by decide +kernel) rfl
theorem q1216 : Cond.instanceMethod yX9_watches ∈ lw_gd := gd 1216 (by decide +kernel) rfl
theorem q1217 : Cond.code yX9_watches cX9_watches 4 none ∈ lw_gd := gd 1217 (by decide +kernel) rfl
theorem q1218 : Cond.methodLink RX9 172 yX9_isDone ∈ lw_gd := gd 1218 (by decide +kernel) rfl
theorem q1220 : Cond.instanceMethod yX9_isDone ∈ lw_gd := gd 1220 (by decide +kernel) rfl
theorem q1221 : Cond.code yX9_isDone cX9_isDone 1 (some .boolean) ∈ lw_gd := gd 1221 (by decide +kernel) rfl
theorem q1222 : Cond.methodLink RL 103 yX9_takes ∈ lw_gd := gd 1222 (by decide +kernel) rfl
theorem q1223 : Cond.instanceMethod yX9_takes ∈ lw_gd := gd 1223 (by decide +kernel) rfl
theorem q1224 : Cond.selects RX9 yX9_takes yX9_takes ∈ lw_gd := gd 1224 (by decide +kernel) rfl
theorem q1225 : Cond.code yX9_takes cX9_takes 3 (some .int) ∈ lw_gd := gd 1225 (by decide +kernel) rfl
theorem q1226 : Cond.methodLink RL 107 yX9_three ∈ lw_gd := gd 1226 (by decide +kernel) rfl
theorem q1227 : Cond.instanceMethod yX9_three ∈ lw_gd := gd 1227 (by decide +kernel) rfl
theorem q1228 : Cond.selects RX9 yX9_three yX9_three ∈ lw_gd := gd 1228 (by decide +kernel) rfl
theorem q1229 : Cond.code yX9_three cX9_three 2 (some .int) ∈ lw_gd := gd 1229 (by decide +kernel) rfl
theorem q1230 : Cond.methodLink RX9 230 yX9_threes ∈ lw_gd := gd 1230 (by decide +kernel) rfl
theorem q1232 : Cond.instanceMethod yX9_threes ∈ lw_gd := gd 1232 (by decide +kernel) rfl
theorem q1233 : Cond.code yX9_threes cX9_threes 5 none ∈ lw_gd := gd 1233 (by decide +kernel) rfl
theorem q1234 : Cond.methodLink RX9 213 yX9_seconds ∈ lw_gd := gd 1234 (by decide +kernel) rfl
theorem q1236 : Cond.instanceMethod yX9_seconds ∈ lw_gd := gd 1236 (by decide +kernel) rfl
theorem q1237 : Cond.code yX9_seconds cX9_seconds 6 none ∈ lw_gd := gd 1237 (by decide +kernel) rfl
theorem q1238 : Cond.methodLink RX9 199 yX9_stands ∈ lw_gd := gd 1238 (by decide +kernel) rfl
theorem q1240 : Cond.instanceMethod yX9_stands ∈ lw_gd := gd 1240 (by decide +kernel) rfl
theorem q1241 : Cond.code yX9_stands cX9_stands 3 none ∈ lw_gd := gd 1241 (by decide +kernel) rfl
theorem q1242 : Cond.methodLink RX9 209 yX9_thirds ∈ lw_gd := gd 1242 (by decide +kernel) rfl
theorem q1244 : Cond.instanceMethod yX9_thirds ∈ lw_gd := gd 1244 (by decide +kernel) rfl
theorem q1245 : Cond.code yX9_thirds cX9_thirds 6 none ∈ lw_gd := gd 1245 (by decide +kernel) rfl
theorem q1246 : Cond.methodLink RX9 202 yX9_ended ∈ lw_gd := gd 1246 (by decide +kernel) rfl
theorem q1248 : Cond.instanceMethod yX9_ended ∈ lw_gd := gd 1248 (by decide +kernel) rfl
theorem q1249 : Cond.code yX9_ended cX9_ended 6 none ∈ lw_gd := gd 1249 (by decide +kernel) rfl
theorem q1250 : Cond.methodLink RX9 206 yX9_standsAgain ∈ lw_gd := gd 1250 (by decide +kernel) rfl
theorem q1252 : Cond.instanceMethod yX9_standsAgain ∈ lw_gd := gd 1252 (by decide +kernel) rfl
theorem q1253 : Cond.code yX9_standsAgain cX9_standsAgain 3 none ∈ lw_gd := gd 1253 (by decide +kernel) rfl
theorem q1254 : Cond.methodLink RL 111 yX9_least ∈ lw_gd := gd 1254 (by decide +kernel) rfl
theorem q1255 : Cond.instanceMethod yX9_least ∈ lw_gd := gd 1255 (by decide +kernel) rfl
theorem q1256 : Cond.selects RX9 yX9_least yX9_least ∈ lw_gd := gd 1256 (by decide +kernel) rfl
theorem q1257 : Cond.code yX9_least cX9_least 2 (some .int) ∈ lw_gd := gd 1257 (by decide +kernel) rfl
theorem q1258 : Cond.methodLink RL 116 yX9_pace ∈ lw_gd := gd 1258 (by decide +kernel) rfl
theorem q1259 : Cond.instanceMethod yX9_pace ∈ lw_gd := gd 1259 (by decide +kernel) rfl
theorem q1260 : Cond.selects RX9 yX9_pace yX9_pace ∈ lw_gd := gd 1260 (by decide +kernel) rfl
theorem q1261 : Cond.code yX9_pace cX9_pace 5 (some .int) ∈ lw_gd := gd 1261 (by decide +kernel) rfl
theorem q1262 : Cond.methodLink RL 120 yX9_thrift ∈ lw_gd := gd 1262 (by decide +kernel) rfl
theorem q1263 : Cond.instanceMethod yX9_thrift ∈ lw_gd := gd 1263 (by decide +kernel) rfl
theorem q1264 : Cond.selects RX9 yX9_thrift yX9_thrift ∈ lw_gd := gd 1264 (by decide +kernel) rfl
theorem q1265 : Cond.code yX9_thrift cX9_thrift 2 (some .int) ∈ lw_gd := gd 1265 (by decide +kernel) rfl
theorem q1266 : Cond.methodLink RL 124 yX9_middle ∈ lw_gd := gd 1266 (by decide +kernel) rfl
theorem q1267 : Cond.instanceMethod yX9_middle ∈ lw_gd := gd 1267 (by decide +kernel) rfl
theorem q1268 : Cond.selects RX9 yX9_middle yX9_middle ∈ lw_gd := gd 1268 (by decide +kernel) rfl
theorem q1269 : Cond.code yX9_middle cX9_middle 6 (some .int) ∈ lw_gd := gd 1269 (by decide +kernel) rfl
theorem q1270 : Cond.methodLink RL 128 yX9_calls ∈ lw_gd := gd 1270 (by decide +kernel) rfl
theorem q1271 : Cond.instanceMethod yX9_calls ∈ lw_gd := gd 1271 (by decide +kernel) rfl
theorem q1272 : Cond.selects RX9 yX9_calls yX9_calls ∈ lw_gd := gd 1272 (by decide +kernel) rfl
theorem q1273 : Cond.code yX9_calls cX9_calls 3 (some .int) ∈ lw_gd := gd 1273 (by decide +kernel) rfl
theorem q1274 : Cond.methodLink RX9 233 yX9_draw ∈ lw_gd := gd 1274 (by decide +kernel) rfl
theorem q1276 : Cond.instanceMethod yX9_draw ∈ lw_gd := gd 1276 (by decide +kernel) rfl
theorem q1277 : Cond.code yX9_draw cX9_draw 1 (some .int) ∈ lw_gd := gd 1277 (by decide +kernel) rfl
theorem q1278 : Cond.constant RX9 52 1103515245 ∈ lw_gd := gd 1278 (by decide +kernel) rfl
theorem q1279 : Cond.methodLink RX9 236 yX9_ones ∈ lw_gd := gd 1279 (by decide +kernel) rfl
theorem q1280 : Cond.static yX9_ones ∈ lw_gd := gd 1280 (by decide +kernel) rfl
theorem q1281 : Cond.code yX9_ones cX9_ones 3 (some .int) ∈ lw_gd := gd 1281 (by decide +kernel) rfl
theorem q1282 : Cond.methodLink RL 132 yX9_seed ∈ lw_gd := gd 1282 (by decide +kernel) rfl
theorem q1283 : Cond.instanceMethod yX9_seed ∈ lw_gd := gd 1283 (by decide +kernel) rfl
theorem q1284 : Cond.selects RX9 yX9_seed yX9_seed ∈ lw_gd := gd 1284 (by decide +kernel) rfl
theorem q1285 : Cond.code yX9_seed cX9_seed 3 (some .int) ∈ lw_gd := gd 1285 (by decide +kernel) rfl
theorem q1286 : Cond.methodLink RL 136 yX9_feed ∈ lw_gd := gd 1286 (by decide +kernel) rfl
theorem q1287 : Cond.instanceMethod yX9_feed ∈ lw_gd := gd 1287 (by decide +kernel) rfl
theorem q1288 : Cond.selects RX9 yX9_feed yX9_feed ∈ lw_gd := gd 1288 (by decide +kernel) rfl
theorem q1289 : Cond.code yX9_feed cX9_feed 4 (some .int) ∈ lw_gd := gd 1289 (by decide +kernel) rfl
theorem q1290 : Cond.constantLong RX9 239 4 ∈ lw_gd := gd 1290 (by decide +kernel) rfl
theorem q1291 : Cond.methodLink RL 140 yX9_wipe ∈ lw_gd := gd 1291 (by decide +kernel) rfl
theorem q1292 : Cond.instanceMethod yX9_wipe ∈ lw_gd := gd 1292 (by decide +kernel) rfl
theorem q1293 : Cond.selects RX9 yX9_wipe yX9_wipe ∈ lw_gd := gd 1293 (by decide +kernel) rfl
theorem q1294 : Cond.code yX9_wipe cX9_wipe 2 (some .int) ∈ lw_gd := gd 1294 (by decide +kernel) rfl
theorem q1295 : Cond.methodLink RL 144 yX9_text ∈ lw_gd := gd 1295 (by decide +kernel) rfl
theorem q1296 : Cond.instanceMethod yX9_text ∈ lw_gd := gd 1296 (by decide +kernel) rfl
theorem q1297 : Cond.selects RX9 yX9_text yX9_text ∈ lw_gd := gd 1297 (by decide +kernel) rfl
theorem q1298 : Cond.code yX9_text cX9_text 2 (some .int) ∈ lw_gd := gd 1298 (by decide +kernel) rfl
theorem q1299 : Cond.methodLink RX9 270 yX9_token ∈ lw_gd := gd 1299 (by decide +kernel) rfl
theorem q1301 : Cond.instanceMethod yX9_token ∈ lw_gd := gd 1301 (by decide +kernel) rfl
theorem q1302 : Cond.code yX9_token cX9_token 3 none ∈ lw_gd := gd 1302 (by decide +kernel) rfl
theorem q1303 : Cond.methodLink RX9 258 yX9_byteAt ∈ lw_gd := gd 1303 (by decide +kernel) rfl
theorem q1305 : Cond.instanceMethod yX9_byteAt ∈ lw_gd := gd 1305 (by decide +kernel) rfl
theorem q1306 : Cond.code yX9_byteAt cX9_byteAt 2 (some .int) ∈ lw_gd := gd 1306 (by decide +kernel) rfl
theorem q1307 : Cond.methodLink RX9 261 yX9_isLetter ∈ lw_gd := gd 1307 (by decide +kernel) rfl
theorem q1308 : Cond.static yX9_isLetter ∈ lw_gd := gd 1308 (by decide +kernel) rfl
theorem q1309 : Cond.code yX9_isLetter cX9_isLetter 1 (some .boolean) ∈ lw_gd := gd 1309 (by decide +kernel) rfl
theorem q1310 : Cond.constantLong RX9 244 97 ∈ lw_gd := gd 1310 (by decide +kernel) rfl
theorem q1311 : Cond.constantLong RX9 246 122 ∈ lw_gd := gd 1311 (by decide +kernel) rfl
theorem q1312 : Cond.methodLink RX9 264 yX9_isDigit ∈ lw_gd := gd 1312 (by decide +kernel) rfl
theorem q1313 : Cond.static yX9_isDigit ∈ lw_gd := gd 1313 (by decide +kernel) rfl
theorem q1314 : Cond.code yX9_isDigit cX9_isDigit 1 (some .boolean) ∈ lw_gd := gd 1314 (by decide +kernel) rfl
theorem q1315 : Cond.constantLong RX9 248 48 ∈ lw_gd := gd 1315 (by decide +kernel) rfl
theorem q1316 : Cond.constantLong RX9 250 57 ∈ lw_gd := gd 1316 (by decide +kernel) rfl
theorem q1317 : Cond.methodLink RX9 333 yX9_item ∈ lw_gd := gd 1317 (by decide +kernel) rfl
theorem q1319 : Cond.instanceMethod yX9_item ∈ lw_gd := gd 1319 (by decide +kernel) rfl
theorem q1320 : Cond.code yX9_item cX9_item 3 none ∈ lw_gd := gd 1320 (by decide +kernel) rfl
theorem q1321 : Cond.methodLink RX9 316 yX9_kindHere ∈ lw_gd := gd 1321 (by decide +kernel) rfl
theorem q1323 : Cond.instanceMethod yX9_kindHere ∈ lw_gd := gd 1323 (by decide +kernel) rfl
theorem q1324 : Cond.code yX9_kindHere cX9_kindHere 3 (some .int) ∈ lw_gd := gd 1324 (by decide +kernel) rfl
theorem q1325 : Cond.methodLink RX9 284 yX9_word ∈ lw_gd := gd 1325 (by decide +kernel) rfl
theorem q1327 : Cond.instanceMethod yX9_word ∈ lw_gd := gd 1327 (by decide +kernel) rfl
theorem q1328 : Cond.code yX9_word cX9_word 4 (some .long) ∈ lw_gd := gd 1328 (by decide +kernel) rfl
theorem q1329 : Cond.constantLong RX9 273 36028797018963967 ∈ lw_gd := gd 1329 (by decide +kernel) rfl
theorem q1330 : Cond.constantLong RX9 275 32 ∈ lw_gd := gd 1330 (by decide +kernel) rfl
theorem q1331 : Cond.constantLong RX9 288 8902245 ∈ lw_gd := gd 1331 (by decide +kernel) rfl
theorem q1332 : Cond.constantLong RX9 290 351582372 ∈ lw_gd := gd 1332 (by decide +kernel) rfl
theorem q1333 : Cond.constantLong RX9 292 156822119065 ∈ lw_gd := gd 1333 (by decide +kernel) rfl
theorem q1334 : Cond.constantLong RX9 294 136368 ∈ lw_gd := gd 1334 (by decide +kernel) rfl
theorem q1335 : Cond.constantLong RX9 296 5685913 ∈ lw_gd := gd 1335 (by decide +kernel) rfl
theorem q1336 : Cond.constantLong RX9 298 17383076 ∈ lw_gd := gd 1336 (by decide +kernel) rfl
theorem q1337 : Cond.constantLong RX9 300 651481369 ∈ lw_gd := gd 1337 (by decide +kernel) rfl
theorem q1338 : Cond.methodLink RX9 319 yX9_houseItem ∈ lw_gd := gd 1338 (by decide +kernel) rfl
theorem q1340 : Cond.instanceMethod yX9_houseItem ∈ lw_gd := gd 1340 (by decide +kernel) rfl
theorem q1341 : Cond.code yX9_houseItem cX9_houseItem 7 none ∈ lw_gd := gd 1341 (by decide +kernel) rfl
theorem q1342 : Cond.methodLink RX9 280 yX9_needs ∈ lw_gd := gd 1342 (by decide +kernel) rfl
theorem q1344 : Cond.instanceMethod yX9_needs ∈ lw_gd := gd 1344 (by decide +kernel) rfl
theorem q1345 : Cond.code yX9_needs cX9_needs 2 none ∈ lw_gd := gd 1345 (by decide +kernel) rfl
theorem q1346 : Cond.constantLong RX9 304 755277 ∈ lw_gd := gd 1346 (by decide +kernel) rfl
theorem q1347 : Cond.methodLink RX9 306 yX9_perhaps ∈ lw_gd := gd 1347 (by decide +kernel) rfl
theorem q1349 : Cond.instanceMethod yX9_perhaps ∈ lw_gd := gd 1349 (by decide +kernel) rfl
theorem q1350 : Cond.code yX9_perhaps cX9_perhaps 5 (some .int) ∈ lw_gd := gd 1350 (by decide +kernel) rfl
theorem q1351 : Cond.methodLink RX9 302 yX9_number ∈ lw_gd := gd 1351 (by decide +kernel) rfl
theorem q1353 : Cond.instanceMethod yX9_number ∈ lw_gd := gd 1353 (by decide +kernel) rfl
theorem q1354 : Cond.code yX9_number cX9_number 6 none ∈ lw_gd := gd 1354 (by decide +kernel) rfl
theorem q1355 : Cond.constantLong RX9 310 755084 ∈ lw_gd := gd 1355 (by decide +kernel) rfl
theorem q1356 : Cond.constantLong RX9 312 408819 ∈ lw_gd := gd 1356 (by decide +kernel) rfl
theorem q1357 : Cond.constantLong RX9 314 2610628 ∈ lw_gd := gd 1357 (by decide +kernel) rfl
theorem q1358 : Cond.constantLong RX9 322 20583600 ∈ lw_gd := gd 1358 (by decide +kernel) rfl
theorem q1359 : Cond.methodLink RX9 324 yX9_steepItem ∈ lw_gd := gd 1359 (by decide +kernel) rfl
theorem q1361 : Cond.instanceMethod yX9_steepItem ∈ lw_gd := gd 1361 (by decide +kernel) rfl
theorem q1362 : Cond.code yX9_steepItem cX9_steepItem 2 none ∈ lw_gd := gd 1362 (by decide +kernel) rfl
theorem q1363 : Cond.constantLong RX9 327 16052 ∈ lw_gd := gd 1363 (by decide +kernel) rfl
theorem q1364 : Cond.constantLong RX9 329 9317 ∈ lw_gd := gd 1364 (by decide +kernel) rfl
theorem q1365 : Cond.constantLong RX9 331 663607 ∈ lw_gd := gd 1365 (by decide +kernel) rfl
theorem q1366 : Cond.methodLink RL 148 yX9_hold ∈ lw_gd := gd 1366 (by decide +kernel) rfl
theorem q1367 : Cond.instanceMethod yX9_hold ∈ lw_gd := gd 1367 (by decide +kernel) rfl
theorem q1368 : Cond.selects RX9 yX9_hold yX9_hold ∈ lw_gd := gd 1368 (by decide +kernel) rfl
theorem q1369 : Cond.code yX9_hold cX9_hold 3 (some .int) ∈ lw_gd := gd 1369 (by decide +kernel) rfl
theorem q1370 : Cond.methodLink RL 152 yX9_as ∈ lw_gd := gd 1370 (by decide +kernel) rfl
theorem q1371 : Cond.instanceMethod yX9_as ∈ lw_gd := gd 1371 (by decide +kernel) rfl
theorem q1372 : Cond.selects RX9 yX9_as yX9_as ∈ lw_gd := gd 1372 (by decide +kernel) rfl
theorem q1373 : Cond.code yX9_as cX9_as 6 (some .int) ∈ lw_gd := gd 1373 (by decide +kernel) rfl
theorem q1374 : Cond.constant RX9 336 (-1000006) ∈ lw_gd := gd 1374 (by decide +kernel) rfl
theorem q1375 : Cond.constant RX9 337 (-1000003) ∈ lw_gd := gd 1375 (by decide +kernel) rfl
theorem q1376 : Cond.methodLink RL 156 yX9_sheet ∈ lw_gd := gd 1376 (by decide +kernel) rfl
theorem q1377 : Cond.instanceMethod yX9_sheet ∈ lw_gd := gd 1377 (by decide +kernel) rfl
theorem q1378 : Cond.selects RX9 yX9_sheet yX9_sheet ∈ lw_gd := gd 1378 (by decide +kernel) rfl
theorem q1379 : Cond.code yX9_sheet cX9_sheet 5 (some .int) ∈ lw_gd := gd 1379 (by decide +kernel) rfl
theorem q1380 : Cond.methodLink RX9 340 yX9_isOne ∈ lw_gd := gd 1380 (by decide +kernel) rfl
theorem q1381 : Cond.static yX9_isOne ∈ lw_gd := gd 1381 (by decide +kernel) rfl
theorem q1382 : Cond.code yX9_isOne cX9_isOne 1 (some .boolean) ∈ lw_gd := gd 1382 (by decide +kernel) rfl
theorem q1383 : Cond.constantLong RX9 338 3 ∈ lw_gd := gd 1383 (by decide +kernel) rfl
theorem q1384 : Cond.constant RX9 343 (-1000007) ∈ lw_gd := gd 1384 (by decide +kernel) rfl
theorem q1385 : Cond.methodLink RL 160 yX9_write ∈ lw_gd := gd 1385 (by decide +kernel) rfl
theorem q1386 : Cond.instanceMethod yX9_write ∈ lw_gd := gd 1386 (by decide +kernel) rfl
theorem q1387 : Cond.selects RX9 yX9_write yX9_write ∈ lw_gd := gd 1387 (by decide +kernel) rfl
theorem q1388 : Cond.code yX9_write cX9_write 5 (some .int) ∈ lw_gd := gd 1388 (by decide +kernel) rfl
theorem q1389 : Cond.methodLink RX9 344 yX9_wrong ∈ lw_gd := gd 1389 (by decide +kernel) rfl
theorem q1391 : Cond.instanceMethod yX9_wrong ∈ lw_gd := gd 1391 (by decide +kernel) rfl
theorem q1392 : Cond.code yX9_wrong cX9_wrong 2 (some .int) ∈ lw_gd := gd 1392 (by decide +kernel) rfl
theorem q1393 : Cond.methodLink RX9 347 yX9_narrowed ∈ lw_gd := gd 1393 (by decide +kernel) rfl
theorem q1394 : Cond.static yX9_narrowed ∈ lw_gd := gd 1394 (by decide +kernel) rfl
theorem q1395 : Cond.code yX9_narrowed cX9_narrowed 2 (some .int) ∈ lw_gd := gd 1395 (by decide +kernel) rfl
theorem q1396 : Cond.methodLink RL 165 yX9_copy ∈ lw_gd := gd 1396 (by decide +kernel) rfl
theorem q1397 : Cond.instanceMethod yX9_copy ∈ lw_gd := gd 1397 (by decide +kernel) rfl
theorem q1398 : Cond.selects RX9 yX9_copy yX9_copy ∈ lw_gd := gd 1398 (by decide +kernel) rfl
theorem q1399 : Cond.code yX9_copy cX9_copy 7 (some .int) ∈ lw_gd := gd 1399 (by decide +kernel) rfl
theorem q1400 : Cond.methodLink RL 169 yX9_load ∈ lw_gd := gd 1400 (by decide +kernel) rfl
theorem q1401 : Cond.instanceMethod yX9_load ∈ lw_gd := gd 1401 (by decide +kernel) rfl
theorem q1402 : Cond.selects RX9 yX9_load yX9_load ∈ lw_gd := gd 1402 (by decide +kernel) rfl
theorem q1403 : Cond.code yX9_load cX9_load 4 (some .int) ∈ lw_gd := gd 1403 (by decide +kernel) rfl
theorem q1404 : Cond.methodLink RL 173 yX9_rounds ∈ lw_gd := gd 1404 (by decide +kernel) rfl
theorem q1405 : Cond.instanceMethod yX9_rounds ∈ lw_gd := gd 1405 (by decide +kernel) rfl
theorem q1406 : Cond.selects RX9 yX9_rounds yX9_rounds ∈ lw_gd := gd 1406 (by decide +kernel) rfl
theorem q1407 : Cond.code yX9_rounds cX9_rounds 5 (some .int) ∈ lw_gd := gd 1407 (by decide +kernel) rfl
theorem q1408 : Cond.methodLink RL 177 yX9_diary ∈ lw_gd := gd 1408 (by decide +kernel) rfl
theorem q1409 : Cond.instanceMethod yX9_diary ∈ lw_gd := gd 1409 (by decide +kernel) rfl
theorem q1410 : Cond.selects RX9 yX9_diary yX9_diary ∈ lw_gd := gd 1410 (by decide +kernel) rfl
theorem q1411 : Cond.code yX9_diary cX9_diary 4 (some .int) ∈ lw_gd := gd 1411 (by decide +kernel) rfl
theorem q1412 : Cond.methodLink RL 181 yX9_judge ∈ lw_gd := gd 1412 (by decide +kernel) rfl
theorem q1413 : Cond.instanceMethod yX9_judge ∈ lw_gd := gd 1413 (by decide +kernel) rfl
theorem q1414 : Cond.selects RX9 yX9_judge yX9_judge ∈ lw_gd := gd 1414 (by decide +kernel) rfl
theorem q1415 : Cond.code yX9_judge cX9_judge 6 (some .int) ∈ lw_gd := gd 1415 (by decide +kernel) rfl
theorem q1416 : Cond.methodLink RL 185 yX9_image ∈ lw_gd := gd 1416 (by decide +kernel) rfl
theorem q1417 : Cond.instanceMethod yX9_image ∈ lw_gd := gd 1417 (by decide +kernel) rfl
theorem q1418 : Cond.selects RX9 yX9_image yX9_image ∈ lw_gd := gd 1418 (by decide +kernel) rfl
theorem q1419 : Cond.code yX9_image cX9_image 2 (some .int) ∈ lw_gd := gd 1419 (by decide +kernel) rfl
theorem q1420 : Cond.methodLink RL 189 yX9_undo ∈ lw_gd := gd 1420 (by decide +kernel) rfl
theorem q1421 : Cond.instanceMethod yX9_undo ∈ lw_gd := gd 1421 (by decide +kernel) rfl
theorem q1422 : Cond.selects RX9 yX9_undo yX9_undo ∈ lw_gd := gd 1422 (by decide +kernel) rfl
theorem q1423 : Cond.code yX9_undo cX9_undo 2 (some .int) ∈ lw_gd := gd 1423 (by decide +kernel) rfl
theorem q1424 : Cond.methodLink RL 193 yX9_tear ∈ lw_gd := gd 1424 (by decide +kernel) rfl
theorem q1425 : Cond.instanceMethod yX9_tear ∈ lw_gd := gd 1425 (by decide +kernel) rfl
theorem q1426 : Cond.selects RX9 yX9_tear yX9_tear ∈ lw_gd := gd 1426 (by decide +kernel) rfl
theorem q1427 : Cond.code yX9_tear cX9_tear 2 (some .int) ∈ lw_gd := gd 1427 (by decide +kernel) rfl
theorem q1428 : Cond.methodLink RL 197 yX9_count ∈ lw_gd := gd 1428 (by decide +kernel) rfl
theorem q1429 : Cond.instanceMethod yX9_count ∈ lw_gd := gd 1429 (by decide +kernel) rfl
theorem q1430 : Cond.selects RX9 yX9_count yX9_count ∈ lw_gd := gd 1430 (by decide +kernel) rfl
theorem q1431 : Cond.code yX9_count cX9_count 2 (some .int) ∈ lw_gd := gd 1431 (by decide +kernel) rfl
theorem q1432 : Cond.methodLink RX9 353 yX9_held ∈ lw_gd := gd 1432 (by decide +kernel) rfl
theorem q1434 : Cond.instanceMethod yX9_held ∈ lw_gd := gd 1434 (by decide +kernel) rfl
theorem q1435 : Cond.code yX9_held cX9_held 3 (some .int) ∈ lw_gd := gd 1435 (by decide +kernel) rfl
theorem q1436 : Cond.methodLink RL 201 yX9_status ∈ lw_gd := gd 1436 (by decide +kernel) rfl
theorem q1437 : Cond.instanceMethod yX9_status ∈ lw_gd := gd 1437 (by decide +kernel) rfl
theorem q1438 : Cond.selects RX9 yX9_status yX9_status ∈ lw_gd := gd 1438 (by decide +kernel) rfl
theorem q1439 : Cond.code yX9_status cX9_status 4 (some .int) ∈ lw_gd := gd 1439 (by decide +kernel) rfl
theorem q1440 : Cond.constantLong RX9 356 (-1) ∈ lw_gd := gd 1440 (by decide +kernel) rfl
theorem q1441 : Cond.selects RX4 yX4_givesUp yX4_givesUp ∈ lw_gd := gd 1441 (by decide +kernel) rfl
theorem kyX5_get : KV RX5 yX5_get cX5_get 2 (some (.object "SledgeStove$House")) 1 := ⟨q283, q284, q64, q285, by decide +kernel⟩
theorem kyX3_get : KV RX3 yX3_get cX3_get 2 (some .int) 1 := ⟨q595, q596, q67, q597, by decide +kernel⟩
theorem kyX1_isA : KV RX1 yX1_isA cX1_isA 2 (some .boolean) 1 := ⟨q300, q301, q65, q302, by decide +kernel⟩
theorem kyX1_needs : KV RX1 yX1_needs cX1_needs 1 (some .boolean) 0 := ⟨q436, q437, q65, q438, by decide +kernel⟩
theorem kyX1_loses : KV RX1 yX1_loses cX1_loses 3 (some .int) 1 := ⟨q304, q305, q65, q306, by decide +kernel⟩
theorem kyX2_next : KV RX2 yX2_next cX2_next 1 none 0 := ⟨q672, q673, q66, q674, by decide +kernel⟩
theorem kyX2_readItem : KV RX2 yX2_readItem cX2_readItem 2 (some .boolean) 0 := ⟨q689, q690, q66, q691, by decide +kernel⟩
theorem kyX2_kindTold : KV RX2 yX2_kindTold cX2_kindTold 1 (some .int) 0 := ⟨q693, q694, q66, q695, by decide +kernel⟩
theorem kyX2_readHouse : KV RX2 yX2_readHouse cX2_readHouse 3 (some .boolean) 1 := ⟨q756, q757, q66, q758, by decide +kernel⟩
theorem kyX2_isWord : KV RX2 yX2_isWord cX2_isWord 3 (some .boolean) 1 := ⟨q698, q699, q66, q700, by decide +kernel⟩
theorem kyX2_readSteep : KV RX2 yX2_readSteep cX2_readSteep 2 (some .boolean) 0 := ⟨q777, q778, q66, q779, by decide +kernel⟩
theorem kyX2_readOut : KV RX2 yX2_readOut cX2_readOut 1 (some .boolean) 0 := ⟨q783, q784, q66, q785, by decide +kernel⟩
theorem kyX5_build : KV RX5 yX5_build cX5_build 3 (some (.object "SledgeStove$House")) 1 := ⟨q279, q280, q64, q281, by decide +kernel⟩
theorem kyX2_readPart : KV RX2 yX2_readPart cX2_readPart 4 (some .boolean) 3 := ⟨q762, q763, q66, q764, by decide +kernel⟩
theorem kyX8_lowest : KS RX8 yX8_lowest cX8_lowest 1 (some .int) 1 := ⟨q320, q63, q321, by decide +kernel⟩
theorem kyX8_highest : KS RX8 yX8_highest cX8_highest 1 (some .int) 1 := ⟨q323, q63, q324, by decide +kernel⟩
theorem kyX2_isNumber : KV RX2 yX2_isNumber cX2_isNumber 3 (some .boolean) 2 := ⟨q768, q769, q66, q770, by decide +kernel⟩
theorem kyX1_put : KV RX1 yX1_put cX1_put 3 none 2 := ⟨q326, q327, q65, q328, by decide +kernel⟩
theorem kyX5_putSteep : KV RX5 yX5_putSteep cX5_putSteep 3 none 2 := ⟨q338, q339, q64, q340, by decide +kernel⟩
theorem kyX2_byteAt : KV RX2 yX2_byteAt cX2_byteAt 2 (some .int) 1 := ⟨q676, q677, q66, q678, by decide +kernel⟩
theorem kyX2_isLetter : KV RX2 yX2_isLetter cX2_isLetter 2 (some .boolean) 1 := ⟨q680, q681, q66, q682, by decide +kernel⟩
theorem kyX2_isDigit : KV RX2 yX2_isDigit cX2_isDigit 2 (some .boolean) 1 := ⟨q684, q685, q66, q686, by decide +kernel⟩
theorem kyX3_cut : KV RX3 yX3_cut cX3_cut 2 (some .int) 1 := ⟨q831, q832, q67, q833, by decide +kernel⟩
theorem kyX4_givesUp : KV RX4 yX4_givesUp cX4_givesUp 2 (some .boolean) 1 := ⟨q581, q1441, q73, q582, by decide +kernel⟩
theorem kyX1_be : KV RX1 yX1_be cX1_be 2 none 1 := ⟨q452, q453, q65, q454, by decide +kernel⟩
theorem kyX1_begin : KV RX1 yX1_begin cX1_begin 2 none 1 := ⟨q287, q288, q65, q289, by decide +kernel⟩
theorem kyX5_steepAt : KV RX5 yX5_steepAt cX5_steepAt 2 (some .int) 1 := ⟨q334, q335, q64, q336, by decide +kernel⟩
theorem kyX5_between : KV RX5 yX5_between cX5_between 6 (some .int) 2 := ⟨q354, q355, q64, q356, by decide +kernel⟩
theorem kyX5_passOne : KV RX5 yX5_passOne cX5_passOne 4 none 0 := ⟨q391, q392, q64, q393, by decide +kernel⟩
theorem kyX5_stoveHouse : KV RX5 yX5_stoveHouse cX5_stoveHouse 2 (some (.object "SledgeStove$House")) 0 := ⟨q395, q396, q64, q397, by decide +kernel⟩
theorem kyX5_burnAt : KV RX5 yX5_burnAt cX5_burnAt 5 none 1 := ⟨q400, q401, q64, q402, by decide +kernel⟩
theorem kyX1_cool : KV RX1 yX1_cool cX1_cool 2 none 1 := ⟨q414, q415, q65, q416, by decide +kernel⟩
theorem kyX1_burns : KV RX1 yX1_burns cX1_burns 1 (some .int) 0 := ⟨q308, q309, q65, q310, by decide +kernel⟩
theorem kyX1_heats : KV RX1 yX1_heats cX1_heats 2 (some .int) 0 := ⟨q296, q297, q65, q298, by decide +kernel⟩
theorem kyX1_warmBy : KV RX1 yX1_warmBy cX1_warmBy 2 none 1 := ⟨q405, q406, q65, q407, by decide +kernel⟩
theorem kyX1_gets : KV RX1 yX1_gets cX1_gets 2 (some .int) 1 := ⟨q410, q411, q65, q412, by decide +kernel⟩
theorem kyX1_isCold : KV RX1 yX1_isCold cX1_isCold 1 (some .boolean) 0 := ⟨q432, q433, q65, q434, by decide +kernel⟩
theorem kyX5_isCold : KV RX5 yX5_isCold cX5_isCold 3 (some .boolean) 1 := ⟨q428, q429, q64, q430, by decide +kernel⟩
theorem kyX1_told : KV RX1 yX1_told cX1_told 2 (some .int) 1 := ⟨q312, q313, q65, q314, by decide +kernel⟩
theorem kyX5_be : KV RX5 yX5_be cX5_be 5 none 1 := ⟨q448, q449, q64, q450, by decide +kernel⟩
theorem kyX5_go : KV RX5 yX5_go cX5_go 2 (some .int) 1 := ⟨q369, q370, q64, q371, by decide +kernel⟩
theorem kyX5_watch : KV RX5 yX5_watch cX5_watch 3 none 0 := ⟨q541, q542, q64, q543, by decide +kernel⟩
theorem kyX8_within : KS RX8 yX8_within cX8_within 3 (some .boolean) 3 := ⟨q271, q63, q272, by decide +kernel⟩
theorem kyX8_fail : KV RX8 yX8_fail cX8_fail 2 (some .int) 1 := ⟨q275, q0, q63, q276, by decide +kernel⟩
theorem kyX8_endsTooLate : KV RX8 yX8_endsTooLate cX8_endsTooLate 2 (some .boolean) 1 := ⟨q379, q1, q63, q380, by decide +kernel⟩
theorem kyX5_sum : KV RX5 yX5_sum cX5_sum 5 (some .int) 1 := ⟨q382, q383, q64, q384, by decide +kernel⟩
theorem kyX5_pass : KV RX5 yX5_pass cX5_pass 3 none 1 := ⟨q387, q388, q64, q389, by decide +kernel⟩
theorem kyX5_coldSet : KV RX5 yX5_coldSet cX5_coldSet 3 (some .int) 0 := ⟨q424, q425, q64, q426, by decide +kernel⟩
theorem kyX8_trial : KV RX8 yX8_trial cX8_trial 1 (some (.object "SledgeStove$Village")) 0 := ⟨q445, q2, q63, q446, by decide +kernel⟩
theorem kyX5_leastWarmth : KV RX5 yX5_leastWarmth cX5_leastWarmth 4 (some .int) 0 := ⟨q459, q460, q64, q461, by decide +kernel⟩
theorem kyX8_cannotStart : KV RX8 yX8_cannotStart cX8_cannotStart 2 (some .boolean) 1 := ⟨q474, q3, q63, q475, by decide +kernel⟩
theorem kyX8_sentTo : KV RX8 yX8_sentTo cX8_sentTo 4 (some (.object "SledgeStove$Village")) 2 := ⟨q482, q4, q63, q483, by decide +kernel⟩
theorem kyX8_leastValue : KV RX8 yX8_leastValue cX8_leastValue 6 (some .int) 3 := ⟨q498, q5, q63, q499, by decide +kernel⟩
theorem kyX8_changed : KV RX8 yX8_changed cX8_changed 7 (some (.object "SledgeStove$House")) 4 := ⟨q502, q6, q63, q503, by decide +kernel⟩
theorem kyX8_roundFinding : KV RX8 yX8_roundFinding cX8_roundFinding 2 (some .int) 1 := ⟨q524, q7, q63, q525, by decide +kernel⟩
theorem kyX8_wholeRound : KV RX8 yX8_wholeRound cX8_wholeRound 3 (some (.object "SledgeStove$Village")) 1 := ⟨q528, q8, q63, q529, by decide +kernel⟩
theorem kyX8_tryThrees : KV RX8 yX8_tryThrees cX8_tryThrees 7 none 2 := ⟨q572, q9, q63, q573, by decide +kernel⟩
theorem kyX5_draw : KV RX5 yX5_draw cX5_draw 1 (some .int) 0 := ⟨q640, q641, q64, q642, by decide +kernel⟩
theorem kyX8_wipe : KV RX8 yX8_wipe cX8_wipe 2 (some .int) 0 := ⟨q659, q660, q63, q661, by decide +kernel⟩
theorem kyX2_readAll : KV RX2 yX2_readAll cX2_readAll 3 (some .int) 1 := ⟨q668, q669, q66, q670, by decide +kernel⟩
theorem kyX5_putSpot : KV RX5 yX5_putSpot cX5_putSpot 3 none 2 := ⟨q794, q795, q64, q796, by decide +kernel⟩
theorem kyX5_spotAt : KV RX5 yX5_spotAt cX5_spotAt 2 (some .int) 1 := ⟨q802, q803, q64, q804, by decide +kernel⟩
theorem kyX8_sheetAt : KV RX8 yX8_sheetAt cX8_sheetAt 2 (some (.object "SledgeStove$Sheet")) 1 := ⟨q812, q10, q63, q813, by decide +kernel⟩
theorem kyX3_begin : KV RX3 yX3_begin cX3_begin 4 none 2 := ⟨q815, q816, q67, q817, by decide +kernel⟩
theorem kyX3_isMissing : KV RX3 yX3_isMissing cX3_isMissing 1 (some .boolean) 0 := ⟨q823, q824, q67, q825, by decide +kernel⟩
theorem kyX3_put : KV RX3 yX3_put cX3_put 3 none 2 := ⟨q827, q828, q67, q829, by decide +kernel⟩
theorem kyX3_has : KV RX3 yX3_has cX3_has 3 (some .boolean) 2 := ⟨q839, q840, q67, q841, by decide +kernel⟩
theorem kyX8_tellsHouses : KV RX8 yX8_tellsHouses cX8_tellsHouses 3 (some .boolean) 1 := ⟨q853, q11, q63, q854, by decide +kernel⟩
theorem kyX5_beginRound : KV RX5 yX5_beginRound cX5_beginRound 2 none 1 := ⟨q531, q532, q64, q533, by decide +kernel⟩
theorem kyX5_leg : KV RX5 yX5_leg cX5_leg 5 none 2 := ⟨q536, q537, q64, q538, by decide +kernel⟩
theorem kyX5_spotsHeld : KV RX5 yX5_spotsHeld cX5_spotsHeld 3 (some .int) 0 := ⟨q894, q895, q64, q896, by decide +kernel⟩
theorem kyX9_in : KS RX9 yX9_in cX9_in 6 (some .boolean) 3 := ⟨q992, q68, q993, by decide +kernel⟩
theorem kyX9_at : KS RX9 yX9_at cX9_at 2 (some .int) 2 := ⟨q1005, q68, q1006, by decide +kernel⟩
theorem kyX9_finds : KV RX9 yX9_finds cX9_finds 2 (some .int) 1 := ⟨q997, q12, q68, q998, by decide +kernel⟩
theorem kyX9_newHouse : KV RX9 yX9_newHouse cX9_newHouse 7 (some .int) 5 := ⟨q1002, q13, q68, q1003, by decide +kernel⟩
theorem kyX9_its : KV RX9 yX9_its cX9_its 3 (some .int) 2 := ⟨q1018, q15, q68, q1019, by decide +kernel⟩
theorem kyX9_isHouse : KV RX9 yX9_isHouse cX9_isHouse 2 (some .boolean) 1 := ⟨q1013, q14, q68, q1014, by decide +kernel⟩
theorem kyX9_heats : KV RX9 yX9_heats cX9_heats 3 (some .int) 1 := ⟨q1022, q16, q68, q1023, by decide +kernel⟩
theorem kyX9_loses : KV RX9 yX9_loses cX9_loses 4 (some .int) 1 := ⟨q1026, q17, q68, q1027, by decide +kernel⟩
theorem kyX9_burns : KV RX9 yX9_burns cX9_burns 3 (some .int) 1 := ⟨q1030, q18, q68, q1031, by decide +kernel⟩
theorem kyX9_isPart : KS RX9 yX9_isPart cX9_isPart 2 (some .boolean) 2 := ⟨q1037, q68, q1038, by decide +kernel⟩
theorem kyX9_wayOf : KV RX9 yX9_wayOf cX9_wayOf 7 (some .int) 2 := ⟨q1063, q19, q68, q1064, by decide +kernel⟩
theorem kyX9_isGoing : KV RX9 yX9_isGoing cX9_isGoing 1 (some .boolean) 0 := ⟨q1071, q20, q68, q1072, by decide +kernel⟩
theorem kyX9_sends : KV RX9 yX9_sends cX9_sends 2 none 1 := ⟨q1075, q21, q68, q1076, by decide +kernel⟩
theorem kyX9_warms : KV RX9 yX9_warms cX9_warms 4 none 2 := ⟨q1100, q26, q68, q1101, by decide +kernel⟩
theorem kyX9_getsOf : KV RX9 yX9_getsOf cX9_getsOf 3 none 2 := ⟨q1104, q27, q68, q1105, by decide +kernel⟩
theorem kyX9_quarter : KV RX9 yX9_quarter cX9_quarter 5 none 0 := ⟨q1096, q25, q68, q1097, by decide +kernel⟩
theorem kyX9_isTooLate : KV RX9 yX9_isTooLate cX9_isTooLate 2 (some .boolean) 1 := ⟨q1084, q22, q68, q1085, by decide +kernel⟩
theorem kyX9_sumOf : KV RX9 yX9_sumOf cX9_sumOf 4 (some .int) 1 := ⟨q1088, q23, q68, q1089, by decide +kernel⟩
theorem kyX9_quartersGo : KV RX9 yX9_quartersGo cX9_quartersGo 3 none 1 := ⟨q1092, q24, q68, q1093, by decide +kernel⟩
theorem kyX9_isCold : KV RX9 yX9_isCold cX9_isCold 2 (some .boolean) 1 := ⟨q1116, q29, q68, q1117, by decide +kernel⟩
theorem kyX9_coldSet : KV RX9 yX9_coldSet cX9_coldSet 3 (some .int) 0 := ⟨q1112, q28, q68, q1113, by decide +kernel⟩
theorem kyX9_saves : KV RX9 yX9_saves cX9_saves 2 none 0 := ⟨q1124, q30, q68, q1125, by decide +kernel⟩
theorem kyX9_leastWarmth : KV RX9 yX9_leastWarmth cX9_leastWarmth 3 (some .int) 0 := ⟨q1128, q31, q68, q1129, by decide +kernel⟩
theorem kyX9_putsBack : KV RX9 yX9_putsBack cX9_putsBack 2 none 0 := ⟨q1132, q32, q68, q1133, by decide +kernel⟩
theorem kyX9_isSpan : KS RX9 yX9_isSpan cX9_isSpan 1 (some .boolean) 1 := ⟨q1148, q68, q1149, by decide +kernel⟩
theorem kyX9_isFixed : KV RX9 yX9_isFixed cX9_isFixed 2 (some .boolean) 1 := ⟨q1152, q33, q68, q1153, by decide +kernel⟩
theorem kyX9_isAbove : KV RX9 yX9_isAbove cX9_isAbove 2 (some .boolean) 1 := ⟨q1164, q34, q68, q1165, by decide +kernel⟩
theorem kyX9_leastPart : KV RX9 yX9_leastPart cX9_leastPart 8 (some .int) 5 := ⟨q1172, q35, q68, q1173, by decide +kernel⟩
theorem kyX9_isDone : KV RX9 yX9_isDone cX9_isDone 1 (some .boolean) 0 := ⟨q1220, q42, q68, q1221, by decide +kernel⟩
theorem kyX9_watches : KV RX9 yX9_watches cX9_watches 4 none 1 := ⟨q1216, q41, q68, q1217, by decide +kernel⟩
theorem kyX9_begins : KV RX9 yX9_begins cX9_begins 1 none 0 := ⟨q1208, q39, q68, q1209, by decide +kernel⟩
theorem kyX9_visits : KV RX9 yX9_visits cX9_visits 3 none 2 := ⟨q1212, q40, q68, q1213, by decide +kernel⟩
theorem kyX9_stands : KV RX9 yX9_stands cX9_stands 3 none 1 := ⟨q1240, q45, q68, q1241, by decide +kernel⟩
theorem kyX9_ended : KV RX9 yX9_ended cX9_ended 6 none 3 := ⟨q1248, q47, q68, q1249, by decide +kernel⟩
theorem kyX9_standsAgain : KV RX9 yX9_standsAgain cX9_standsAgain 3 none 1 := ⟨q1252, q48, q68, q1253, by decide +kernel⟩
theorem kyX9_thirds : KV RX9 yX9_thirds cX9_thirds 6 none 4 := ⟨q1244, q46, q68, q1245, by decide +kernel⟩
theorem kyX9_seconds : KV RX9 yX9_seconds cX9_seconds 6 none 4 := ⟨q1236, q44, q68, q1237, by decide +kernel⟩
theorem kyX9_goesRound : KV RX9 yX9_goesRound cX9_goesRound 3 none 1 := ⟨q1204, q38, q68, q1205, by decide +kernel⟩
theorem kyX9_isStay : KS RX9 yX9_isStay cX9_isStay 1 (some .boolean) 1 := ⟨q1191, q68, q1192, by decide +kernel⟩
theorem kyX9_isBarred : KV RX9 yX9_isBarred cX9_isBarred 1 (some .boolean) 0 := ⟨q1196, q36, q68, q1197, by decide +kernel⟩
theorem kyX9_leastRound : KV RX9 yX9_leastRound cX9_leastRound 2 (some .int) 1 := ⟨q1200, q37, q68, q1201, by decide +kernel⟩
theorem kyX9_threes : KV RX9 yX9_threes cX9_threes 5 none 3 := ⟨q1232, q43, q68, q1233, by decide +kernel⟩
theorem kyX9_draw : KV RX9 yX9_draw cX9_draw 1 (some .int) 0 := ⟨q1276, q49, q68, q1277, by decide +kernel⟩
theorem kyX9_ones : KS RX9 yX9_ones cX9_ones 3 (some .int) 1 := ⟨q1280, q68, q1281, by decide +kernel⟩
theorem kyX9_byteAt : KV RX9 yX9_byteAt cX9_byteAt 2 (some .int) 1 := ⟨q1305, q51, q68, q1306, by decide +kernel⟩
theorem kyX9_isLetter : KS RX9 yX9_isLetter cX9_isLetter 1 (some .boolean) 1 := ⟨q1308, q68, q1309, by decide +kernel⟩
theorem kyX9_isDigit : KS RX9 yX9_isDigit cX9_isDigit 1 (some .boolean) 1 := ⟨q1313, q68, q1314, by decide +kernel⟩
theorem kyX9_token : KV RX9 yX9_token cX9_token 3 none 0 := ⟨q1301, q50, q68, q1302, by decide +kernel⟩
theorem kyX9_needs : KV RX9 yX9_needs cX9_needs 2 none 1 := ⟨q1344, q56, q68, q1345, by decide +kernel⟩
theorem kyX9_word : KV RX9 yX9_word cX9_word 4 (some .long) 0 := ⟨q1327, q54, q68, q1328, by decide +kernel⟩
theorem kyX9_number : KV RX9 yX9_number cX9_number 6 none 2 := ⟨q1353, q58, q68, q1354, by decide +kernel⟩
theorem kyX9_perhaps : KV RX9 yX9_perhaps cX9_perhaps 5 (some .int) 4 := ⟨q1349, q57, q68, q1350, by decide +kernel⟩
theorem kyX9_kindHere : KV RX9 yX9_kindHere cX9_kindHere 3 (some .int) 0 := ⟨q1323, q53, q68, q1324, by decide +kernel⟩
theorem kyX9_houseItem : KV RX9 yX9_houseItem cX9_houseItem 7 none 1 := ⟨q1340, q55, q68, q1341, by decide +kernel⟩
theorem kyX9_steepItem : KV RX9 yX9_steepItem cX9_steepItem 2 none 0 := ⟨q1361, q59, q68, q1362, by decide +kernel⟩
theorem kyX9_item : KV RX9 yX9_item cX9_item 3 none 0 := ⟨q1319, q52, q68, q1320, by decide +kernel⟩
theorem kyX9_isOne : KS RX9 yX9_isOne cX9_isOne 1 (some .boolean) 1 := ⟨q1381, q68, q1382, by decide +kernel⟩
theorem kyX9_wrong : KV RX9 yX9_wrong cX9_wrong 2 (some .int) 1 := ⟨q1391, q60, q68, q1392, by decide +kernel⟩
theorem kyX9_narrowed : KS RX9 yX9_narrowed cX9_narrowed 2 (some .int) 2 := ⟨q1394, q68, q1395, by decide +kernel⟩
theorem kyX9_held : KV RX9 yX9_held cX9_held 3 (some .int) 0 := ⟨q1434, q61, q68, q1435, by decide +kernel⟩
theorem kyX8_house : KV RX8 yX8_house cX8_house 2 (some .int) 1 := ⟨q267, q268, q63, q269, by decide +kernel⟩
theorem kyX8_of : KV RX8 yX8_of cX8_of 4 (some .int) 2 := ⟨q291, q292, q63, q293, by decide +kernel⟩
theorem kyX8_change : KV RX8 yX8_change cX8_change 6 (some .int) 3 := ⟨q316, q317, q63, q318, by decide +kernel⟩
theorem kyX8_steep : KV RX8 yX8_steep cX8_steep 4 (some .int) 2 := ⟨q330, q331, q63, q332, by decide +kernel⟩
theorem kyX8_weather : KV RX8 yX8_weather cX8_weather 4 (some .int) 2 := ⟨q342, q343, q63, q344, by decide +kernel⟩
theorem kyX8_lend : KV RX8 yX8_lend cX8_lend 6 (some .int) 3 := ⟨q346, q347, q63, q348, by decide +kernel⟩
theorem kyX8_way : KV RX8 yX8_way cX8_way 3 (some .int) 2 := ⟨q350, q351, q63, q352, by decide +kernel⟩
theorem kyX8_send : KV RX8 yX8_send cX8_send 2 (some .int) 1 := ⟨q365, q366, q63, q367, by decide +kernel⟩
theorem kyX8_quarters : KV RX8 yX8_quarters cX8_quarters 3 (some .int) 1 := ⟨q374, q375, q63, q376, by decide +kernel⟩
theorem kyX8_now : KV RX8 yX8_now cX8_now 2 (some .int) 1 := ⟨q420, q421, q63, q422, by decide +kernel⟩
theorem kyX8_ahead : KV RX8 yX8_ahead cX8_ahead 5 (some .int) 2 := ⟨q440, q441, q63, q442, by decide +kernel⟩
theorem kyX8_cold : KV RX8 yX8_cold cX8_cold 4 (some .int) 1 := ⟨q464, q465, q63, q466, by decide +kernel⟩
theorem kyX8_bake : KV RX8 yX8_bake cX8_bake 6 (some .int) 1 := ⟨q469, q470, q63, q471, by decide +kernel⟩
theorem kyX8_best : KV RX8 yX8_best cX8_best 6 (some .int) 1 := ⟨q477, q478, q63, q479, by decide +kernel⟩
theorem kyX8_lost : KV RX8 yX8_lost cX8_lost 4 (some .int) 1 := ⟨q485, q486, q63, q487, by decide +kernel⟩
theorem kyX8_stay : KV RX8 yX8_stay cX8_stay 5 (some .int) 2 := ⟨q489, q490, q63, q491, by decide +kernel⟩
theorem kyX8_logs : KV RX8 yX8_logs cX8_logs 3 (some .int) 2 := ⟨q493, q494, q63, q495, by decide +kernel⟩
theorem kyX8_wall : KV RX8 yX8_wall cX8_wall 3 (some .int) 2 := ⟨q506, q507, q63, q508, by decide +kernel⟩
theorem kyX8_straw : KV RX8 yX8_straw cX8_straw 8 (some .int) 1 := ⟨q510, q511, q63, q512, by decide +kernel⟩
theorem kyX8_kindFor : KV RX8 yX8_kindFor cX8_kindFor 7 (some .int) 2 := ⟨q515, q516, q63, q517, by decide +kernel⟩
theorem kyX8_round : KV RX8 yX8_round cX8_round 3 (some .int) 1 := ⟨q519, q520, q63, q521, by decide +kernel⟩
theorem kyX8_takes : KV RX8 yX8_takes cX8_takes 3 (some .int) 1 := ⟨q545, q546, q63, q547, by decide +kernel⟩
theorem kyX8_three : KV RX8 yX8_three cX8_three 4 (some .int) 1 := ⟨q549, q550, q63, q551, by decide +kernel⟩
theorem kyX8_least : KV RX8 yX8_least cX8_least 4 (some .int) 1 := ⟨q606, q607, q63, q608, by decide +kernel⟩
theorem kyX8_pace : KV RX8 yX8_pace cX8_pace 5 (some .int) 0 := ⟨q610, q611, q63, q612, by decide +kernel⟩
theorem kyX8_thrift : KV RX8 yX8_thrift cX8_thrift 4 (some .int) 1 := ⟨q614, q615, q63, q616, by decide +kernel⟩
theorem kyX8_middle : KV RX8 yX8_middle cX8_middle 6 (some .int) 0 := ⟨q632, q633, q63, q634, by decide +kernel⟩
theorem kyX8_calls : KV RX8 yX8_calls cX8_calls 4 (some .int) 1 := ⟨q636, q637, q63, q638, by decide +kernel⟩
theorem kyX8_seed : KV RX8 yX8_seed cX8_seed 3 (some .int) 1 := ⟨q651, q652, q63, q653, by decide +kernel⟩
theorem kyX8_feed : KV RX8 yX8_feed cX8_feed 4 (some .int) 2 := ⟨q655, q656, q63, q657, by decide +kernel⟩
theorem kyX8_text : KV RX8 yX8_text cX8_text 2 (some .int) 0 := ⟨q663, q664, q63, q665, by decide +kernel⟩
theorem kyX8_hold : KV RX8 yX8_hold cX8_hold 3 (some .int) 2 := ⟨q790, q791, q63, q792, by decide +kernel⟩
theorem kyX8_as : KV RX8 yX8_as cX8_as 5 (some .int) 2 := ⟨q798, q799, q63, q800, by decide +kernel⟩
theorem kyX8_sheet : KV RX8 yX8_sheet cX8_sheet 5 (some .int) 3 := ⟨q807, q808, q63, q809, by decide +kernel⟩
theorem kyX8_write : KV RX8 yX8_write cX8_write 5 (some .int) 3 := ⟨q819, q820, q63, q821, by decide +kernel⟩
theorem kyX8_copy : KV RX8 yX8_copy cX8_copy 10 (some .int) 5 := ⟨q835, q836, q63, q837, by decide +kernel⟩
theorem kyX8_load : KV RX8 yX8_load cX8_load 7 (some .int) 1 := ⟨q844, q845, q63, q846, by decide +kernel⟩
theorem kyX8_rounds : KV RX8 yX8_rounds cX8_rounds 5 (some .int) 2 := ⟨q848, q849, q63, q850, by decide +kernel⟩
theorem kyX8_diary : KV RX8 yX8_diary cX8_diary 6 (some .int) 2 := ⟨q856, q857, q63, q858, by decide +kernel⟩
theorem kyX8_judge : KV RX8 yX8_judge cX8_judge 7 (some .int) 2 := ⟨q874, q875, q63, q876, by decide +kernel⟩
theorem kyX8_image : KV RX8 yX8_image cX8_image 1 (some .int) 0 := ⟨q878, q879, q63, q880, by decide +kernel⟩
theorem kyX8_undo : KV RX8 yX8_undo cX8_undo 1 (some .int) 0 := ⟨q882, q883, q63, q884, by decide +kernel⟩
theorem kyX8_tear : KV RX8 yX8_tear cX8_tear 2 (some .int) 0 := ⟨q886, q887, q63, q888, by decide +kernel⟩
theorem kyX8_count : KV RX8 yX8_count cX8_count 2 (some .int) 1 := ⟨q890, q891, q63, q892, by decide +kernel⟩
theorem kyX8_status : KV RX8 yX8_status cX8_status 4 (some .int) 1 := ⟨q898, q899, q63, q900, by decide +kernel⟩
theorem kyX9_house : KV RX9 yX9_house cX9_house 2 (some .int) 1 := ⟨q987, q988, q68, q989, by decide +kernel⟩
theorem kyX9_of : KV RX9 yX9_of cX9_of 3 (some .int) 2 := ⟨q1008, q1009, q68, q1010, by decide +kernel⟩
theorem kyX9_change : KV RX9 yX9_change cX9_change 5 (some .int) 3 := ⟨q1033, q1034, q68, q1035, by decide +kernel⟩
theorem kyX9_steep : KV RX9 yX9_steep cX9_steep 4 (some .int) 2 := ⟨q1043, q1044, q68, q1045, by decide +kernel⟩
theorem kyX9_weather : KV RX9 yX9_weather cX9_weather 4 (some .int) 2 := ⟨q1048, q1049, q68, q1050, by decide +kernel⟩
theorem kyX9_lend : KV RX9 yX9_lend cX9_lend 4 (some .int) 3 := ⟨q1053, q1054, q68, q1055, by decide +kernel⟩
theorem kyX9_way : KV RX9 yX9_way cX9_way 3 (some .int) 2 := ⟨q1058, q1059, q68, q1060, by decide +kernel⟩
theorem kyX9_send : KV RX9 yX9_send cX9_send 2 (some .int) 1 := ⟨q1066, q1067, q68, q1068, by decide +kernel⟩
theorem kyX9_quarters : KV RX9 yX9_quarters cX9_quarters 3 (some .int) 1 := ⟨q1078, q1079, q68, q1080, by decide +kernel⟩
theorem kyX9_now : KV RX9 yX9_now cX9_now 2 (some .int) 1 := ⟨q1107, q1108, q68, q1109, by decide +kernel⟩
theorem kyX9_ahead : KV RX9 yX9_ahead cX9_ahead 5 (some .int) 2 := ⟨q1119, q1120, q68, q1121, by decide +kernel⟩
theorem kyX9_cold : KV RX9 yX9_cold cX9_cold 3 (some .int) 1 := ⟨q1135, q1136, q68, q1137, by decide +kernel⟩
theorem kyX9_bake : KV RX9 yX9_bake cX9_bake 3 (some .int) 1 := ⟨q1140, q1141, q68, q1142, by decide +kernel⟩
theorem kyX9_best : KV RX9 yX9_best cX9_best 6 (some .int) 1 := ⟨q1144, q1145, q68, q1146, by decide +kernel⟩
theorem kyX9_lost : KV RX9 yX9_lost cX9_lost 4 (some .int) 1 := ⟨q1155, q1156, q68, q1157, by decide +kernel⟩
theorem kyX9_stay : KV RX9 yX9_stay cX9_stay 5 (some .int) 2 := ⟨q1159, q1160, q68, q1161, by decide +kernel⟩
theorem kyX9_logs : KV RX9 yX9_logs cX9_logs 3 (some .int) 2 := ⟨q1167, q1168, q68, q1169, by decide +kernel⟩
theorem kyX9_wall : KV RX9 yX9_wall cX9_wall 3 (some .int) 2 := ⟨q1175, q1176, q68, q1177, by decide +kernel⟩
theorem kyX9_straw : KV RX9 yX9_straw cX9_straw 7 (some .int) 1 := ⟨q1179, q1180, q68, q1181, by decide +kernel⟩
theorem kyX9_kindFor : KV RX9 yX9_kindFor cX9_kindFor 7 (some .int) 2 := ⟨q1183, q1184, q68, q1185, by decide +kernel⟩
theorem kyX9_round : KV RX9 yX9_round cX9_round 2 (some .int) 1 := ⟨q1187, q1188, q68, q1189, by decide +kernel⟩
theorem kyX9_takes : KV RX9 yX9_takes cX9_takes 3 (some .int) 1 := ⟨q1223, q1224, q68, q1225, by decide +kernel⟩
theorem kyX9_three : KV RX9 yX9_three cX9_three 2 (some .int) 1 := ⟨q1227, q1228, q68, q1229, by decide +kernel⟩
theorem kyX9_least : KV RX9 yX9_least cX9_least 2 (some .int) 1 := ⟨q1255, q1256, q68, q1257, by decide +kernel⟩
theorem kyX9_pace : KV RX9 yX9_pace cX9_pace 5 (some .int) 0 := ⟨q1259, q1260, q68, q1261, by decide +kernel⟩
theorem kyX9_thrift : KV RX9 yX9_thrift cX9_thrift 2 (some .int) 1 := ⟨q1263, q1264, q68, q1265, by decide +kernel⟩
theorem kyX9_middle : KV RX9 yX9_middle cX9_middle 6 (some .int) 0 := ⟨q1267, q1268, q68, q1269, by decide +kernel⟩
theorem kyX9_calls : KV RX9 yX9_calls cX9_calls 3 (some .int) 1 := ⟨q1271, q1272, q68, q1273, by decide +kernel⟩
theorem kyX9_seed : KV RX9 yX9_seed cX9_seed 3 (some .int) 1 := ⟨q1283, q1284, q68, q1285, by decide +kernel⟩
theorem kyX9_feed : KV RX9 yX9_feed cX9_feed 4 (some .int) 2 := ⟨q1287, q1288, q68, q1289, by decide +kernel⟩
theorem kyX9_wipe : KV RX9 yX9_wipe cX9_wipe 2 (some .int) 0 := ⟨q1292, q1293, q68, q1294, by decide +kernel⟩
theorem kyX9_text : KV RX9 yX9_text cX9_text 2 (some .int) 0 := ⟨q1296, q1297, q68, q1298, by decide +kernel⟩
theorem kyX9_hold : KV RX9 yX9_hold cX9_hold 3 (some .int) 2 := ⟨q1367, q1368, q68, q1369, by decide +kernel⟩
theorem kyX9_as : KV RX9 yX9_as cX9_as 6 (some .int) 2 := ⟨q1371, q1372, q68, q1373, by decide +kernel⟩
theorem kyX9_sheet : KV RX9 yX9_sheet cX9_sheet 5 (some .int) 3 := ⟨q1377, q1378, q68, q1379, by decide +kernel⟩
theorem kyX9_write : KV RX9 yX9_write cX9_write 5 (some .int) 3 := ⟨q1386, q1387, q68, q1388, by decide +kernel⟩
theorem kyX9_copy : KV RX9 yX9_copy cX9_copy 7 (some .int) 5 := ⟨q1397, q1398, q68, q1399, by decide +kernel⟩
theorem kyX9_load : KV RX9 yX9_load cX9_load 4 (some .int) 1 := ⟨q1401, q1402, q68, q1403, by decide +kernel⟩
theorem kyX9_rounds : KV RX9 yX9_rounds cX9_rounds 5 (some .int) 2 := ⟨q1405, q1406, q68, q1407, by decide +kernel⟩
theorem kyX9_diary : KV RX9 yX9_diary cX9_diary 4 (some .int) 2 := ⟨q1409, q1410, q68, q1411, by decide +kernel⟩
theorem kyX9_judge : KV RX9 yX9_judge cX9_judge 6 (some .int) 2 := ⟨q1413, q1414, q68, q1415, by decide +kernel⟩
theorem kyX9_image : KV RX9 yX9_image cX9_image 2 (some .int) 0 := ⟨q1417, q1418, q68, q1419, by decide +kernel⟩
theorem kyX9_undo : KV RX9 yX9_undo cX9_undo 2 (some .int) 0 := ⟨q1421, q1422, q68, q1423, by decide +kernel⟩
theorem kyX9_tear : KV RX9 yX9_tear cX9_tear 2 (some .int) 0 := ⟨q1425, q1426, q68, q1427, by decide +kernel⟩
theorem kyX9_count : KV RX9 yX9_count cX9_count 2 (some .int) 1 := ⟨q1429, q1430, q68, q1431, by decide +kernel⟩
theorem kyX9_status : KV RX9 yX9_status cX9_status 4 (some .int) 1 := ⟨q1437, q1438, q68, q1439, by decide +kernel⟩
def rmX0_init : Room := { frames := 2, cells := 0, slots := 0, locals := 40 }
def rmX0_givesUp : Room := { frames := 0, cells := 0, slots := 0, locals := 0 }
def rmX0_look : Room := { frames := 1, cells := 0, slots := 0, locals := 21 }
def rmX1_init : Room := { frames := 1, cells := 0, slots := 0, locals := 20 }
def rmX1_begin : Room := { frames := 0, cells := 0, slots := 0, locals := 0 }
def rmX1_be : Room := { frames := 0, cells := 0, slots := 0, locals := 0 }
def rmX1_told : Room := { frames := 0, cells := 0, slots := 0, locals := 0 }
def rmX1_put : Room := { frames := 0, cells := 0, slots := 0, locals := 0 }
def rmX1_isA : Room := { frames := 0, cells := 0, slots := 0, locals := 0 }
def rmX1_heats : Room := { frames := 1, cells := 0, slots := 0, locals := 21 }
def rmX1_loses : Room := { frames := 1, cells := 0, slots := 0, locals := 21 }
def rmX1_burns : Room := { frames := 0, cells := 0, slots := 0, locals := 0 }
def rmX1_needs : Room := { frames := 0, cells := 0, slots := 0, locals := 0 }
def rmX1_gets : Room := { frames := 1, cells := 0, slots := 0, locals := 21 }
def rmX1_isCold : Room := { frames := 1, cells := 0, slots := 0, locals := 20 }
def rmX1_warmBy : Room := { frames := 1, cells := 0, slots := 0, locals := 21 }
def rmX1_cool : Room := { frames := 2, cells := 0, slots := 0, locals := 43 }
def rmX2_init : Room := { frames := 1, cells := 0, slots := 0, locals := 20 }
def rmX2_readAll : Room := { frames := 5, cells := 0, slots := 0, locals := 109 }
def rmX2_readItem : Room := { frames := 4, cells := 0, slots := 0, locals := 88 }
def rmX2_kindTold : Room := { frames := 2, cells := 0, slots := 0, locals := 43 }
def rmX2_readHouse : Room := { frames := 3, cells := 0, slots := 0, locals := 66 }
def rmX2_readPart : Room := { frames := 2, cells := 0, slots := 0, locals := 43 }
def rmX2_readSteep : Room := { frames := 2, cells := 0, slots := 0, locals := 41 }
def rmX2_readOut : Room := { frames := 2, cells := 0, slots := 0, locals := 41 }
def rmX2_isNumber : Room := { frames := 0, cells := 0, slots := 0, locals := 0 }
def rmX2_isWord : Room := { frames := 1, cells := 0, slots := 0, locals := 21 }
def rmX2_byteAt : Room := { frames := 0, cells := 0, slots := 0, locals := 0 }
def rmX2_isLetter : Room := { frames := 0, cells := 0, slots := 0, locals := 0 }
def rmX2_isDigit : Room := { frames := 0, cells := 0, slots := 0, locals := 0 }
def rmX2_next : Room := { frames := 1, cells := 0, slots := 0, locals := 21 }
def rmX3_init : Room := { frames := 1, cells := 0, slots := 0, locals := 20 }
def rmX3_begin : Room := { frames := 0, cells := 0, slots := 0, locals := 0 }
def rmX3_isMissing : Room := { frames := 0, cells := 0, slots := 0, locals := 0 }
def rmX3_has : Room := { frames := 0, cells := 0, slots := 0, locals := 0 }
def rmX3_get : Room := { frames := 0, cells := 0, slots := 0, locals := 0 }
def rmX3_put : Room := { frames := 1, cells := 0, slots := 0, locals := 21 }
def rmX3_cut : Room := { frames := 0, cells := 0, slots := 0, locals := 0 }
def rmX4_init : Room := { frames := 2, cells := 0, slots := 0, locals := 40 }
def rmX4_givesUp : Room := { frames := 0, cells := 0, slots := 0, locals := 0 }
def rmX4_look : Room := { frames := 1, cells := 0, slots := 0, locals := 21 }
def rmX5_init : Room := { frames := 2, cells := 0, slots := 0, locals := 40 }
def rmX5_be : Room := { frames := 1, cells := 0, slots := 0, locals := 40 }
def rmX5_get : Room := { frames := 0, cells := 0, slots := 0, locals := 0 }
def rmX5_build : Room := { frames := 1, cells := 0, slots := 0, locals := 21 }
def rmX5_steepAt : Room := { frames := 0, cells := 0, slots := 0, locals := 0 }
def rmX5_putSteep : Room := { frames := 0, cells := 0, slots := 0, locals := 0 }
def rmX5_spotAt : Room := { frames := 0, cells := 0, slots := 0, locals := 0 }
def rmX5_putSpot : Room := { frames := 0, cells := 0, slots := 0, locals := 0 }
def rmX5_spotsHeld : Room := { frames := 0, cells := 0, slots := 0, locals := 0 }
def rmX5_between : Room := { frames := 1, cells := 0, slots := 0, locals := 21 }
def rmX5_go : Room := { frames := 2, cells := 0, slots := 0, locals := 46 }
def rmX5_pass : Room := { frames := 4, cells := 0, slots := 0, locals := 89 }
def rmX5_passOne : Room := { frames := 3, cells := 0, slots := 0, locals := 66 }
def rmX5_stoveHouse : Room := { frames := 1, cells := 0, slots := 0, locals := 21 }
def rmX5_burnAt : Room := { frames := 2, cells := 0, slots := 0, locals := 42 }
def rmX5_isCold : Room := { frames := 2, cells := 0, slots := 0, locals := 40 }
def rmX5_coldSet : Room := { frames := 3, cells := 0, slots := 0, locals := 62 }
def rmX5_leastWarmth : Room := { frames := 1, cells := 0, slots := 0, locals := 21 }
def rmX5_sum : Room := { frames := 1, cells := 0, slots := 0, locals := 21 }
def rmX5_beginRound : Room := { frames := 2, cells := 0, slots := 0, locals := 64 }
def rmX5_leg : Room := { frames := 4, cells := 0, slots := 0, locals := 89 }
def rmX5_watch : Room := { frames := 2, cells := 0, slots := 0, locals := 40 }
def rmX5_draw : Room := { frames := 0, cells := 0, slots := 0, locals := 0 }
def rmX6_init : Room := { frames := 2, cells := 0, slots := 0, locals := 40 }
def rmX6_givesUp : Room := { frames := 0, cells := 0, slots := 0, locals := 0 }
def rmX6_look : Room := { frames := 0, cells := 0, slots := 0, locals := 0 }
def rmX7_init : Room := { frames := 1, cells := 0, slots := 0, locals := 20 }
def rmX8_init : Room := { frames := 3, cells := 0, slots := 0, locals := 61 }
def rmX8_house : Room := { frames := 2, cells := 0, slots := 0, locals := 43 }
def rmX8_of : Room := { frames := 2, cells := 0, slots := 0, locals := 43 }
def rmX8_change : Room := { frames := 2, cells := 0, slots := 0, locals := 43 }
def rmX8_steep : Room := { frames := 2, cells := 0, slots := 0, locals := 43 }
def rmX8_weather : Room := { frames := 2, cells := 0, slots := 0, locals := 43 }
def rmX8_lend : Room := { frames := 2, cells := 0, slots := 0, locals := 43 }
def rmX8_way : Room := { frames := 2, cells := 0, slots := 0, locals := 46 }
def rmX8_send : Room := { frames := 3, cells := 0, slots := 0, locals := 67 }
def rmX8_quarters : Room := { frames := 5, cells := 0, slots := 0, locals := 111 }
def rmX8_now : Room := { frames := 4, cells := 0, slots := 0, locals := 84 }
def rmX8_ahead : Room := { frames := 5, cells := 0, slots := 0, locals := 111 }
def rmX8_cold : Room := { frames := 5, cells := 0, slots := 0, locals := 111 }
def rmX8_bake : Room := { frames := 5, cells := 0, slots := 0, locals := 111 }
def rmX8_best : Room := { frames := 6, cells := 0, slots := 0, locals := 134 }
def rmX8_lost : Room := { frames := 6, cells := 0, slots := 0, locals := 134 }
def rmX8_stay : Room := { frames := 5, cells := 0, slots := 0, locals := 111 }
def rmX8_logs : Room := { frames := 7, cells := 0, slots := 0, locals := 162 }
def rmX8_wall : Room := { frames := 7, cells := 0, slots := 0, locals := 162 }
def rmX8_straw : Room := { frames := 5, cells := 0, slots := 0, locals := 111 }
def rmX8_kindFor : Room := { frames := 6, cells := 0, slots := 0, locals := 137 }
def rmX8_round : Room := { frames := 6, cells := 0, slots := 0, locals := 135 }
def rmX8_takes : Room := { frames := 6, cells := 0, slots := 0, locals := 135 }
def rmX8_three : Room := { frames := 6, cells := 0, slots := 0, locals := 139 }
def rmX8_least : Room := { frames := 6, cells := 0, slots := 0, locals := 139 }
def rmX8_pace : Room := { frames := 6, cells := 0, slots := 0, locals := 135 }
def rmX8_thrift : Room := { frames := 6, cells := 0, slots := 0, locals := 139 }
def rmX8_middle : Room := { frames := 2, cells := 0, slots := 0, locals := 46 }
def rmX8_calls : Room := { frames := 5, cells := 0, slots := 0, locals := 111 }
def rmX8_seed : Room := { frames := 0, cells := 0, slots := 0, locals := 0 }
def rmX8_feed : Room := { frames := 2, cells := 0, slots := 0, locals := 43 }
def rmX8_wipe : Room := { frames := 0, cells := 0, slots := 0, locals := 0 }
def rmX8_text : Room := { frames := 6, cells := 0, slots := 0, locals := 131 }
def rmX8_hold : Room := { frames := 2, cells := 0, slots := 0, locals := 43 }
def rmX8_as : Room := { frames := 2, cells := 0, slots := 0, locals := 43 }
def rmX8_sheet : Room := { frames := 2, cells := 0, slots := 0, locals := 43 }
def rmX8_write : Room := { frames := 2, cells := 0, slots := 0, locals := 43 }
def rmX8_copy : Room := { frames := 2, cells := 0, slots := 0, locals := 43 }
def rmX8_load : Room := { frames := 2, cells := 0, slots := 0, locals := 43 }
def rmX8_rounds : Room := { frames := 5, cells := 0, slots := 0, locals := 113 }
def rmX8_diary : Room := { frames := 6, cells := 0, slots := 0, locals := 139 }
def rmX8_judge : Room := { frames := 5, cells := 0, slots := 0, locals := 111 }
def rmX8_image : Room := { frames := 2, cells := 0, slots := 0, locals := 64 }
def rmX8_undo : Room := { frames := 2, cells := 0, slots := 0, locals := 64 }
def rmX8_tear : Room := { frames := 0, cells := 0, slots := 0, locals := 0 }
def rmX8_count : Room := { frames := 2, cells := 0, slots := 0, locals := 45 }
def rmX8_status : Room := { frames := 2, cells := 0, slots := 0, locals := 43 }
def rmX8_within : Room := { frames := 0, cells := 0, slots := 0, locals := 0 }
def rmX8_lowest : Room := { frames := 0, cells := 0, slots := 0, locals := 0 }
def rmX8_highest : Room := { frames := 0, cells := 0, slots := 0, locals := 0 }
def rmX8_fail : Room := { frames := 1, cells := 0, slots := 0, locals := 22 }
def rmX8_endsTooLate : Room := { frames := 0, cells := 0, slots := 0, locals := 0 }
def rmX8_cannotStart : Room := { frames := 0, cells := 0, slots := 0, locals := 0 }
def rmX8_roundFinding : Room := { frames := 1, cells := 0, slots := 0, locals := 22 }
def rmX8_trial : Room := { frames := 2, cells := 0, slots := 0, locals := 64 }
def rmX8_sentTo : Room := { frames := 5, cells := 0, slots := 0, locals := 111 }
def rmX8_changed : Room := { frames := 5, cells := 0, slots := 0, locals := 111 }
def rmX8_leastValue : Room := { frames := 6, cells := 0, slots := 0, locals := 137 }
def rmX8_wholeRound : Room := { frames := 5, cells := 0, slots := 0, locals := 113 }
def rmX8_tryThrees : Room := { frames := 5, cells := 0, slots := 0, locals := 113 }
def rmX8_sheetAt : Room := { frames := 1, cells := 0, slots := 0, locals := 22 }
def rmX8_tellsHouses : Room := { frames := 1, cells := 0, slots := 0, locals := 21 }
def rmX9_init : Room := { frames := 1, cells := 0, slots := 0, locals := 20 }
def rmX9_in : Room := { frames := 0, cells := 0, slots := 0, locals := 0 }
def rmX9_finds : Room := { frames := 0, cells := 0, slots := 0, locals := 0 }
def rmX9_isHouse : Room := { frames := 1, cells := 0, slots := 0, locals := 25 }
def rmX9_draw : Room := { frames := 0, cells := 0, slots := 0, locals := 0 }
def rmX9_saves : Room := { frames := 0, cells := 0, slots := 0, locals := 0 }
def rmX9_putsBack : Room := { frames := 0, cells := 0, slots := 0, locals := 0 }
def rmX9_at : Room := { frames := 0, cells := 0, slots := 0, locals := 0 }
def rmX9_its : Room := { frames := 1, cells := 0, slots := 0, locals := 21 }
def rmX9_newHouse : Room := { frames := 1, cells := 0, slots := 0, locals := 21 }
def rmX9_house : Room := { frames := 2, cells := 0, slots := 0, locals := 47 }
def rmX9_heats : Room := { frames := 2, cells := 0, slots := 0, locals := 43 }
def rmX9_loses : Room := { frames := 2, cells := 0, slots := 0, locals := 43 }
def rmX9_burns : Room := { frames := 2, cells := 0, slots := 0, locals := 43 }
def rmX9_of : Room := { frames := 3, cells := 0, slots := 0, locals := 66 }
def rmX9_isPart : Room := { frames := 1, cells := 0, slots := 0, locals := 25 }
def rmX9_change : Room := { frames := 2, cells := 0, slots := 0, locals := 46 }
def rmX9_steep : Room := { frames := 1, cells := 0, slots := 0, locals := 25 }
def rmX9_weather : Room := { frames := 1, cells := 0, slots := 0, locals := 25 }
def rmX9_lend : Room := { frames := 2, cells := 0, slots := 0, locals := 46 }
def rmX9_wayOf : Room := { frames := 0, cells := 0, slots := 0, locals := 0 }
def rmX9_way : Room := { frames := 2, cells := 0, slots := 0, locals := 46 }
def rmX9_sends : Room := { frames := 1, cells := 0, slots := 0, locals := 26 }
def rmX9_isGoing : Room := { frames := 0, cells := 0, slots := 0, locals := 0 }
def rmX9_send : Room := { frames := 2, cells := 0, slots := 0, locals := 47 }
def rmX9_warms : Room := { frames := 2, cells := 0, slots := 0, locals := 43 }
def rmX9_getsOf : Room := { frames := 3, cells := 0, slots := 0, locals := 66 }
def rmX9_quarter : Room := { frames := 4, cells := 0, slots := 0, locals := 88 }
def rmX9_quartersGo : Room := { frames := 5, cells := 0, slots := 0, locals := 112 }
def rmX9_isAbove : Room := { frames := 0, cells := 0, slots := 0, locals := 0 }
def rmX9_isTooLate : Room := { frames := 0, cells := 0, slots := 0, locals := 0 }
def rmX9_sumOf : Room := { frames := 2, cells := 0, slots := 0, locals := 43 }
def rmX9_quarters : Room := { frames := 6, cells := 0, slots := 0, locals := 134 }
def rmX9_isCold : Room := { frames := 2, cells := 0, slots := 0, locals := 43 }
def rmX9_coldSet : Room := { frames := 3, cells := 0, slots := 0, locals := 64 }
def rmX9_now : Room := { frames := 4, cells := 0, slots := 0, locals := 86 }
def rmX9_leastWarmth : Room := { frames := 2, cells := 0, slots := 0, locals := 43 }
def rmX9_ahead : Room := { frames := 6, cells := 0, slots := 0, locals := 134 }
def rmX9_cold : Room := { frames := 5, cells := 0, slots := 0, locals := 112 }
def rmX9_bake : Room := { frames := 5, cells := 0, slots := 0, locals := 112 }
def rmX9_isSpan : Room := { frames := 1, cells := 0, slots := 0, locals := 25 }
def rmX9_isFixed : Room := { frames := 1, cells := 0, slots := 0, locals := 21 }
def rmX9_best : Room := { frames := 6, cells := 0, slots := 0, locals := 134 }
def rmX9_lost : Room := { frames := 6, cells := 0, slots := 0, locals := 134 }
def rmX9_stay : Room := { frames := 6, cells := 0, slots := 0, locals := 134 }
def rmX9_leastPart : Room := { frames := 6, cells := 0, slots := 0, locals := 134 }
def rmX9_logs : Room := { frames := 7, cells := 0, slots := 0, locals := 161 }
def rmX9_wall : Room := { frames := 7, cells := 0, slots := 0, locals := 161 }
def rmX9_straw : Room := { frames := 6, cells := 0, slots := 0, locals := 134 }
def rmX9_kindFor : Room := { frames := 6, cells := 0, slots := 0, locals := 134 }
def rmX9_begins : Room := { frames := 0, cells := 0, slots := 0, locals := 0 }
def rmX9_isDone : Room := { frames := 0, cells := 0, slots := 0, locals := 0 }
def rmX9_watches : Room := { frames := 5, cells := 0, slots := 0, locals := 112 }
def rmX9_stands : Room := { frames := 0, cells := 0, slots := 0, locals := 0 }
def rmX9_standsAgain : Room := { frames := 0, cells := 0, slots := 0, locals := 0 }
def rmX9_visits : Room := { frames := 6, cells := 0, slots := 0, locals := 135 }
def rmX9_goesRound : Room := { frames := 7, cells := 0, slots := 0, locals := 157 }
def rmX9_ended : Room := { frames := 2, cells := 0, slots := 0, locals := 43 }
def rmX9_thirds : Room := { frames := 7, cells := 0, slots := 0, locals := 157 }
def rmX9_seconds : Room := { frames := 8, cells := 0, slots := 0, locals := 182 }
def rmX9_threes : Room := { frames := 9, cells := 0, slots := 0, locals := 207 }
def rmX9_isStay : Room := { frames := 1, cells := 0, slots := 0, locals := 25 }
def rmX9_isBarred : Room := { frames := 1, cells := 0, slots := 0, locals := 21 }
def rmX9_leastRound : Room := { frames := 8, cells := 0, slots := 0, locals := 179 }
def rmX9_round : Room := { frames := 9, cells := 0, slots := 0, locals := 200 }
def rmX9_takes : Room := { frames := 8, cells := 0, slots := 0, locals := 179 }
def rmX9_three : Room := { frames := 10, cells := 0, slots := 0, locals := 231 }
def rmX9_least : Room := { frames := 10, cells := 0, slots := 0, locals := 231 }
def rmX9_pace : Room := { frames := 9, cells := 0, slots := 0, locals := 200 }
def rmX9_thrift : Room := { frames := 10, cells := 0, slots := 0, locals := 231 }
def rmX9_middle : Room := { frames := 1, cells := 0, slots := 0, locals := 26 }
def rmX9_ones : Room := { frames := 0, cells := 0, slots := 0, locals := 0 }
def rmX9_calls : Room := { frames := 6, cells := 0, slots := 0, locals := 134 }
def rmX9_seed : Room := { frames := 0, cells := 0, slots := 0, locals := 0 }
def rmX9_feed : Room := { frames := 1, cells := 0, slots := 0, locals := 25 }
def rmX9_wipe : Room := { frames := 0, cells := 0, slots := 0, locals := 0 }
def rmX9_byteAt : Room := { frames := 0, cells := 0, slots := 0, locals := 0 }
def rmX9_isLetter : Room := { frames := 1, cells := 0, slots := 0, locals := 25 }
def rmX9_isDigit : Room := { frames := 1, cells := 0, slots := 0, locals := 25 }
def rmX9_token : Room := { frames := 2, cells := 0, slots := 0, locals := 45 }
def rmX9_needs : Room := { frames := 3, cells := 0, slots := 0, locals := 67 }
def rmX9_word : Room := { frames := 2, cells := 0, slots := 0, locals := 45 }
def rmX9_number : Room := { frames := 4, cells := 0, slots := 0, locals := 88 }
def rmX9_kindHere : Room := { frames := 3, cells := 0, slots := 0, locals := 68 }
def rmX9_perhaps : Room := { frames := 5, cells := 0, slots := 0, locals := 113 }
def rmX9_houseItem : Room := { frames := 6, cells := 0, slots := 0, locals := 137 }
def rmX9_steepItem : Room := { frames := 6, cells := 0, slots := 0, locals := 137 }
def rmX9_item : Room := { frames := 7, cells := 0, slots := 0, locals := 163 }
def rmX9_text : Room := { frames := 8, cells := 0, slots := 0, locals := 185 }
def rmX9_hold : Room := { frames := 2, cells := 0, slots := 0, locals := 46 }
def rmX9_as : Room := { frames := 2, cells := 0, slots := 0, locals := 43 }
def rmX9_isOne : Room := { frames := 1, cells := 0, slots := 0, locals := 25 }
def rmX9_sheet : Room := { frames := 2, cells := 0, slots := 0, locals := 45 }
def rmX9_narrowed : Room := { frames := 0, cells := 0, slots := 0, locals := 0 }
def rmX9_wrong : Room := { frames := 2, cells := 0, slots := 0, locals := 45 }
def rmX9_write : Room := { frames := 3, cells := 0, slots := 0, locals := 66 }
def rmX9_copy : Room := { frames := 2, cells := 0, slots := 0, locals := 45 }
def rmX9_load : Room := { frames := 3, cells := 0, slots := 0, locals := 66 }
def rmX9_rounds : Room := { frames := 7, cells := 0, slots := 0, locals := 157 }
def rmX9_diary : Room := { frames := 10, cells := 0, slots := 0, locals := 231 }
def rmX9_judge : Room := { frames := 5, cells := 0, slots := 0, locals := 112 }
def rmX9_image : Room := { frames := 0, cells := 0, slots := 0, locals := 0 }
def rmX9_undo : Room := { frames := 1, cells := 0, slots := 0, locals := 21 }
def rmX9_tear : Room := { frames := 0, cells := 0, slots := 0, locals := 0 }
def rmX9_held : Room := { frames := 0, cells := 0, slots := 0, locals := 0 }
def rmX9_count : Room := { frames := 3, cells := 0, slots := 0, locals := 66 }
def rmX9_status : Room := { frames := 1, cells := 0, slots := 0, locals := 25 }
theorem in_X0 : ∀ w ∈ u_ws RX0 TX0 2, w ∈ lw_gd := in_of (by decide +kernel) (by decide +kernel)
theorem ft_X0 : FT RX0 TX0 2 tyX0 := ⟨in_X0, tyX0_ok, nmX0⟩
theorem in_X1 : ∀ w ∈ u_ws RX1 TX1 6, w ∈ lw_gd := in_of (by decide +kernel) (by decide +kernel)
theorem ft_X1 : FT RX1 TX1 6 tyX1 := ⟨in_X1, tyX1_ok, nmX1⟩
theorem in_X2 : ∀ w ∈ u_ws RX2 TX2 7, w ∈ lw_gd := in_of (by decide +kernel) (by decide +kernel)
theorem ft_X2 : FT RX2 TX2 7 tyX2 := ⟨in_X2, tyX2_ok, nmX2⟩
theorem in_X3 : ∀ w ∈ u_ws RX3 TX3 3, w ∈ lw_gd := in_of (by decide +kernel) (by decide +kernel)
theorem ft_X3 : FT RX3 TX3 3 tyX3 := ⟨in_X3, tyX3_ok, nmX3⟩
theorem in_X4 : ∀ w ∈ u_ws RX4 TX4 2, w ∈ lw_gd := in_of (by decide +kernel) (by decide +kernel)
theorem ft_X4 : FT RX4 TX4 2 tyX4 := ⟨in_X4, tyX4_ok, nmX4⟩
theorem in_X5 : ∀ w ∈ u_ws RX5 TX5 13, w ∈ lw_gd := in_of (by decide +kernel) (by decide +kernel)
theorem ft_X5 : FT RX5 TX5 13 tyX5 := ⟨in_X5, tyX5_ok, nmX5⟩
theorem in_X6 : ∀ w ∈ u_ws RX6 TX6 2, w ∈ lw_gd := in_of (by decide +kernel) (by decide +kernel)
theorem ft_X6 : FT RX6 TX6 2 tyX6 := ⟨in_X6, tyX6_ok, nmX6⟩
theorem in_X8 : ∀ w ∈ u_ws RX8 TX8 11, w ∈ lw_gd := in_of (by decide +kernel) (by decide +kernel)
theorem ft_X8 : FT RX8 TX8 11 tyX8 := ⟨in_X8, tyX8_ok, nmX8⟩
theorem in_X9 : ∀ w ∈ u_ws RX9 TX9 26, w ∈ lw_gd := in_of (by decide +kernel) (by decide +kernel)
theorem ft_X9 : FT RX9 TX9 26 tyX9 := ⟨in_X9, tyX9_ok, nmX9⟩
