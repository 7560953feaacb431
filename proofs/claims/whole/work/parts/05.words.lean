def mJ0_charAt_5068e : MI := (yJ0_charAt_5068e, cJ0_charAt_5068e, 2, (some .char), 5)
def mJ0_checkIndex_df160 : MI := (yJ0_checkIndex_df160, cJ0_checkIndex_df160, 2, none, 2)
def mJ0_coder_7d493 : MI := (yJ0_coder_7d493, cJ0_coder_7d493, 1, (some .byte), 0)
def mJ0_isLatin1_aae02 : MI := (yJ0_isLatin1_aae02, cJ0_isLatin1_aae02, 1, (some .boolean), 0)
def mJ0_length_8abf5 : MI := (yJ0_length_8abf5, cJ0_length_8abf5, 1, (some .int), 1)
def mJ1_charAt_3b067 : MI := (yJ1_charAt_3b067, cJ1_charAt_3b067, 2, (some .char), 3)
def mJ2_charAt_3b067 : MI := (yJ2_charAt_3b067, cJ2_charAt_3b067, 2, (some .char), 4)
def mJ2_checkIndex_2214a : MI := (yJ2_checkIndex_2214a, cJ2_checkIndex_2214a, 2, none, 3)
def mJ2_getChar_3b067 : MI := (yJ2_getChar_3b067, cJ2_getChar_3b067, 2, (some .char), 1)
def mJ2_length_9d52b : MI := (yJ2_length_9d52b, cJ2_length_9d52b, 1, (some .int), 0)
def mJ3_checkIndex_8e157 : MI := (yJ3_checkIndex_8e157, cJ3_checkIndex_8e157, 3, (some .int), 1)
def mJ7_fill_53178 : MI := (yJ7_fill_53178, cJ7_fill_53178, 4, none, 0)
def mJ9_max_7cf53 : MI := (yJ9_max_7cf53, cJ9_max_7cf53, 2, (some .int), 0)
def mJ9_min_7cf53 : MI := (yJ9_min_7cf53, cJ9_min_7cf53, 2, (some .int), 0)
def mX0_forget : MI := (yX0_forget, cX0_forget, 1, none, 0)
def mX0_init : MI := (yX0_init, cX0_init, 2, none, 2)
def mX0_remember : MI := (yX0_remember, cX0_remember, 2, none, 2)
def mX0_takeBack : MI := (yX0_takeBack, cX0_takeBack, 2, none, 2)
def mX1_append : MI := (yX1_append, cX1_append, 2, none, 2)
def mX1_appendAll : MI := (yX1_appendAll, cX1_appendAll, 3, none, 1)
def mX1_hasRoomFor : MI := (yX1_hasRoomFor, cX1_hasRoomFor, 2, (some .boolean), 0)
def mX1_init : MI := (yX1_init, cX1_init, 2, none, 1)
def mX1_isWordAt : MI := (yX1_isWordAt, cX1_isWordAt, 5, (some .boolean), 6)
def mX1_numberAt : MI := (yX1_numberAt, cX1_numberAt, 7, (some .int), 0)
def mX1_placeOf : MI := (yX1_placeOf, cX1_placeOf, 3, (some .int), 1)
def mX1_putAt : MI := (yX1_putAt, cX1_putAt, 3, none, 1)
def mX1_removeSpan : MI := (yX1_removeSpan, cX1_removeSpan, 3, none, 1)
def mX1_ruleAt : MI := (yX1_ruleAt, cX1_ruleAt, 4, (some .int), 7)
def mX1_standsAt : MI := (yX1_standsAt, cX1_standsAt, 4, (some .boolean), 0)
def mX2_addCase : MI := (yX2_addCase, cX2_addCase, 4, (some .int), 4)
def mX2_addJudge : MI := (yX2_addJudge, cX2_addJudge, 3, none, 0)
def mX2_casesOf : MI := (yX2_casesOf, cX2_casesOf, 4, (some .int), 0)
def mX2_clearAll : MI := (yX2_clearAll, cX2_clearAll, 1, none, 2)
def mX2_copyFrom : MI := (yX2_copyFrom, cX2_copyFrom, 2, none, 1)
def mX2_drawBelow : MI := (yX2_drawBelow, cX2_drawBelow, 6, (some .int), 1)
def mX2_drawCaseAgain : MI := (yX2_drawCaseAgain, cX2_drawCaseAgain, 3, (some .int), 4)
def mX2_drawJudge : MI := (yX2_drawJudge, cX2_drawJudge, 6, (some .int), 3)
def mX2_everyCaseHasSomeone : MI := (yX2_everyCaseHasSomeone, cX2_everyCaseHasSomeone, 2, (some .boolean), 3)
def mX2_hasCase : MI := (yX2_hasCase, cX2_hasCase, 2, (some .boolean), 0)
def mX2_hasJudge : MI := (yX2_hasJudge, cX2_hasJudge, 2, (some .boolean), 0)
def mX2_hasSomeoneFor : MI := (yX2_hasSomeoneFor, cX2_hasSomeoneFor, 4, (some .boolean), 2)
def mX2_init : MI := (yX2_init, cX2_init, 1, none, 1)
def mX2_isAway : MI := (yX2_isAway, cX2_isAway, 2, (some .boolean), 0)
def mX2_isBarred : MI := (yX2_isBarred, cX2_isBarred, 3, (some .boolean), 0)
def mX2_isFreeFor : MI := (yX2_isFreeFor, cX2_isFreeFor, 3, (some .boolean), 1)
def mX2_judgeReaching : MI := (yX2_judgeReaching, cX2_judgeReaching, 3, (some .int), 0)
def mX2_settleDebts : MI := (yX2_settleDebts, cX2_settleDebts, 5, none, 1)
def mX2_startAnew : MI := (yX2_startAnew, cX2_startAnew, 2, none, 1)
def mX2_weighAll : MI := (yX2_weighAll, cX2_weighAll, 4, (some .int), 2)
def mX2_weightOf : MI := (yX2_weightOf, cX2_weightOf, 4, (some .int), 1)
def mX2_weightsFreeFor : MI := (yX2_weightsFreeFor, cX2_weightsFreeFor, 5, (some .int), 2)
def mX3_init : MI := (yX3_init, cX3_init, 2, none, 1)
def mX3_isOther : MI := (yX3_isOther, cX3_isOther, 2, (some .boolean), 0)
def mX3_isWord : MI := (yX3_isWord, cX3_isWord, 2, (some .boolean), 7)
def mX3_numberWithin : MI := (yX3_numberWithin, cX3_numberWithin, 4, (some .int), 1)
def mX3_readAway : MI := (yX3_readAway, cX3_readAway, 3, (some .boolean), 2)
def mX3_readBar : MI := (yX3_readBar, cX3_readBar, 4, (some .boolean), 2)
def mX3_readClause : MI := (yX3_readClause, cX3_readClause, 2, (some .boolean), 9)
def mX3_readInto : MI := (yX3_readInto, cX3_readInto, 3, (some .int), 10)
def mX3_readJudge : MI := (yX3_readJudge, cX3_readJudge, 4, (some .boolean), 2)
def mX3_readRule : MI := (yX3_readRule, cX3_readRule, 3, (some .boolean), 8)
def mX3_step : MI := (yX3_step, cX3_step, 1, none, 1)
def mX3_versedTold : MI := (yX3_versedTold, cX3_versedTold, 4, (some .int), 1)
def mX4_assign : MI := (yX4_assign, cX4_assign, 3, (some .int), 5)
def mX4_away : MI := (yX4_away, cX4_away, 3, (some .int), 3)
def mX4_back : MI := (yX4_back, cX4_back, 2, (some .int), 2)
def mX4_caseOf : MI := (yX4_caseOf, cX4_caseOf, 3, (some .int), 1)
def mX4_commonDivisor : MI := (yX4_commonDivisor, cX4_commonDivisor, 6, (some .int), 1)
def mX4_count : MI := (yX4_count, cX4_count, 4, (some .int), 6)
def mX4_cut : MI := (yX4_cut, cX4_cut, 4, (some .int), 2)
def mX4_drop : MI := (yX4_drop, cX4_drop, 2, (some .int), 1)
def mX4_dropAllSlips : MI := (yX4_dropAllSlips, cX4_dropAllSlips, 2, none, 0)
def mX4_erase : MI := (yX4_erase, cX4_erase, 2, (some .int), 0)
def mX4_fault : MI := (yX4_fault, cX4_fault, 1, (some .int), 12)
def mX4_find : MI := (yX4_find, cX4_find, 3, (some .int), 4)
def mX4_forgetKept : MI := (yX4_forgetKept, cX4_forgetKept, 2, none, 0)
def mX4_init : MI := (yX4_init, cX4_init, 2, none, 3)
def mX4_insert : MI := (yX4_insert, cX4_insert, 4, (some .int), 2)
def mX4_isDigit : MI := (yX4_isDigit, cX4_isDigit, 1, (some .boolean), 0)
def mX4_isParty : MI := (yX4_isParty, cX4_isParty, 1, (some .boolean), 0)
def mX4_isSeed : MI := (yX4_isSeed, cX4_isSeed, 1, (some .boolean), 0)
def mX4_isSlip : MI := (yX4_isSlip, cX4_isSlip, 1, (some .boolean), 0)
def mX4_isSlipLetter : MI := (yX4_isSlipLetter, cX4_isSlipLetter, 1, (some .boolean), 1)
def mX4_isSmallLetter : MI := (yX4_isSmallLetter, cX4_isSmallLetter, 1, (some .boolean), 0)
def mX4_isSubject : MI := (yX4_isSubject, cX4_isSubject, 1, (some .boolean), 0)
def mX4_join : MI := (yX4_join, cX4_join, 3, (some .int), 2)
def mX4_judge : MI := (yX4_judge, cX4_judge, 3, (some .int), 1)
def mX4_keep : MI := (yX4_keep, cX4_keep, 2, (some .int), 2)
def mX4_letter : MI := (yX4_letter, cX4_letter, 3, (some .int), 1)
def mX4_lettersOfSlips : MI := (yX4_lettersOfSlips, cX4_lettersOfSlips, 3, (some .int), 0)
def mX4_lettersOfWriting : MI := (yX4_lettersOfWriting, cX4_lettersOfWriting, 1, (some .int), 4)
def mX4_like : MI := (yX4_like, cX4_like, 3, (some .int), 6)
def mX4_named : MI := (yX4_named, cX4_named, 2, (some .int), 8)
def mX4_next : MI := (yX4_next, cX4_next, 3, (some .int), 4)
def mX4_odds : MI := (yX4_odds, cX4_odds, 8, (some .int), 3)
def mX4_readText : MI := (yX4_readText, cX4_readText, 1, (some .int), 11)
def mX4_recountBy : MI := (yX4_recountBy, cX4_recountBy, 5, (some .int), 5)
def mX4_refuse : MI := (yX4_refuse, cX4_refuse, 2, (some .int), 5)
def mX4_ruleName : MI := (yX4_ruleName, cX4_ruleName, 1, (some (.object "java/lang/String")), 0)
def mX4_seal : MI := (yX4_seal, cX4_seal, 3, (some .int), 2)
def mX4_sealOf : MI := (yX4_sealOf, cX4_sealOf, 5, (some .int), 1)
def mX4_slip : MI := (yX4_slip, cX4_slip, 2, (some .int), 1)
def mX4_told : MI := (yX4_told, cX4_told, 2, (some .int), 5)
def mX4_turned : MI := (yX4_turned, cX4_turned, 2, (some .int), 0)
def mX4_undo : MI := (yX4_undo, cX4_undo, 1, (some .int), 3)
def mX4_value : MI := (yX4_value, cX4_value, 3, (some .int), 1)
def mX4_weight : MI := (yX4_weight, cX4_weight, 3, (some .int), 2)
def mX4_wheel : MI := (yX4_wheel, cX4_wheel, 1, (some .int), 12)
def mX4_write : MI := (yX4_write, cX4_write, 2, (some .int), 2)
def mX4_writeDocket : MI := (yX4_writeDocket, cX4_writeDocket, 2, none, 3)
def mX4_writing : MI := (yX4_writing, cX4_writing, 2, (some .int), 4)
def mX5_allLetters : MI := (yX5_allLetters, cX5_allLetters, 3, (some .int), 0)
def mX5_anew : MI := (yX5_anew, cX5_anew, 2, none, 0)
def mX5_assign : MI := (yX5_assign, cX5_assign, 4, (some .int), 4)
def mX5_assigned : MI := (yX5_assigned, cX5_assigned, 5, (some .int), 3)
def mX5_away : MI := (yX5_away, cX5_away, 3, (some .int), 2)
def mX5_back : MI := (yX5_back, cX5_back, 2, (some .int), 1)
def mX5_canCount : MI := (yX5_canCount, cX5_canCount, 3, (some .boolean), 3)
def mX5_caseOf : MI := (yX5_caseOf, cX5_caseOf, 3, (some .int), 2)
def mX5_copyRow : MI := (yX5_copyRow, cX5_copyRow, 4, none, 0)
def mX5_count : MI := (yX5_count, cX5_count, 4, (some .int), 5)
def mX5_cut : MI := (yX5_cut, cX5_cut, 5, (some .int), 2)
def mX5_does : MI := (yX5_does, cX5_does, 2, none, 1)
def mX5_drawFor : MI := (yX5_drawFor, cX5_drawFor, 7, (some .int), 1)
def mX5_drawOnce : MI := (yX5_drawOnce, cX5_drawOnce, 7, (some .int), 2)
def mX5_drop : MI := (yX5_drop, cX5_drop, 3, (some .int), 2)
def mX5_erase : MI := (yX5_erase, cX5_erase, 2, (some .int), 0)
def mX5_fault : MI := (yX5_fault, cX5_fault, 1, (some .int), 7)
def mX5_find : MI := (yX5_find, cX5_find, 5, (some .int), 2)
def mX5_has : MI := (yX5_has, cX5_has, 2, (some .boolean), 0)
def mX5_in : MI := (yX5_in, cX5_in, 6, (some .boolean), 0)
def mX5_init : MI := (yX5_init, cX5_init, 1, none, 1)
def mX5_insert : MI := (yX5_insert, cX5_insert, 5, (some .int), 2)
def mX5_isAnyone : MI := (yX5_isAnyone, cX5_isAnyone, 6, (some .boolean), 2)
def mX5_isBarred : MI := (yX5_isBarred, cX5_isBarred, 4, (some .boolean), 1)
def mX5_isCase : MI := (yX5_isCase, cX5_isCase, 2, (some .boolean), 1)
def mX5_isDigit : MI := (yX5_isDigit, cX5_isDigit, 1, (some .boolean), 1)
def mX5_isJudge : MI := (yX5_isJudge, cX5_isJudge, 2, (some .boolean), 1)
def mX5_isParty : MI := (yX5_isParty, cX5_isParty, 1, (some .boolean), 1)
def mX5_isSlip : MI := (yX5_isSlip, cX5_isSlip, 1, (some .boolean), 1)
def mX5_isSmall : MI := (yX5_isSmall, cX5_isSmall, 1, (some .boolean), 1)
def mX5_isSubject : MI := (yX5_isSubject, cX5_isSubject, 1, (some .boolean), 1)
def mX5_isWord : MI := (yX5_isWord, cX5_isWord, 4, (some .boolean), 0)
def mX5_join : MI := (yX5_join, cX5_join, 5, (some .int), 2)
def mX5_judge : MI := (yX5_judge, cX5_judge, 5, (some .int), 2)
def mX5_keep : MI := (yX5_keep, cX5_keep, 2, (some .int), 1)
def mX5_keepPast : MI := (yX5_keepPast, cX5_keepPast, 2, none, 1)
def mX5_layWriting : MI := (yX5_layWriting, cX5_layWriting, 2, none, 1)
def mX5_letter : MI := (yX5_letter, cX5_letter, 3, (some .int), 2)
def mX5_like : MI := (yX5_like, cX5_like, 3, (some .int), 5)
def mX5_named : MI := (yX5_named, cX5_named, 5, (some .int), 2)
def mX5_next : MI := (yX5_next, cX5_next, 3, (some .int), 4)
def mX5_nextToken : MI := (yX5_nextToken, cX5_nextToken, 1, none, 2)
def mX5_number : MI := (yX5_number, cX5_number, 6, (some .boolean), 3)
def mX5_odds : MI := (yX5_odds, cX5_odds, 10, (some .int), 3)
def mX5_owe : MI := (yX5_owe, cX5_owe, 6, none, 1)
def mX5_put : MI := (yX5_put, cX5_put, 2, none, 0)
def mX5_reads : MI := (yX5_reads, cX5_reads, 3, (some .boolean), 6)
def mX5_readsClause : MI := (yX5_readsClause, cX5_readsClause, 2, (some .boolean), 5)
def mX5_readsRest : MI := (yX5_readsRest, cX5_readsRest, 2, (some .boolean), 4)
def mX5_readsRule : MI := (yX5_readsRule, cX5_readsRule, 2, (some .boolean), 3)
def mX5_readsVersed : MI := (yX5_readsVersed, cX5_readsVersed, 4, (some .boolean), 3)
def mX5_refuse : MI := (yX5_refuse, cX5_refuse, 4, (some .int), 4)
def mX5_sameBy : MI := (yX5_sameBy, cX5_sameBy, 4, (some .int), 4)
def mX5_seal : MI := (yX5_seal, cX5_seal, 3, (some .int), 1)
def mX5_sealAt : MI := (yX5_sealAt, cX5_sealAt, 4, none, 0)
def mX5_sealOf : MI := (yX5_sealOf, cX5_sealOf, 5, (some .int), 1)
def mX5_slip : MI := (yX5_slip, cX5_slip, 2, (some .int), 2)
def mX5_standsAt : MI := (yX5_standsAt, cX5_standsAt, 6, (some .boolean), 0)
def mX5_told : MI := (yX5_told, cX5_told, 2, (some .int), 2)
def mX5_turned : MI := (yX5_turned, cX5_turned, 2, (some .int), 0)
def mX5_undo : MI := (yX5_undo, cX5_undo, 1, (some .int), 1)
def mX5_value : MI := (yX5_value, cX5_value, 5, (some .int), 2)
def mX5_weight : MI := (yX5_weight, cX5_weight, 3, (some .int), 2)
def mX5_weightOf : MI := (yX5_weightOf, cX5_weightOf, 5, (some .int), 1)
def mX5_wheel : MI := (yX5_wheel, cX5_wheel, 2, (some .int), 7)
def mX5_wordOf : MI := (yX5_wordOf, cX5_wordOf, 4, (some .int), 1)
def mX5_write : MI := (yX5_write, cX5_write, 2, (some .int), 1)
def mX5_writing : MI := (yX5_writing, cX5_writing, 2, (some .int), 2)
theorem xw_208 : (.fieldLink RX4 14 "CaseWheel" "text" "LCaseWheel$Letters;" : Cond) ∈ XW := (List.mem_filter.mpr ⟨List.mem_of_getElem? (i := 208) (by decide +kernel), by decide +kernel⟩)
theorem xw_209 : (.fieldLink RX4 18 "CaseWheel" "docket" "LCaseWheel$Letters;" : Cond) ∈ XW := (List.mem_filter.mpr ⟨List.mem_of_getElem? (i := 209) (by decide +kernel), by decide +kernel⟩)
theorem xw_210 : (.fieldLink RX4 21 "CaseWheel" "slips" "[LCaseWheel$Letters;" : Cond) ∈ XW := (List.mem_filter.mpr ⟨List.mem_of_getElem? (i := 210) (by decide +kernel), by decide +kernel⟩)
theorem xw_211 : (.fieldLink RX4 25 "CaseWheel" "isThere" "[Z" : Cond) ∈ XW := (List.mem_filter.mpr ⟨List.mem_of_getElem? (i := 211) (by decide +kernel), by decide +kernel⟩)
theorem xw_212 : (.fieldLink RX4 34 "CaseWheel" "reader" "LCaseWheel$TextReader;" : Cond) ∈ XW := (List.mem_filter.mpr ⟨List.mem_of_getElem? (i := 212) (by decide +kernel), by decide +kernel⟩)
theorem xw_213 : (.fieldLink RX4 41 "CaseWheel" "asTold" "LCaseWheel$State;" : Cond) ∈ XW := (List.mem_filter.mpr ⟨List.mem_of_getElem? (i := 213) (by decide +kernel), by decide +kernel⟩)
theorem xw_214 : (.fieldLink RX4 45 "CaseWheel" "asRead" "LCaseWheel$State;" : Cond) ∈ XW := (List.mem_filter.mpr ⟨List.mem_of_getElem? (i := 214) (by decide +kernel), by decide +kernel⟩)
theorem xw_215 : (.fieldLink RX4 48 "CaseWheel" "now" "LCaseWheel$State;" : Cond) ∈ XW := (List.mem_filter.mpr ⟨List.mem_of_getElem? (i := 215) (by decide +kernel), by decide +kernel⟩)
theorem xw_216 : (.fieldLink RX4 51 "CaseWheel" "foretold" "LCaseWheel$State;" : Cond) ∈ XW := (List.mem_filter.mpr ⟨List.mem_of_getElem? (i := 216) (by decide +kernel), by decide +kernel⟩)
theorem xw_217 : (.fieldLink RX4 57 "CaseWheel" "history" "LCaseWheel$History;" : Cond) ∈ XW := (List.mem_filter.mpr ⟨List.mem_of_getElem? (i := 217) (by decide +kernel), by decide +kernel⟩)
theorem xw_218 : (.fieldLink RX4 61 "CaseWheel" "kept" "[LCaseWheel$State;" : Cond) ∈ XW := (List.mem_filter.mpr ⟨List.mem_of_getElem? (i := 218) (by decide +kernel), by decide +kernel⟩)
theorem xw_219 : (.fieldLink RX4 65 "CaseWheel" "isKept" "[Z" : Cond) ∈ XW := (List.mem_filter.mpr ⟨List.mem_of_getElem? (i := 219) (by decide +kernel), by decide +kernel⟩)
theorem xw_86 : (.fieldLink RX4 72 "CaseWheel$Letters" "length" "I" : Cond) ∈ XW := (List.mem_filter.mpr ⟨List.mem_of_getElem? (i := 86) (by decide +kernel), by decide +kernel⟩)
theorem xw_106 : (.fieldLink RX4 97 "CaseWheel$TextReader" "clauses" "I" : Cond) ∈ XW := (List.mem_filter.mpr ⟨List.mem_of_getElem? (i := 106) (by decide +kernel), by decide +kernel⟩)
theorem xw_126 : (.fieldLink RX4 103 "CaseWheel$State" "strength" "[I" : Cond) ∈ XW := (List.mem_filter.mpr ⟨List.mem_of_getElem? (i := 126) (by decide +kernel), by decide +kernel⟩)
theorem xw_128 : (.fieldLink RX4 107 "CaseWheel$State" "versed" "[I" : Cond) ∈ XW := (List.mem_filter.mpr ⟨List.mem_of_getElem? (i := 128) (by decide +kernel), by decide +kernel⟩)
theorem xw_130 : (.fieldLink RX4 110 "CaseWheel$State" "barred" "[I" : Cond) ∈ XW := (List.mem_filter.mpr ⟨List.mem_of_getElem? (i := 130) (by decide +kernel), by decide +kernel⟩)
theorem xw_133 : (.fieldLink RX4 116 "CaseWheel$State" "debt" "[I" : Cond) ∈ XW := (List.mem_filter.mpr ⟨List.mem_of_getElem? (i := 133) (by decide +kernel), by decide +kernel⟩)
theorem xw_135 : (.fieldLink RX4 126 "CaseWheel$State" "subjectOf" "[I" : Cond) ∈ XW := (List.mem_filter.mpr ⟨List.mem_of_getElem? (i := 135) (by decide +kernel), by decide +kernel⟩)
theorem xw_137 : (.fieldLink RX4 129 "CaseWheel$State" "partyOf" "[I" : Cond) ∈ XW := (List.mem_filter.mpr ⟨List.mem_of_getElem? (i := 137) (by decide +kernel), by decide +kernel⟩)
theorem xw_139 : (.fieldLink RX4 132 "CaseWheel$State" "judgeOf" "[I" : Cond) ∈ XW := (List.mem_filter.mpr ⟨List.mem_of_getElem? (i := 139) (by decide +kernel), by decide +kernel⟩)
theorem xw_156 : (.fieldLink RX4 138 "CaseWheel$State" "cases" "I" : Cond) ∈ XW := (List.mem_filter.mpr ⟨List.mem_of_getElem? (i := 156) (by decide +kernel), by decide +kernel⟩)
theorem xw_146 : (.fieldLink RX4 164 "CaseWheel$State" "away" "I" : Cond) ∈ XW := (List.mem_filter.mpr ⟨List.mem_of_getElem? (i := 146) (by decide +kernel), by decide +kernel⟩)
theorem xw_200 : (.fieldLink RX4 167 "CaseWheel$History" "size" "I" : Cond) ∈ XW := (List.mem_filter.mpr ⟨List.mem_of_getElem? (i := 200) (by decide +kernel), by decide +kernel⟩)
theorem xw_84 : (.fieldLink RX4 176 "CaseWheel$Letters" "row" "[I" : Cond) ∈ XW := (List.mem_filter.mpr ⟨List.mem_of_getElem? (i := 84) (by decide +kernel), by decide +kernel⟩)
theorem xw_154 : (.fieldLink RX4 205 "CaseWheel$State" "turns" "I" : Cond) ∈ XW := (List.mem_filter.mpr ⟨List.mem_of_getElem? (i := 154) (by decide +kernel), by decide +kernel⟩)
theorem xw_143 : (.fieldLink RX4 231 "CaseWheel$State" "judges" "I" : Cond) ∈ XW := (List.mem_filter.mpr ⟨List.mem_of_getElem? (i := 143) (by decide +kernel), by decide +kernel⟩)
theorem xw_149 : (.fieldLink RX4 234 "CaseWheel$State" "rule" "I" : Cond) ∈ XW := (List.mem_filter.mpr ⟨List.mem_of_getElem? (i := 149) (by decide +kernel), by decide +kernel⟩)
theorem xw_151 : (.fieldLink RX4 243 "CaseWheel$State" "seed" "I" : Cond) ∈ XW := (List.mem_filter.mpr ⟨List.mem_of_getElem? (i := 151) (by decide +kernel), by decide +kernel⟩)
theorem xw_197 : (.fieldLink RX0 11 "CaseWheel$History" "before" "[LCaseWheel$State;" : Cond) ∈ XW := (List.mem_filter.mpr ⟨List.mem_of_getElem? (i := 197) (by decide +kernel), by decide +kernel⟩)
theorem xw_199 : (.fieldLink RX0 18 "CaseWheel$History" "size" "I" : Cond) ∈ XW := (List.mem_filter.mpr ⟨List.mem_of_getElem? (i := 199) (by decide +kernel), by decide +kernel⟩)
theorem xw_198 : (.fieldLink RX0 22 "CaseWheel$History" "oldest" "I" : Cond) ∈ XW := (List.mem_filter.mpr ⟨List.mem_of_getElem? (i := 198) (by decide +kernel), by decide +kernel⟩)
theorem xw_82 : (.fieldLink RX1 15 "CaseWheel$Letters" "row" "[I" : Cond) ∈ XW := (List.mem_filter.mpr ⟨List.mem_of_getElem? (i := 82) (by decide +kernel), by decide +kernel⟩)
theorem xw_85 : (.fieldLink RX1 21 "CaseWheel$Letters" "length" "I" : Cond) ∈ XW := (List.mem_filter.mpr ⟨List.mem_of_getElem? (i := 85) (by decide +kernel), by decide +kernel⟩)
theorem xw_125 : (.fieldLink RX2 9 "CaseWheel$State" "strength" "[I" : Cond) ∈ XW := (List.mem_filter.mpr ⟨List.mem_of_getElem? (i := 125) (by decide +kernel), by decide +kernel⟩)
theorem xw_127 : (.fieldLink RX2 15 "CaseWheel$State" "versed" "[I" : Cond) ∈ XW := (List.mem_filter.mpr ⟨List.mem_of_getElem? (i := 127) (by decide +kernel), by decide +kernel⟩)
theorem xw_129 : (.fieldLink RX2 18 "CaseWheel$State" "barred" "[I" : Cond) ∈ XW := (List.mem_filter.mpr ⟨List.mem_of_getElem? (i := 129) (by decide +kernel), by decide +kernel⟩)
theorem xw_132 : (.fieldLink RX2 21 "CaseWheel$State" "debt" "[I" : Cond) ∈ XW := (List.mem_filter.mpr ⟨List.mem_of_getElem? (i := 132) (by decide +kernel), by decide +kernel⟩)
theorem xw_134 : (.fieldLink RX2 24 "CaseWheel$State" "subjectOf" "[I" : Cond) ∈ XW := (List.mem_filter.mpr ⟨List.mem_of_getElem? (i := 134) (by decide +kernel), by decide +kernel⟩)
theorem xw_136 : (.fieldLink RX2 27 "CaseWheel$State" "partyOf" "[I" : Cond) ∈ XW := (List.mem_filter.mpr ⟨List.mem_of_getElem? (i := 136) (by decide +kernel), by decide +kernel⟩)
theorem xw_138 : (.fieldLink RX2 30 "CaseWheel$State" "judgeOf" "[I" : Cond) ∈ XW := (List.mem_filter.mpr ⟨List.mem_of_getElem? (i := 138) (by decide +kernel), by decide +kernel⟩)
theorem xw_140 : (.fieldLink RX2 33 "CaseWheel$State" "weightsUpTo" "[I" : Cond) ∈ XW := (List.mem_filter.mpr ⟨List.mem_of_getElem? (i := 140) (by decide +kernel), by decide +kernel⟩)
theorem xw_147 : (.fieldLink RX2 36 "CaseWheel$State" "rule" "I" : Cond) ∈ XW := (List.mem_filter.mpr ⟨List.mem_of_getElem? (i := 147) (by decide +kernel), by decide +kernel⟩)
theorem xw_150 : (.fieldLink RX2 40 "CaseWheel$State" "seed" "I" : Cond) ∈ XW := (List.mem_filter.mpr ⟨List.mem_of_getElem? (i := 150) (by decide +kernel), by decide +kernel⟩)
theorem xw_152 : (.fieldLink RX2 43 "CaseWheel$State" "chain" "I" : Cond) ∈ XW := (List.mem_filter.mpr ⟨List.mem_of_getElem? (i := 152) (by decide +kernel), by decide +kernel⟩)
theorem xw_141 : (.fieldLink RX2 52 "CaseWheel$State" "judges" "I" : Cond) ∈ XW := (List.mem_filter.mpr ⟨List.mem_of_getElem? (i := 141) (by decide +kernel), by decide +kernel⟩)
theorem xw_144 : (.fieldLink RX2 55 "CaseWheel$State" "away" "I" : Cond) ∈ XW := (List.mem_filter.mpr ⟨List.mem_of_getElem? (i := 144) (by decide +kernel), by decide +kernel⟩)
theorem xw_153 : (.fieldLink RX2 58 "CaseWheel$State" "turns" "I" : Cond) ∈ XW := (List.mem_filter.mpr ⟨List.mem_of_getElem? (i := 153) (by decide +kernel), by decide +kernel⟩)
theorem xw_155 : (.fieldLink RX2 61 "CaseWheel$State" "cases" "I" : Cond) ∈ XW := (List.mem_filter.mpr ⟨List.mem_of_getElem? (i := 155) (by decide +kernel), by decide +kernel⟩)
theorem xw_101 : (.fieldLink RX3 9 "CaseWheel$TextReader" "text" "LCaseWheel$Letters;" : Cond) ∈ XW := (List.mem_filter.mpr ⟨List.mem_of_getElem? (i := 101) (by decide +kernel), by decide +kernel⟩)
theorem xw_104 : (.fieldLink RX3 15 "CaseWheel$TextReader" "end" "I" : Cond) ∈ XW := (List.mem_filter.mpr ⟨List.mem_of_getElem? (i := 104) (by decide +kernel), by decide +kernel⟩)
theorem xw_105 : (.fieldLink RX3 19 "CaseWheel$TextReader" "clauses" "I" : Cond) ∈ XW := (List.mem_filter.mpr ⟨List.mem_of_getElem? (i := 105) (by decide +kernel), by decide +kernel⟩)
theorem xw_103 : (.fieldLink RX3 29 "CaseWheel$TextReader" "start" "I" : Cond) ∈ XW := (List.mem_filter.mpr ⟨List.mem_of_getElem? (i := 103) (by decide +kernel), by decide +kernel⟩)
theorem xw_102 : (.fieldLink RX3 32 "CaseWheel$TextReader" "kind" "I" : Cond) ∈ XW := (List.mem_filter.mpr ⟨List.mem_of_getElem? (i := 102) (by decide +kernel), by decide +kernel⟩)
theorem xw_87 : (.fieldLink RX3 39 "CaseWheel$Letters" "length" "I" : Cond) ∈ XW := (List.mem_filter.mpr ⟨List.mem_of_getElem? (i := 87) (by decide +kernel), by decide +kernel⟩)
theorem xw_83 : (.fieldLink RX3 44 "CaseWheel$Letters" "row" "[I" : Cond) ∈ XW := (List.mem_filter.mpr ⟨List.mem_of_getElem? (i := 83) (by decide +kernel), by decide +kernel⟩)
theorem xw_142 : (.fieldLink RX3 93 "CaseWheel$State" "judges" "I" : Cond) ∈ XW := (List.mem_filter.mpr ⟨List.mem_of_getElem? (i := 142) (by decide +kernel), by decide +kernel⟩)
theorem xw_131 : (.fieldLink RX3 111 "CaseWheel$State" "barred" "[I" : Cond) ∈ XW := (List.mem_filter.mpr ⟨List.mem_of_getElem? (i := 131) (by decide +kernel), by decide +kernel⟩)
theorem xw_145 : (.fieldLink RX3 114 "CaseWheel$State" "away" "I" : Cond) ∈ XW := (List.mem_filter.mpr ⟨List.mem_of_getElem? (i := 145) (by decide +kernel), by decide +kernel⟩)
theorem xw_148 : (.fieldLink RX3 119 "CaseWheel$State" "rule" "I" : Cond) ∈ XW := (List.mem_filter.mpr ⟨List.mem_of_getElem? (i := 148) (by decide +kernel), by decide +kernel⟩)
theorem xw_707 : (.fieldLink RX5 7 "CaseWheelModel" "row" "[I" : Cond) ∈ XW := (List.mem_filter.mpr ⟨List.mem_of_getElem? (i := 707) (by decide +kernel), by decide +kernel⟩)
theorem xw_710 : (.fieldLink RX5 13 "CaseWheelModel" "strengths" "[I" : Cond) ∈ XW := (List.mem_filter.mpr ⟨List.mem_of_getElem? (i := 710) (by decide +kernel), by decide +kernel⟩)
theorem xw_711 : (.fieldLink RX5 16 "CaseWheelModel" "versed" "[I" : Cond) ∈ XW := (List.mem_filter.mpr ⟨List.mem_of_getElem? (i := 711) (by decide +kernel), by decide +kernel⟩)
theorem xw_713 : (.fieldLink RX5 19 "CaseWheelModel" "isKept" "[Z" : Cond) ∈ XW := (List.mem_filter.mpr ⟨List.mem_of_getElem? (i := 713) (by decide +kernel), by decide +kernel⟩)
theorem xw_714 : (.fieldLink RX5 23 "CaseWheelModel" "text" "[I" : Cond) ∈ XW := (List.mem_filter.mpr ⟨List.mem_of_getElem? (i := 714) (by decide +kernel), by decide +kernel⟩)
theorem xw_716 : (.fieldLink RX5 26 "CaseWheelModel" "sizes" "[I" : Cond) ∈ XW := (List.mem_filter.mpr ⟨List.mem_of_getElem? (i := 716) (by decide +kernel), by decide +kernel⟩)
theorem xw_717 : (.fieldLink RX5 29 "CaseWheelModel" "letters" "[I" : Cond) ∈ XW := (List.mem_filter.mpr ⟨List.mem_of_getElem? (i := 717) (by decide +kernel), by decide +kernel⟩)
theorem xw_723 : (.fieldLink RX5 32 "CaseWheelModel" "numbers" "[I" : Cond) ∈ XW := (List.mem_filter.mpr ⟨List.mem_of_getElem? (i := 723) (by decide +kernel), by decide +kernel⟩)
theorem xw_724 : (.fieldLink RX5 35 "CaseWheelModel" "words" "[I" : Cond) ∈ XW := (List.mem_filter.mpr ⟨List.mem_of_getElem? (i := 724) (by decide +kernel), by decide +kernel⟩)
theorem xw_725 : (.fieldLink RX5 38 "CaseWheelModel" "written" "[I" : Cond) ∈ XW := (List.mem_filter.mpr ⟨List.mem_of_getElem? (i := 725) (by decide +kernel), by decide +kernel⟩)
theorem xw_708 : (.fieldLink RX5 48 "CaseWheelModel" "judges" "I" : Cond) ∈ XW := (List.mem_filter.mpr ⟨List.mem_of_getElem? (i := 708) (by decide +kernel), by decide +kernel⟩)
theorem xw_709 : (.fieldLink RX5 52 "CaseWheelModel" "rule" "I" : Cond) ∈ XW := (List.mem_filter.mpr ⟨List.mem_of_getElem? (i := 709) (by decide +kernel), by decide +kernel⟩)
theorem xw_715 : (.fieldLink RX5 61 "CaseWheelModel" "length" "I" : Cond) ∈ XW := (List.mem_filter.mpr ⟨List.mem_of_getElem? (i := 715) (by decide +kernel), by decide +kernel⟩)
theorem xw_719 : (.fieldLink RX5 72 "CaseWheelModel" "behind" "I" : Cond) ∈ XW := (List.mem_filter.mpr ⟨List.mem_of_getElem? (i := 719) (by decide +kernel), by decide +kernel⟩)
theorem xw_718 : (.fieldLink RX5 75 "CaseWheelModel" "first" "I" : Cond) ∈ XW := (List.mem_filter.mpr ⟨List.mem_of_getElem? (i := 718) (by decide +kernel), by decide +kernel⟩)
theorem xw_720 : (.fieldLink RX5 109 "CaseWheelModel" "readJudges" "I" : Cond) ∈ XW := (List.mem_filter.mpr ⟨List.mem_of_getElem? (i := 720) (by decide +kernel), by decide +kernel⟩)
theorem xw_722 : (.fieldLink RX5 118 "CaseWheelModel" "doing" "Z" : Cond) ∈ XW := (List.mem_filter.mpr ⟨List.mem_of_getElem? (i := 722) (by decide +kernel), by decide +kernel⟩)
theorem xw_721 : (.fieldLink RX5 126 "CaseWheelModel" "clauses" "I" : Cond) ∈ XW := (List.mem_filter.mpr ⟨List.mem_of_getElem? (i := 721) (by decide +kernel), by decide +kernel⟩)
theorem xw_712 : (.fieldLink RX5 136 "CaseWheelModel" "undos" "I" : Cond) ∈ XW := (List.mem_filter.mpr ⟨List.mem_of_getElem? (i := 712) (by decide +kernel), by decide +kernel⟩)
theorem xw_726 : (.fieldLink RX5 188 "CaseWheelModel" "writtenMany" "I" : Cond) ∈ XW := (List.mem_filter.mpr ⟨List.mem_of_getElem? (i := 726) (by decide +kernel), by decide +kernel⟩)
theorem xw_252 : (mcd mX1_hasRoomFor : Cond) ∈ XW := (List.mem_filter.mpr ⟨List.mem_of_getElem? (i := 252) (by decide +kernel), by decide +kernel⟩)
theorem xw_53 : (.initialized RX1 : Cond) ∈ XW := (List.mem_filter.mpr ⟨List.mem_of_getElem? (i := 53) (by decide +kernel), by decide +kernel⟩)
theorem xw_249 : (.methodLink RX4 68 yX1_hasRoomFor : Cond) ∈ XW := (List.mem_filter.mpr ⟨List.mem_of_getElem? (i := 249) (by decide +kernel), by decide +kernel⟩)
theorem xw_250 : (.instanceMethod yX1_hasRoomFor : Cond) ∈ XW := (List.mem_filter.mpr ⟨List.mem_of_getElem? (i := 250) (by decide +kernel), by decide +kernel⟩)
theorem xw_251 : (.selects RX1 yX1_hasRoomFor yX1_hasRoomFor : Cond) ∈ XW := (List.mem_filter.mpr ⟨List.mem_of_getElem? (i := 251) (by decide +kernel), by decide +kernel⟩)
theorem xw_256 : (mcd mX1_putAt : Cond) ∈ XW := (List.mem_filter.mpr ⟨List.mem_of_getElem? (i := 256) (by decide +kernel), by decide +kernel⟩)
theorem xw_253 : (.methodLink RX4 76 yX1_putAt : Cond) ∈ XW := (List.mem_filter.mpr ⟨List.mem_of_getElem? (i := 253) (by decide +kernel), by decide +kernel⟩)
theorem xw_254 : (.instanceMethod yX1_putAt : Cond) ∈ XW := (List.mem_filter.mpr ⟨List.mem_of_getElem? (i := 254) (by decide +kernel), by decide +kernel⟩)
theorem xw_255 : (.selects RX1 yX1_putAt yX1_putAt : Cond) ∈ XW := (List.mem_filter.mpr ⟨List.mem_of_getElem? (i := 255) (by decide +kernel), by decide +kernel⟩)
theorem xw_272 : (mcd mX4_readText : Cond) ∈ XW := (List.mem_filter.mpr ⟨List.mem_of_getElem? (i := 272) (by decide +kernel), by decide +kernel⟩)
theorem xw_52 : (.initialized RX4 : Cond) ∈ XW := (List.mem_filter.mpr ⟨List.mem_of_getElem? (i := 52) (by decide +kernel), by decide +kernel⟩)
theorem xw_269 : (.methodLink RX4 80 yX4_readText : Cond) ∈ XW := (List.mem_filter.mpr ⟨List.mem_of_getElem? (i := 269) (by decide +kernel), by decide +kernel⟩)
theorem xw_271 : (.instanceMethod yX4_readText : Cond) ∈ XW := (List.mem_filter.mpr ⟨List.mem_of_getElem? (i := 271) (by decide +kernel), by decide +kernel⟩)
theorem xw_0 : (.selects RX4 yX4_readText yX4_readText : Cond) ∈ XW := (List.mem_filter.mpr ⟨List.mem_of_getElem? (i := 0) (by decide +kernel), by decide +kernel⟩)
theorem xw_276 : (mcd mX2_copyFrom : Cond) ∈ XW := (List.mem_filter.mpr ⟨List.mem_of_getElem? (i := 276) (by decide +kernel), by decide +kernel⟩)
theorem xw_56 : (.initialized RX2 : Cond) ∈ XW := (List.mem_filter.mpr ⟨List.mem_of_getElem? (i := 56) (by decide +kernel), by decide +kernel⟩)
theorem xw_273 : (.methodLink RX4 84 yX2_copyFrom : Cond) ∈ XW := (List.mem_filter.mpr ⟨List.mem_of_getElem? (i := 273) (by decide +kernel), by decide +kernel⟩)
theorem xw_274 : (.instanceMethod yX2_copyFrom : Cond) ∈ XW := (List.mem_filter.mpr ⟨List.mem_of_getElem? (i := 274) (by decide +kernel), by decide +kernel⟩)
theorem xw_275 : (.selects RX2 yX2_copyFrom yX2_copyFrom : Cond) ∈ XW := (List.mem_filter.mpr ⟨List.mem_of_getElem? (i := 275) (by decide +kernel), by decide +kernel⟩)
theorem xw_427 : (mcd mX0_forget : Cond) ∈ XW := (List.mem_filter.mpr ⟨List.mem_of_getElem? (i := 427) (by decide +kernel), by decide +kernel⟩)
theorem xw_57 : (.initialized RX0 : Cond) ∈ XW := (List.mem_filter.mpr ⟨List.mem_of_getElem? (i := 57) (by decide +kernel), by decide +kernel⟩)
theorem xw_424 : (.methodLink RX4 88 yX0_forget : Cond) ∈ XW := (List.mem_filter.mpr ⟨List.mem_of_getElem? (i := 424) (by decide +kernel), by decide +kernel⟩)
theorem xw_425 : (.instanceMethod yX0_forget : Cond) ∈ XW := (List.mem_filter.mpr ⟨List.mem_of_getElem? (i := 425) (by decide +kernel), by decide +kernel⟩)
theorem xw_426 : (.selects RX0 yX0_forget yX0_forget : Cond) ∈ XW := (List.mem_filter.mpr ⟨List.mem_of_getElem? (i := 426) (by decide +kernel), by decide +kernel⟩)
theorem xw_431 : (mcd mX4_forgetKept : Cond) ∈ XW := (List.mem_filter.mpr ⟨List.mem_of_getElem? (i := 431) (by decide +kernel), by decide +kernel⟩)
theorem xw_428 : (.methodLink RX4 91 yX4_forgetKept : Cond) ∈ XW := (List.mem_filter.mpr ⟨List.mem_of_getElem? (i := 428) (by decide +kernel), by decide +kernel⟩)
theorem xw_430 : (.instanceMethod yX4_forgetKept : Cond) ∈ XW := (List.mem_filter.mpr ⟨List.mem_of_getElem? (i := 430) (by decide +kernel), by decide +kernel⟩)
theorem xw_11 : (.selects RX4 yX4_forgetKept yX4_forgetKept : Cond) ∈ XW := (List.mem_filter.mpr ⟨List.mem_of_getElem? (i := 11) (by decide +kernel), by decide +kernel⟩)
theorem xw_435 : (mcd mX4_dropAllSlips : Cond) ∈ XW := (List.mem_filter.mpr ⟨List.mem_of_getElem? (i := 435) (by decide +kernel), by decide +kernel⟩)
theorem xw_432 : (.methodLink RX4 94 yX4_dropAllSlips : Cond) ∈ XW := (List.mem_filter.mpr ⟨List.mem_of_getElem? (i := 432) (by decide +kernel), by decide +kernel⟩)
theorem xw_434 : (.instanceMethod yX4_dropAllSlips : Cond) ∈ XW := (List.mem_filter.mpr ⟨List.mem_of_getElem? (i := 434) (by decide +kernel), by decide +kernel⟩)
theorem xw_12 : (.selects RX4 yX4_dropAllSlips yX4_dropAllSlips : Cond) ∈ XW := (List.mem_filter.mpr ⟨List.mem_of_getElem? (i := 12) (by decide +kernel), by decide +kernel⟩)
theorem xw_443 : (mcd mX2_hasJudge : Cond) ∈ XW := (List.mem_filter.mpr ⟨List.mem_of_getElem? (i := 443) (by decide +kernel), by decide +kernel⟩)
theorem xw_440 : (.methodLink RX4 100 yX2_hasJudge : Cond) ∈ XW := (List.mem_filter.mpr ⟨List.mem_of_getElem? (i := 440) (by decide +kernel), by decide +kernel⟩)
theorem xw_441 : (.instanceMethod yX2_hasJudge : Cond) ∈ XW := (List.mem_filter.mpr ⟨List.mem_of_getElem? (i := 441) (by decide +kernel), by decide +kernel⟩)
theorem xw_442 : (.selects RX2 yX2_hasJudge yX2_hasJudge : Cond) ∈ XW := (List.mem_filter.mpr ⟨List.mem_of_getElem? (i := 442) (by decide +kernel), by decide +kernel⟩)
theorem xw_447 : (mcd mX2_isAway : Cond) ∈ XW := (List.mem_filter.mpr ⟨List.mem_of_getElem? (i := 447) (by decide +kernel), by decide +kernel⟩)
theorem xw_444 : (.methodLink RX4 113 yX2_isAway : Cond) ∈ XW := (List.mem_filter.mpr ⟨List.mem_of_getElem? (i := 444) (by decide +kernel), by decide +kernel⟩)
theorem xw_445 : (.instanceMethod yX2_isAway : Cond) ∈ XW := (List.mem_filter.mpr ⟨List.mem_of_getElem? (i := 445) (by decide +kernel), by decide +kernel⟩)
theorem xw_446 : (.selects RX2 yX2_isAway yX2_isAway : Cond) ∈ XW := (List.mem_filter.mpr ⟨List.mem_of_getElem? (i := 446) (by decide +kernel), by decide +kernel⟩)
theorem xw_451 : (mcd mX2_casesOf : Cond) ∈ XW := (List.mem_filter.mpr ⟨List.mem_of_getElem? (i := 451) (by decide +kernel), by decide +kernel⟩)
theorem xw_448 : (.methodLink RX4 119 yX2_casesOf : Cond) ∈ XW := (List.mem_filter.mpr ⟨List.mem_of_getElem? (i := 448) (by decide +kernel), by decide +kernel⟩)
theorem xw_449 : (.instanceMethod yX2_casesOf : Cond) ∈ XW := (List.mem_filter.mpr ⟨List.mem_of_getElem? (i := 449) (by decide +kernel), by decide +kernel⟩)
theorem xw_450 : (.selects RX2 yX2_casesOf yX2_casesOf : Cond) ∈ XW := (List.mem_filter.mpr ⟨List.mem_of_getElem? (i := 450) (by decide +kernel), by decide +kernel⟩)
theorem xw_459 : (mcd mX2_hasCase : Cond) ∈ XW := (List.mem_filter.mpr ⟨List.mem_of_getElem? (i := 459) (by decide +kernel), by decide +kernel⟩)
theorem xw_456 : (.methodLink RX4 123 yX2_hasCase : Cond) ∈ XW := (List.mem_filter.mpr ⟨List.mem_of_getElem? (i := 456) (by decide +kernel), by decide +kernel⟩)
theorem xw_457 : (.instanceMethod yX2_hasCase : Cond) ∈ XW := (List.mem_filter.mpr ⟨List.mem_of_getElem? (i := 457) (by decide +kernel), by decide +kernel⟩)
theorem xw_458 : (.selects RX2 yX2_hasCase yX2_hasCase : Cond) ∈ XW := (List.mem_filter.mpr ⟨List.mem_of_getElem? (i := 458) (by decide +kernel), by decide +kernel⟩)
theorem xw_466 : (mcd mX4_isSeed : Cond) ∈ XW := (List.mem_filter.mpr ⟨List.mem_of_getElem? (i := 466) (by decide +kernel), by decide +kernel⟩)
theorem xw_464 : (.methodLink RX4 135 yX4_isSeed : Cond) ∈ XW := (List.mem_filter.mpr ⟨List.mem_of_getElem? (i := 464) (by decide +kernel), by decide +kernel⟩)
theorem xw_465 : (.static yX4_isSeed : Cond) ∈ XW := (List.mem_filter.mpr ⟨List.mem_of_getElem? (i := 465) (by decide +kernel), by decide +kernel⟩)
theorem xw_360 : (mcd mX2_startAnew : Cond) ∈ XW := (List.mem_filter.mpr ⟨List.mem_of_getElem? (i := 360) (by decide +kernel), by decide +kernel⟩)
theorem xw_467 : (.methodLink RX4 141 yX2_startAnew : Cond) ∈ XW := (List.mem_filter.mpr ⟨List.mem_of_getElem? (i := 467) (by decide +kernel), by decide +kernel⟩)
theorem xw_358 : (.instanceMethod yX2_startAnew : Cond) ∈ XW := (List.mem_filter.mpr ⟨List.mem_of_getElem? (i := 358) (by decide +kernel), by decide +kernel⟩)
theorem xw_359 : (.selects RX2 yX2_startAnew yX2_startAnew : Cond) ∈ XW := (List.mem_filter.mpr ⟨List.mem_of_getElem? (i := 359) (by decide +kernel), by decide +kernel⟩)
theorem xw_383 : (mcd mX4_isSubject : Cond) ∈ XW := (List.mem_filter.mpr ⟨List.mem_of_getElem? (i := 383) (by decide +kernel), by decide +kernel⟩)
theorem xw_472 : (.methodLink RX4 144 yX4_isSubject : Cond) ∈ XW := (List.mem_filter.mpr ⟨List.mem_of_getElem? (i := 472) (by decide +kernel), by decide +kernel⟩)
theorem xw_382 : (.static yX4_isSubject : Cond) ∈ XW := (List.mem_filter.mpr ⟨List.mem_of_getElem? (i := 382) (by decide +kernel), by decide +kernel⟩)
theorem xw_475 : (mcd mX4_isParty : Cond) ∈ XW := (List.mem_filter.mpr ⟨List.mem_of_getElem? (i := 475) (by decide +kernel), by decide +kernel⟩)
theorem xw_473 : (.methodLink RX4 147 yX4_isParty : Cond) ∈ XW := (List.mem_filter.mpr ⟨List.mem_of_getElem? (i := 473) (by decide +kernel), by decide +kernel⟩)
theorem xw_474 : (.static yX4_isParty : Cond) ∈ XW := (List.mem_filter.mpr ⟨List.mem_of_getElem? (i := 474) (by decide +kernel), by decide +kernel⟩)
theorem xw_479 : (mcd mX2_hasSomeoneFor : Cond) ∈ XW := (List.mem_filter.mpr ⟨List.mem_of_getElem? (i := 479) (by decide +kernel), by decide +kernel⟩)
theorem xw_476 : (.methodLink RX4 150 yX2_hasSomeoneFor : Cond) ∈ XW := (List.mem_filter.mpr ⟨List.mem_of_getElem? (i := 476) (by decide +kernel), by decide +kernel⟩)
theorem xw_477 : (.instanceMethod yX2_hasSomeoneFor : Cond) ∈ XW := (List.mem_filter.mpr ⟨List.mem_of_getElem? (i := 477) (by decide +kernel), by decide +kernel⟩)
theorem xw_478 : (.selects RX2 yX2_hasSomeoneFor yX2_hasSomeoneFor : Cond) ∈ XW := (List.mem_filter.mpr ⟨List.mem_of_getElem? (i := 478) (by decide +kernel), by decide +kernel⟩)
theorem xw_492 : (mcd mX0_remember : Cond) ∈ XW := (List.mem_filter.mpr ⟨List.mem_of_getElem? (i := 492) (by decide +kernel), by decide +kernel⟩)
theorem xw_489 : (.methodLink RX4 154 yX0_remember : Cond) ∈ XW := (List.mem_filter.mpr ⟨List.mem_of_getElem? (i := 489) (by decide +kernel), by decide +kernel⟩)
theorem xw_490 : (.instanceMethod yX0_remember : Cond) ∈ XW := (List.mem_filter.mpr ⟨List.mem_of_getElem? (i := 490) (by decide +kernel), by decide +kernel⟩)
theorem xw_491 : (.selects RX0 yX0_remember yX0_remember : Cond) ∈ XW := (List.mem_filter.mpr ⟨List.mem_of_getElem? (i := 491) (by decide +kernel), by decide +kernel⟩)
theorem xw_497 : (mcd mX2_addCase : Cond) ∈ XW := (List.mem_filter.mpr ⟨List.mem_of_getElem? (i := 497) (by decide +kernel), by decide +kernel⟩)
theorem xw_494 : (.methodLink RX4 157 yX2_addCase : Cond) ∈ XW := (List.mem_filter.mpr ⟨List.mem_of_getElem? (i := 494) (by decide +kernel), by decide +kernel⟩)
theorem xw_495 : (.instanceMethod yX2_addCase : Cond) ∈ XW := (List.mem_filter.mpr ⟨List.mem_of_getElem? (i := 495) (by decide +kernel), by decide +kernel⟩)
theorem xw_496 : (.selects RX2 yX2_addCase yX2_addCase : Cond) ∈ XW := (List.mem_filter.mpr ⟨List.mem_of_getElem? (i := 496) (by decide +kernel), by decide +kernel⟩)
theorem xw_538 : (mcd mX2_drawCaseAgain : Cond) ∈ XW := (List.mem_filter.mpr ⟨List.mem_of_getElem? (i := 538) (by decide +kernel), by decide +kernel⟩)
theorem xw_535 : (.methodLink RX4 161 yX2_drawCaseAgain : Cond) ∈ XW := (List.mem_filter.mpr ⟨List.mem_of_getElem? (i := 535) (by decide +kernel), by decide +kernel⟩)
theorem xw_536 : (.instanceMethod yX2_drawCaseAgain : Cond) ∈ XW := (List.mem_filter.mpr ⟨List.mem_of_getElem? (i := 536) (by decide +kernel), by decide +kernel⟩)
theorem xw_537 : (.selects RX2 yX2_drawCaseAgain yX2_drawCaseAgain : Cond) ∈ XW := (List.mem_filter.mpr ⟨List.mem_of_getElem? (i := 537) (by decide +kernel), by decide +kernel⟩)
theorem xw_550 : (mcd mX0_takeBack : Cond) ∈ XW := (List.mem_filter.mpr ⟨List.mem_of_getElem? (i := 550) (by decide +kernel), by decide +kernel⟩)
theorem xw_547 : (.methodLink RX4 170 yX0_takeBack : Cond) ∈ XW := (List.mem_filter.mpr ⟨List.mem_of_getElem? (i := 547) (by decide +kernel), by decide +kernel⟩)
theorem xw_548 : (.instanceMethod yX0_takeBack : Cond) ∈ XW := (List.mem_filter.mpr ⟨List.mem_of_getElem? (i := 548) (by decide +kernel), by decide +kernel⟩)
theorem xw_549 : (.selects RX0 yX0_takeBack yX0_takeBack : Cond) ∈ XW := (List.mem_filter.mpr ⟨List.mem_of_getElem? (i := 549) (by decide +kernel), by decide +kernel⟩)
theorem xw_566 : (mcd mX4_writeDocket : Cond) ∈ XW := (List.mem_filter.mpr ⟨List.mem_of_getElem? (i := 566) (by decide +kernel), by decide +kernel⟩)
theorem xw_563 : (.methodLink RX4 173 yX4_writeDocket : Cond) ∈ XW := (List.mem_filter.mpr ⟨List.mem_of_getElem? (i := 563) (by decide +kernel), by decide +kernel⟩)
theorem xw_565 : (.instanceMethod yX4_writeDocket : Cond) ∈ XW := (List.mem_filter.mpr ⟨List.mem_of_getElem? (i := 565) (by decide +kernel), by decide +kernel⟩)
theorem xw_17 : (.selects RX4 yX4_writeDocket yX4_writeDocket : Cond) ∈ XW := (List.mem_filter.mpr ⟨List.mem_of_getElem? (i := 17) (by decide +kernel), by decide +kernel⟩)
theorem xw_519 : (mcd mX4_turned : Cond) ∈ XW := (List.mem_filter.mpr ⟨List.mem_of_getElem? (i := 519) (by decide +kernel), by decide +kernel⟩)
theorem xw_577 : (.methodLink RX4 180 yX4_turned : Cond) ∈ XW := (List.mem_filter.mpr ⟨List.mem_of_getElem? (i := 577) (by decide +kernel), by decide +kernel⟩)
theorem xw_518 : (.static yX4_turned : Cond) ∈ XW := (List.mem_filter.mpr ⟨List.mem_of_getElem? (i := 518) (by decide +kernel), by decide +kernel⟩)
theorem xw_509 : (mcd mX2_weightOf : Cond) ∈ XW := (List.mem_filter.mpr ⟨List.mem_of_getElem? (i := 509) (by decide +kernel), by decide +kernel⟩)
theorem xw_582 : (.methodLink RX4 183 yX2_weightOf : Cond) ∈ XW := (List.mem_filter.mpr ⟨List.mem_of_getElem? (i := 582) (by decide +kernel), by decide +kernel⟩)
theorem xw_507 : (.instanceMethod yX2_weightOf : Cond) ∈ XW := (List.mem_filter.mpr ⟨List.mem_of_getElem? (i := 507) (by decide +kernel), by decide +kernel⟩)
theorem xw_508 : (.selects RX2 yX2_weightOf yX2_weightOf : Cond) ∈ XW := (List.mem_filter.mpr ⟨List.mem_of_getElem? (i := 508) (by decide +kernel), by decide +kernel⟩)
theorem xw_483 : (mcd mX2_isFreeFor : Cond) ∈ XW := (List.mem_filter.mpr ⟨List.mem_of_getElem? (i := 483) (by decide +kernel), by decide +kernel⟩)
theorem xw_587 : (.methodLink RX4 186 yX2_isFreeFor : Cond) ∈ XW := (List.mem_filter.mpr ⟨List.mem_of_getElem? (i := 587) (by decide +kernel), by decide +kernel⟩)
theorem xw_481 : (.instanceMethod yX2_isFreeFor : Cond) ∈ XW := (List.mem_filter.mpr ⟨List.mem_of_getElem? (i := 481) (by decide +kernel), by decide +kernel⟩)
theorem xw_482 : (.selects RX2 yX2_isFreeFor yX2_isFreeFor : Cond) ∈ XW := (List.mem_filter.mpr ⟨List.mem_of_getElem? (i := 482) (by decide +kernel), by decide +kernel⟩)
theorem xw_591 : (mcd mX2_weightsFreeFor : Cond) ∈ XW := (List.mem_filter.mpr ⟨List.mem_of_getElem? (i := 591) (by decide +kernel), by decide +kernel⟩)
theorem xw_588 : (.methodLink RX4 189 yX2_weightsFreeFor : Cond) ∈ XW := (List.mem_filter.mpr ⟨List.mem_of_getElem? (i := 588) (by decide +kernel), by decide +kernel⟩)
theorem xw_589 : (.instanceMethod yX2_weightsFreeFor : Cond) ∈ XW := (List.mem_filter.mpr ⟨List.mem_of_getElem? (i := 589) (by decide +kernel), by decide +kernel⟩)
theorem xw_590 : (.selects RX2 yX2_weightsFreeFor yX2_weightsFreeFor : Cond) ∈ XW := (List.mem_filter.mpr ⟨List.mem_of_getElem? (i := 590) (by decide +kernel), by decide +kernel⟩)
theorem xw_594 : (mcd mX4_commonDivisor : Cond) ∈ XW := (List.mem_filter.mpr ⟨List.mem_of_getElem? (i := 594) (by decide +kernel), by decide +kernel⟩)
theorem xw_592 : (.methodLink RX4 192 yX4_commonDivisor : Cond) ∈ XW := (List.mem_filter.mpr ⟨List.mem_of_getElem? (i := 592) (by decide +kernel), by decide +kernel⟩)
theorem xw_593 : (.static yX4_commonDivisor : Cond) ∈ XW := (List.mem_filter.mpr ⟨List.mem_of_getElem? (i := 593) (by decide +kernel), by decide +kernel⟩)
theorem xw_501 : (mcd mX2_drawJudge : Cond) ∈ XW := (List.mem_filter.mpr ⟨List.mem_of_getElem? (i := 501) (by decide +kernel), by decide +kernel⟩)
theorem xw_601 : (.methodLink RX4 195 yX2_drawJudge : Cond) ∈ XW := (List.mem_filter.mpr ⟨List.mem_of_getElem? (i := 601) (by decide +kernel), by decide +kernel⟩)
theorem xw_499 : (.instanceMethod yX2_drawJudge : Cond) ∈ XW := (List.mem_filter.mpr ⟨List.mem_of_getElem? (i := 499) (by decide +kernel), by decide +kernel⟩)
theorem xw_500 : (.selects RX2 yX2_drawJudge yX2_drawJudge : Cond) ∈ XW := (List.mem_filter.mpr ⟨List.mem_of_getElem? (i := 500) (by decide +kernel), by decide +kernel⟩)
theorem xw_609 : (mcd mX2_everyCaseHasSomeone : Cond) ∈ XW := (List.mem_filter.mpr ⟨List.mem_of_getElem? (i := 609) (by decide +kernel), by decide +kernel⟩)
theorem xw_606 : (.methodLink RX4 198 yX2_everyCaseHasSomeone : Cond) ∈ XW := (List.mem_filter.mpr ⟨List.mem_of_getElem? (i := 606) (by decide +kernel), by decide +kernel⟩)
theorem xw_607 : (.instanceMethod yX2_everyCaseHasSomeone : Cond) ∈ XW := (List.mem_filter.mpr ⟨List.mem_of_getElem? (i := 607) (by decide +kernel), by decide +kernel⟩)
theorem xw_608 : (.selects RX2 yX2_everyCaseHasSomeone yX2_everyCaseHasSomeone : Cond) ∈ XW := (List.mem_filter.mpr ⟨List.mem_of_getElem? (i := 608) (by decide +kernel), by decide +kernel⟩)
theorem xw_614 : (mcd mX4_recountBy : Cond) ∈ XW := (List.mem_filter.mpr ⟨List.mem_of_getElem? (i := 614) (by decide +kernel), by decide +kernel⟩)
theorem xw_611 : (.methodLink RX4 202 yX4_recountBy : Cond) ∈ XW := (List.mem_filter.mpr ⟨List.mem_of_getElem? (i := 611) (by decide +kernel), by decide +kernel⟩)
theorem xw_613 : (.instanceMethod yX4_recountBy : Cond) ∈ XW := (List.mem_filter.mpr ⟨List.mem_of_getElem? (i := 613) (by decide +kernel), by decide +kernel⟩)
theorem xw_18 : (.selects RX4 yX4_recountBy yX4_recountBy : Cond) ∈ XW := (List.mem_filter.mpr ⟨List.mem_of_getElem? (i := 18) (by decide +kernel), by decide +kernel⟩)
theorem xw_625 : (mcd mX4_isSlip : Cond) ∈ XW := (List.mem_filter.mpr ⟨List.mem_of_getElem? (i := 625) (by decide +kernel), by decide +kernel⟩)
theorem xw_623 : (.methodLink RX4 208 yX4_isSlip : Cond) ∈ XW := (List.mem_filter.mpr ⟨List.mem_of_getElem? (i := 623) (by decide +kernel), by decide +kernel⟩)
theorem xw_624 : (.static yX4_isSlip : Cond) ∈ XW := (List.mem_filter.mpr ⟨List.mem_of_getElem? (i := 624) (by decide +kernel), by decide +kernel⟩)
theorem xw_632 : (mcd mX4_isSlipLetter : Cond) ∈ XW := (List.mem_filter.mpr ⟨List.mem_of_getElem? (i := 632) (by decide +kernel), by decide +kernel⟩)
theorem xw_630 : (.methodLink RX4 211 yX4_isSlipLetter : Cond) ∈ XW := (List.mem_filter.mpr ⟨List.mem_of_getElem? (i := 630) (by decide +kernel), by decide +kernel⟩)
theorem xw_631 : (.static yX4_isSlipLetter : Cond) ∈ XW := (List.mem_filter.mpr ⟨List.mem_of_getElem? (i := 631) (by decide +kernel), by decide +kernel⟩)
theorem xw_642 : (mcd mX1_removeSpan : Cond) ∈ XW := (List.mem_filter.mpr ⟨List.mem_of_getElem? (i := 642) (by decide +kernel), by decide +kernel⟩)
theorem xw_639 : (.methodLink RX4 214 yX1_removeSpan : Cond) ∈ XW := (List.mem_filter.mpr ⟨List.mem_of_getElem? (i := 639) (by decide +kernel), by decide +kernel⟩)
theorem xw_640 : (.instanceMethod yX1_removeSpan : Cond) ∈ XW := (List.mem_filter.mpr ⟨List.mem_of_getElem? (i := 640) (by decide +kernel), by decide +kernel⟩)
theorem xw_641 : (.selects RX1 yX1_removeSpan yX1_removeSpan : Cond) ∈ XW := (List.mem_filter.mpr ⟨List.mem_of_getElem? (i := 641) (by decide +kernel), by decide +kernel⟩)
theorem xw_650 : (mcd mX1_appendAll : Cond) ∈ XW := (List.mem_filter.mpr ⟨List.mem_of_getElem? (i := 650) (by decide +kernel), by decide +kernel⟩)
theorem xw_647 : (.methodLink RX4 217 yX1_appendAll : Cond) ∈ XW := (List.mem_filter.mpr ⟨List.mem_of_getElem? (i := 647) (by decide +kernel), by decide +kernel⟩)
theorem xw_648 : (.instanceMethod yX1_appendAll : Cond) ∈ XW := (List.mem_filter.mpr ⟨List.mem_of_getElem? (i := 648) (by decide +kernel), by decide +kernel⟩)
theorem xw_649 : (.selects RX1 yX1_appendAll yX1_appendAll : Cond) ∈ XW := (List.mem_filter.mpr ⟨List.mem_of_getElem? (i := 649) (by decide +kernel), by decide +kernel⟩)
theorem xw_662 : (mcd mX1_placeOf : Cond) ∈ XW := (List.mem_filter.mpr ⟨List.mem_of_getElem? (i := 662) (by decide +kernel), by decide +kernel⟩)
theorem xw_659 : (.methodLink RX4 220 yX1_placeOf : Cond) ∈ XW := (List.mem_filter.mpr ⟨List.mem_of_getElem? (i := 659) (by decide +kernel), by decide +kernel⟩)
theorem xw_660 : (.instanceMethod yX1_placeOf : Cond) ∈ XW := (List.mem_filter.mpr ⟨List.mem_of_getElem? (i := 660) (by decide +kernel), by decide +kernel⟩)
theorem xw_661 : (.selects RX1 yX1_placeOf yX1_placeOf : Cond) ∈ XW := (List.mem_filter.mpr ⟨List.mem_of_getElem? (i := 661) (by decide +kernel), by decide +kernel⟩)
theorem xw_376 : (mcd mX1_numberAt : Cond) ∈ XW := (List.mem_filter.mpr ⟨List.mem_of_getElem? (i := 376) (by decide +kernel), by decide +kernel⟩)
theorem xw_671 : (.methodLink RX4 224 yX1_numberAt : Cond) ∈ XW := (List.mem_filter.mpr ⟨List.mem_of_getElem? (i := 671) (by decide +kernel), by decide +kernel⟩)
theorem xw_374 : (.instanceMethod yX1_numberAt : Cond) ∈ XW := (List.mem_filter.mpr ⟨List.mem_of_getElem? (i := 374) (by decide +kernel), by decide +kernel⟩)
theorem xw_375 : (.selects RX1 yX1_numberAt yX1_numberAt : Cond) ∈ XW := (List.mem_filter.mpr ⟨List.mem_of_getElem? (i := 375) (by decide +kernel), by decide +kernel⟩)
theorem xw_406 : (mcd mX1_ruleAt : Cond) ∈ XW := (List.mem_filter.mpr ⟨List.mem_of_getElem? (i := 406) (by decide +kernel), by decide +kernel⟩)
theorem xw_676 : (.methodLink RX4 228 yX1_ruleAt : Cond) ∈ XW := (List.mem_filter.mpr ⟨List.mem_of_getElem? (i := 676) (by decide +kernel), by decide +kernel⟩)
theorem xw_404 : (.instanceMethod yX1_ruleAt : Cond) ∈ XW := (List.mem_filter.mpr ⟨List.mem_of_getElem? (i := 404) (by decide +kernel), by decide +kernel⟩)
theorem xw_405 : (.selects RX1 yX1_ruleAt yX1_ruleAt : Cond) ∈ XW := (List.mem_filter.mpr ⟨List.mem_of_getElem? (i := 405) (by decide +kernel), by decide +kernel⟩)
theorem xw_688 : (mcd mX4_lettersOfWriting : Cond) ∈ XW := (List.mem_filter.mpr ⟨List.mem_of_getElem? (i := 688) (by decide +kernel), by decide +kernel⟩)
theorem xw_685 : (.methodLink RX4 237 yX4_lettersOfWriting : Cond) ∈ XW := (List.mem_filter.mpr ⟨List.mem_of_getElem? (i := 685) (by decide +kernel), by decide +kernel⟩)
theorem xw_687 : (.instanceMethod yX4_lettersOfWriting : Cond) ∈ XW := (List.mem_filter.mpr ⟨List.mem_of_getElem? (i := 687) (by decide +kernel), by decide +kernel⟩)
theorem xw_20 : (.selects RX4 yX4_lettersOfWriting yX4_lettersOfWriting : Cond) ∈ XW := (List.mem_filter.mpr ⟨List.mem_of_getElem? (i := 20) (by decide +kernel), by decide +kernel⟩)
theorem xw_692 : (mcd mX4_lettersOfSlips : Cond) ∈ XW := (List.mem_filter.mpr ⟨List.mem_of_getElem? (i := 692) (by decide +kernel), by decide +kernel⟩)
theorem xw_689 : (.methodLink RX4 240 yX4_lettersOfSlips : Cond) ∈ XW := (List.mem_filter.mpr ⟨List.mem_of_getElem? (i := 689) (by decide +kernel), by decide +kernel⟩)
theorem xw_691 : (.instanceMethod yX4_lettersOfSlips : Cond) ∈ XW := (List.mem_filter.mpr ⟨List.mem_of_getElem? (i := 691) (by decide +kernel), by decide +kernel⟩)
theorem xw_21 : (.selects RX4 yX4_lettersOfSlips yX4_lettersOfSlips : Cond) ∈ XW := (List.mem_filter.mpr ⟨List.mem_of_getElem? (i := 21) (by decide +kernel), by decide +kernel⟩)
theorem xw_288 : (mcd mX4_isSmallLetter : Cond) ∈ XW := (List.mem_filter.mpr ⟨List.mem_of_getElem? (i := 288) (by decide +kernel), by decide +kernel⟩)
theorem xw_633 : (.methodLink RX4 246 yX4_isSmallLetter : Cond) ∈ XW := (List.mem_filter.mpr ⟨List.mem_of_getElem? (i := 633) (by decide +kernel), by decide +kernel⟩)
theorem xw_287 : (.static yX4_isSmallLetter : Cond) ∈ XW := (List.mem_filter.mpr ⟨List.mem_of_getElem? (i := 287) (by decide +kernel), by decide +kernel⟩)
theorem xw_291 : (mcd mX4_isDigit : Cond) ∈ XW := (List.mem_filter.mpr ⟨List.mem_of_getElem? (i := 291) (by decide +kernel), by decide +kernel⟩)
theorem xw_634 : (.methodLink RX4 249 yX4_isDigit : Cond) ∈ XW := (List.mem_filter.mpr ⟨List.mem_of_getElem? (i := 634) (by decide +kernel), by decide +kernel⟩)
theorem xw_290 : (.static yX4_isDigit : Cond) ∈ XW := (List.mem_filter.mpr ⟨List.mem_of_getElem? (i := 290) (by decide +kernel), by decide +kernel⟩)
theorem xw_81 : (mcd mJ9_max_7cf53 : Cond) ∈ XW := (List.mem_filter.mpr ⟨List.mem_of_getElem? (i := 81) (by decide +kernel), by decide +kernel⟩)
theorem xw_54 : (.initialized RJ9 : Cond) ∈ XW := (List.mem_filter.mpr ⟨List.mem_of_getElem? (i := 54) (by decide +kernel), by decide +kernel⟩)
theorem xw_595 : (.methodLink RX4 259 yJ9_max_7cf53 : Cond) ∈ XW := (List.mem_filter.mpr ⟨List.mem_of_getElem? (i := 595) (by decide +kernel), by decide +kernel⟩)
theorem xw_80 : (.static yJ9_max_7cf53 : Cond) ∈ XW := (List.mem_filter.mpr ⟨List.mem_of_getElem? (i := 80) (by decide +kernel), by decide +kernel⟩)
theorem xw_281 : (mcd mX3_readInto : Cond) ∈ XW := (List.mem_filter.mpr ⟨List.mem_of_getElem? (i := 281) (by decide +kernel), by decide +kernel⟩)
theorem xw_55 : (.initialized RX3 : Cond) ∈ XW := (List.mem_filter.mpr ⟨List.mem_of_getElem? (i := 55) (by decide +kernel), by decide +kernel⟩)
theorem xw_278 : (.methodLink RX4 265 yX3_readInto : Cond) ∈ XW := (List.mem_filter.mpr ⟨List.mem_of_getElem? (i := 278) (by decide +kernel), by decide +kernel⟩)
theorem xw_279 : (.instanceMethod yX3_readInto : Cond) ∈ XW := (List.mem_filter.mpr ⟨List.mem_of_getElem? (i := 279) (by decide +kernel), by decide +kernel⟩)
theorem xw_280 : (.selects RX3 yX3_readInto yX3_readInto : Cond) ∈ XW := (List.mem_filter.mpr ⟨List.mem_of_getElem? (i := 280) (by decide +kernel), by decide +kernel⟩)
theorem xw_570 : (mcd mX1_append : Cond) ∈ XW := (List.mem_filter.mpr ⟨List.mem_of_getElem? (i := 570) (by decide +kernel), by decide +kernel⟩)
theorem xw_567 : (.methodLink RX4 269 yX1_append : Cond) ∈ XW := (List.mem_filter.mpr ⟨List.mem_of_getElem? (i := 567) (by decide +kernel), by decide +kernel⟩)
theorem xw_568 : (.instanceMethod yX1_append : Cond) ∈ XW := (List.mem_filter.mpr ⟨List.mem_of_getElem? (i := 568) (by decide +kernel), by decide +kernel⟩)
theorem xw_569 : (.selects RX1 yX1_append yX1_append : Cond) ∈ XW := (List.mem_filter.mpr ⟨List.mem_of_getElem? (i := 569) (by decide +kernel), by decide +kernel⟩)
theorem xw_493 : (.methodLink RX0 25 yX2_copyFrom : Cond) ∈ XW := (List.mem_filter.mpr ⟨List.mem_of_getElem? (i := 493) (by decide +kernel), by decide +kernel⟩)
theorem xw_79 : (.methodLink RX1 9 yJ9_max_7cf53 : Cond) ∈ XW := (List.mem_filter.mpr ⟨List.mem_of_getElem? (i := 79) (by decide +kernel), by decide +kernel⟩)
theorem xw_571 : (.methodLink RX1 25 yX1_putAt : Cond) ∈ XW := (List.mem_filter.mpr ⟨List.mem_of_getElem? (i := 571) (by decide +kernel), by decide +kernel⟩)
theorem xw_257 : (.methodLink RX1 29 yX1_hasRoomFor : Cond) ∈ XW := (List.mem_filter.mpr ⟨List.mem_of_getElem? (i := 257) (by decide +kernel), by decide +kernel⟩)
theorem xw_666 : (mcd mX1_standsAt : Cond) ∈ XW := (List.mem_filter.mpr ⟨List.mem_of_getElem? (i := 666) (by decide +kernel), by decide +kernel⟩)
theorem xw_663 : (.methodLink RX1 39 yX1_standsAt : Cond) ∈ XW := (List.mem_filter.mpr ⟨List.mem_of_getElem? (i := 663) (by decide +kernel), by decide +kernel⟩)
theorem xw_665 : (.instanceMethod yX1_standsAt : Cond) ∈ XW := (List.mem_filter.mpr ⟨List.mem_of_getElem? (i := 665) (by decide +kernel), by decide +kernel⟩)
theorem xw_19 : (.selects RX1 yX1_standsAt yX1_standsAt : Cond) ∈ XW := (List.mem_filter.mpr ⟨List.mem_of_getElem? (i := 19) (by decide +kernel), by decide +kernel⟩)
theorem xw_308 : (mcd mJ0_length_8abf5 : Cond) ∈ XW := (List.mem_filter.mpr ⟨List.mem_of_getElem? (i := 308) (by decide +kernel), by decide +kernel⟩)
theorem xw_60 : (.initialized RJ0 : Cond) ∈ XW := (List.mem_filter.mpr ⟨List.mem_of_getElem? (i := 60) (by decide +kernel), by decide +kernel⟩)
theorem xw_305 : (.methodLink RX1 43 yJ0_length_8abf5 : Cond) ∈ XW := (List.mem_filter.mpr ⟨List.mem_of_getElem? (i := 305) (by decide +kernel), by decide +kernel⟩)
theorem xw_306 : (.instanceMethod yJ0_length_8abf5 : Cond) ∈ XW := (List.mem_filter.mpr ⟨List.mem_of_getElem? (i := 306) (by decide +kernel), by decide +kernel⟩)
theorem xw_307 : (.selects RJ0 yJ0_length_8abf5 yJ0_length_8abf5 : Cond) ∈ XW := (List.mem_filter.mpr ⟨List.mem_of_getElem? (i := 307) (by decide +kernel), by decide +kernel⟩)
theorem xw_318 : (mcd mJ0_charAt_5068e : Cond) ∈ XW := (List.mem_filter.mpr ⟨List.mem_of_getElem? (i := 318) (by decide +kernel), by decide +kernel⟩)
theorem xw_315 : (.methodLink RX1 48 yJ0_charAt_5068e : Cond) ∈ XW := (List.mem_filter.mpr ⟨List.mem_of_getElem? (i := 315) (by decide +kernel), by decide +kernel⟩)
theorem xw_316 : (.instanceMethod yJ0_charAt_5068e : Cond) ∈ XW := (List.mem_filter.mpr ⟨List.mem_of_getElem? (i := 316) (by decide +kernel), by decide +kernel⟩)
theorem xw_317 : (.selects RJ0 yJ0_charAt_5068e yJ0_charAt_5068e : Cond) ∈ XW := (List.mem_filter.mpr ⟨List.mem_of_getElem? (i := 317) (by decide +kernel), by decide +kernel⟩)
theorem xw_409 : (mcd mX4_ruleName : Cond) ∈ XW := (List.mem_filter.mpr ⟨List.mem_of_getElem? (i := 409) (by decide +kernel), by decide +kernel⟩)
theorem xw_408 : (.static yX4_ruleName : Cond) ∈ XW := (List.mem_filter.mpr ⟨List.mem_of_getElem? (i := 408) (by decide +kernel), by decide +kernel⟩)
theorem xw_304 : (mcd mX1_isWordAt : Cond) ∈ XW := (List.mem_filter.mpr ⟨List.mem_of_getElem? (i := 304) (by decide +kernel), by decide +kernel⟩)
theorem xw_414 : (.methodLink RX1 56 yX1_isWordAt : Cond) ∈ XW := (List.mem_filter.mpr ⟨List.mem_of_getElem? (i := 414) (by decide +kernel), by decide +kernel⟩)
theorem xw_302 : (.instanceMethod yX1_isWordAt : Cond) ∈ XW := (List.mem_filter.mpr ⟨List.mem_of_getElem? (i := 302) (by decide +kernel), by decide +kernel⟩)
theorem xw_303 : (.selects RX1 yX1_isWordAt yX1_isWordAt : Cond) ∈ XW := (List.mem_filter.mpr ⟨List.mem_of_getElem? (i := 303) (by decide +kernel), by decide +kernel⟩)
theorem xw_357 : (.methodLink RX2 64 yX2_startAnew : Cond) ∈ XW := (List.mem_filter.mpr ⟨List.mem_of_getElem? (i := 357) (by decide +kernel), by decide +kernel⟩)
theorem xw_363 : (mcd mJ7_fill_53178 : Cond) ∈ XW := (List.mem_filter.mpr ⟨List.mem_of_getElem? (i := 363) (by decide +kernel), by decide +kernel⟩)
theorem xw_64 : (.initialized RJ7 : Cond) ∈ XW := (List.mem_filter.mpr ⟨List.mem_of_getElem? (i := 64) (by decide +kernel), by decide +kernel⟩)
theorem xw_361 : (.methodLink RX2 68 yJ7_fill_53178 : Cond) ∈ XW := (List.mem_filter.mpr ⟨List.mem_of_getElem? (i := 361) (by decide +kernel), by decide +kernel⟩)
theorem xw_362 : (.static yJ7_fill_53178 : Cond) ∈ XW := (List.mem_filter.mpr ⟨List.mem_of_getElem? (i := 362) (by decide +kernel), by decide +kernel⟩)
theorem xw_484 : (.methodLink RX2 74 yX2_isAway : Cond) ∈ XW := (List.mem_filter.mpr ⟨List.mem_of_getElem? (i := 484) (by decide +kernel), by decide +kernel⟩)
theorem xw_488 : (mcd mX2_isBarred : Cond) ∈ XW := (List.mem_filter.mpr ⟨List.mem_of_getElem? (i := 488) (by decide +kernel), by decide +kernel⟩)
theorem xw_485 : (.methodLink RX2 78 yX2_isBarred : Cond) ∈ XW := (List.mem_filter.mpr ⟨List.mem_of_getElem? (i := 485) (by decide +kernel), by decide +kernel⟩)
theorem xw_486 : (.instanceMethod yX2_isBarred : Cond) ∈ XW := (List.mem_filter.mpr ⟨List.mem_of_getElem? (i := 486) (by decide +kernel), by decide +kernel⟩)
theorem xw_487 : (.selects RX2 yX2_isBarred yX2_isBarred : Cond) ∈ XW := (List.mem_filter.mpr ⟨List.mem_of_getElem? (i := 487) (by decide +kernel), by decide +kernel⟩)
theorem xw_480 : (.methodLink RX2 82 yX2_isFreeFor : Cond) ∈ XW := (List.mem_filter.mpr ⟨List.mem_of_getElem? (i := 480) (by decide +kernel), by decide +kernel⟩)
theorem xw_610 : (.methodLink RX2 85 yX2_hasSomeoneFor : Cond) ∈ XW := (List.mem_filter.mpr ⟨List.mem_of_getElem? (i := 610) (by decide +kernel), by decide +kernel⟩)
theorem xw_510 : (.methodLink RX2 88 yJ9_max_7cf53 : Cond) ∈ XW := (List.mem_filter.mpr ⟨List.mem_of_getElem? (i := 510) (by decide +kernel), by decide +kernel⟩)
theorem xw_506 : (.methodLink RX2 94 yX2_weightOf : Cond) ∈ XW := (List.mem_filter.mpr ⟨List.mem_of_getElem? (i := 506) (by decide +kernel), by decide +kernel⟩)
theorem xw_505 : (mcd mX2_weighAll : Cond) ∈ XW := (List.mem_filter.mpr ⟨List.mem_of_getElem? (i := 505) (by decide +kernel), by decide +kernel⟩)
theorem xw_502 : (.methodLink RX2 97 yX2_weighAll : Cond) ∈ XW := (List.mem_filter.mpr ⟨List.mem_of_getElem? (i := 502) (by decide +kernel), by decide +kernel⟩)
theorem xw_504 : (.instanceMethod yX2_weighAll : Cond) ∈ XW := (List.mem_filter.mpr ⟨List.mem_of_getElem? (i := 504) (by decide +kernel), by decide +kernel⟩)
theorem xw_13 : (.selects RX2 yX2_weighAll yX2_weighAll : Cond) ∈ XW := (List.mem_filter.mpr ⟨List.mem_of_getElem? (i := 13) (by decide +kernel), by decide +kernel⟩)
theorem xw_515 : (mcd mX2_drawBelow : Cond) ∈ XW := (List.mem_filter.mpr ⟨List.mem_of_getElem? (i := 515) (by decide +kernel), by decide +kernel⟩)
theorem xw_512 : (.methodLink RX2 102 yX2_drawBelow : Cond) ∈ XW := (List.mem_filter.mpr ⟨List.mem_of_getElem? (i := 512) (by decide +kernel), by decide +kernel⟩)
theorem xw_514 : (.instanceMethod yX2_drawBelow : Cond) ∈ XW := (List.mem_filter.mpr ⟨List.mem_of_getElem? (i := 514) (by decide +kernel), by decide +kernel⟩)
theorem xw_14 : (.selects RX2 yX2_drawBelow yX2_drawBelow : Cond) ∈ XW := (List.mem_filter.mpr ⟨List.mem_of_getElem? (i := 14) (by decide +kernel), by decide +kernel⟩)
theorem xw_523 : (mcd mX2_judgeReaching : Cond) ∈ XW := (List.mem_filter.mpr ⟨List.mem_of_getElem? (i := 523) (by decide +kernel), by decide +kernel⟩)
theorem xw_520 : (.methodLink RX2 105 yX2_judgeReaching : Cond) ∈ XW := (List.mem_filter.mpr ⟨List.mem_of_getElem? (i := 520) (by decide +kernel), by decide +kernel⟩)
theorem xw_522 : (.instanceMethod yX2_judgeReaching : Cond) ∈ XW := (List.mem_filter.mpr ⟨List.mem_of_getElem? (i := 522) (by decide +kernel), by decide +kernel⟩)
theorem xw_15 : (.selects RX2 yX2_judgeReaching yX2_judgeReaching : Cond) ∈ XW := (List.mem_filter.mpr ⟨List.mem_of_getElem? (i := 15) (by decide +kernel), by decide +kernel⟩)
theorem xw_530 : (mcd mJ9_min_7cf53 : Cond) ∈ XW := (List.mem_filter.mpr ⟨List.mem_of_getElem? (i := 530) (by decide +kernel), by decide +kernel⟩)
theorem xw_528 : (.methodLink RX2 113 yJ9_min_7cf53 : Cond) ∈ XW := (List.mem_filter.mpr ⟨List.mem_of_getElem? (i := 528) (by decide +kernel), by decide +kernel⟩)
theorem xw_529 : (.static yJ9_min_7cf53 : Cond) ∈ XW := (List.mem_filter.mpr ⟨List.mem_of_getElem? (i := 529) (by decide +kernel), by decide +kernel⟩)
theorem xw_498 : (.methodLink RX2 116 yX2_drawJudge : Cond) ∈ XW := (List.mem_filter.mpr ⟨List.mem_of_getElem? (i := 498) (by decide +kernel), by decide +kernel⟩)
theorem xw_527 : (mcd mX2_settleDebts : Cond) ∈ XW := (List.mem_filter.mpr ⟨List.mem_of_getElem? (i := 527) (by decide +kernel), by decide +kernel⟩)
theorem xw_524 : (.methodLink RX2 119 yX2_settleDebts : Cond) ∈ XW := (List.mem_filter.mpr ⟨List.mem_of_getElem? (i := 524) (by decide +kernel), by decide +kernel⟩)
theorem xw_526 : (.instanceMethod yX2_settleDebts : Cond) ∈ XW := (List.mem_filter.mpr ⟨List.mem_of_getElem? (i := 526) (by decide +kernel), by decide +kernel⟩)
theorem xw_16 : (.selects RX2 yX2_settleDebts yX2_settleDebts : Cond) ∈ XW := (List.mem_filter.mpr ⟨List.mem_of_getElem? (i := 16) (by decide +kernel), by decide +kernel⟩)
theorem xw_285 : (mcd mX3_step : Cond) ∈ XW := (List.mem_filter.mpr ⟨List.mem_of_getElem? (i := 285) (by decide +kernel), by decide +kernel⟩)
theorem xw_282 : (.methodLink RX3 22 yX3_step : Cond) ∈ XW := (List.mem_filter.mpr ⟨List.mem_of_getElem? (i := 282) (by decide +kernel), by decide +kernel⟩)
theorem xw_284 : (.instanceMethod yX3_step : Cond) ∈ XW := (List.mem_filter.mpr ⟨List.mem_of_getElem? (i := 284) (by decide +kernel), by decide +kernel⟩)
theorem xw_1 : (.selects RX3 yX3_step yX3_step : Cond) ∈ XW := (List.mem_filter.mpr ⟨List.mem_of_getElem? (i := 1) (by decide +kernel), by decide +kernel⟩)
theorem xw_295 : (mcd mX3_readClause : Cond) ∈ XW := (List.mem_filter.mpr ⟨List.mem_of_getElem? (i := 295) (by decide +kernel), by decide +kernel⟩)
theorem xw_292 : (.methodLink RX3 25 yX3_readClause : Cond) ∈ XW := (List.mem_filter.mpr ⟨List.mem_of_getElem? (i := 292) (by decide +kernel), by decide +kernel⟩)
theorem xw_294 : (.instanceMethod yX3_readClause : Cond) ∈ XW := (List.mem_filter.mpr ⟨List.mem_of_getElem? (i := 294) (by decide +kernel), by decide +kernel⟩)
theorem xw_2 : (.selects RX3 yX3_readClause yX3_readClause : Cond) ∈ XW := (List.mem_filter.mpr ⟨List.mem_of_getElem? (i := 2) (by decide +kernel), by decide +kernel⟩)
theorem xw_418 : (mcd mX3_isOther : Cond) ∈ XW := (List.mem_filter.mpr ⟨List.mem_of_getElem? (i := 418) (by decide +kernel), by decide +kernel⟩)
theorem xw_415 : (.methodLink RX3 35 yX3_isOther : Cond) ∈ XW := (List.mem_filter.mpr ⟨List.mem_of_getElem? (i := 415) (by decide +kernel), by decide +kernel⟩)
theorem xw_417 : (.instanceMethod yX3_isOther : Cond) ∈ XW := (List.mem_filter.mpr ⟨List.mem_of_getElem? (i := 417) (by decide +kernel), by decide +kernel⟩)
theorem xw_10 : (.selects RX3 yX3_isOther yX3_isOther : Cond) ∈ XW := (List.mem_filter.mpr ⟨List.mem_of_getElem? (i := 10) (by decide +kernel), by decide +kernel⟩)
theorem xw_301 : (.methodLink RX3 54 yX1_isWordAt : Cond) ∈ XW := (List.mem_filter.mpr ⟨List.mem_of_getElem? (i := 301) (by decide +kernel), by decide +kernel⟩)
theorem xw_373 : (.methodLink RX3 58 yX1_numberAt : Cond) ∈ XW := (List.mem_filter.mpr ⟨List.mem_of_getElem? (i := 373) (by decide +kernel), by decide +kernel⟩)
theorem xw_300 : (mcd mX3_isWord : Cond) ∈ XW := (List.mem_filter.mpr ⟨List.mem_of_getElem? (i := 300) (by decide +kernel), by decide +kernel⟩)
theorem xw_297 : (.methodLink RX3 64 yX3_isWord : Cond) ∈ XW := (List.mem_filter.mpr ⟨List.mem_of_getElem? (i := 297) (by decide +kernel), by decide +kernel⟩)
theorem xw_299 : (.instanceMethod yX3_isWord : Cond) ∈ XW := (List.mem_filter.mpr ⟨List.mem_of_getElem? (i := 299) (by decide +kernel), by decide +kernel⟩)
theorem xw_3 : (.selects RX3 yX3_isWord yX3_isWord : Cond) ∈ XW := (List.mem_filter.mpr ⟨List.mem_of_getElem? (i := 3) (by decide +kernel), by decide +kernel⟩)
theorem xw_356 : (mcd mX2_clearAll : Cond) ∈ XW := (List.mem_filter.mpr ⟨List.mem_of_getElem? (i := 356) (by decide +kernel), by decide +kernel⟩)
theorem xw_353 : (.methodLink RX3 68 yX2_clearAll : Cond) ∈ XW := (List.mem_filter.mpr ⟨List.mem_of_getElem? (i := 353) (by decide +kernel), by decide +kernel⟩)
theorem xw_354 : (.instanceMethod yX2_clearAll : Cond) ∈ XW := (List.mem_filter.mpr ⟨List.mem_of_getElem? (i := 354) (by decide +kernel), by decide +kernel⟩)
theorem xw_355 : (.selects RX2 yX2_clearAll yX2_clearAll : Cond) ∈ XW := (List.mem_filter.mpr ⟨List.mem_of_getElem? (i := 355) (by decide +kernel), by decide +kernel⟩)
theorem xw_368 : (mcd mX3_readJudge : Cond) ∈ XW := (List.mem_filter.mpr ⟨List.mem_of_getElem? (i := 368) (by decide +kernel), by decide +kernel⟩)
theorem xw_365 : (.methodLink RX3 75 yX3_readJudge : Cond) ∈ XW := (List.mem_filter.mpr ⟨List.mem_of_getElem? (i := 365) (by decide +kernel), by decide +kernel⟩)
theorem xw_367 : (.instanceMethod yX3_readJudge : Cond) ∈ XW := (List.mem_filter.mpr ⟨List.mem_of_getElem? (i := 367) (by decide +kernel), by decide +kernel⟩)
theorem xw_4 : (.selects RX3 yX3_readJudge yX3_readJudge : Cond) ∈ XW := (List.mem_filter.mpr ⟨List.mem_of_getElem? (i := 4) (by decide +kernel), by decide +kernel⟩)
theorem xw_392 : (mcd mX3_readBar : Cond) ∈ XW := (List.mem_filter.mpr ⟨List.mem_of_getElem? (i := 392) (by decide +kernel), by decide +kernel⟩)
theorem xw_389 : (.methodLink RX3 80 yX3_readBar : Cond) ∈ XW := (List.mem_filter.mpr ⟨List.mem_of_getElem? (i := 389) (by decide +kernel), by decide +kernel⟩)
theorem xw_391 : (.instanceMethod yX3_readBar : Cond) ∈ XW := (List.mem_filter.mpr ⟨List.mem_of_getElem? (i := 391) (by decide +kernel), by decide +kernel⟩)
theorem xw_7 : (.selects RX3 yX3_readBar yX3_readBar : Cond) ∈ XW := (List.mem_filter.mpr ⟨List.mem_of_getElem? (i := 7) (by decide +kernel), by decide +kernel⟩)
theorem xw_397 : (mcd mX3_readAway : Cond) ∈ XW := (List.mem_filter.mpr ⟨List.mem_of_getElem? (i := 397) (by decide +kernel), by decide +kernel⟩)
theorem xw_394 : (.methodLink RX3 85 yX3_readAway : Cond) ∈ XW := (List.mem_filter.mpr ⟨List.mem_of_getElem? (i := 394) (by decide +kernel), by decide +kernel⟩)
theorem xw_396 : (.instanceMethod yX3_readAway : Cond) ∈ XW := (List.mem_filter.mpr ⟨List.mem_of_getElem? (i := 396) (by decide +kernel), by decide +kernel⟩)
theorem xw_8 : (.selects RX3 yX3_readAway yX3_readAway : Cond) ∈ XW := (List.mem_filter.mpr ⟨List.mem_of_getElem? (i := 8) (by decide +kernel), by decide +kernel⟩)
theorem xw_402 : (mcd mX3_readRule : Cond) ∈ XW := (List.mem_filter.mpr ⟨List.mem_of_getElem? (i := 402) (by decide +kernel), by decide +kernel⟩)
theorem xw_399 : (.methodLink RX3 90 yX3_readRule : Cond) ∈ XW := (List.mem_filter.mpr ⟨List.mem_of_getElem? (i := 399) (by decide +kernel), by decide +kernel⟩)
theorem xw_401 : (.instanceMethod yX3_readRule : Cond) ∈ XW := (List.mem_filter.mpr ⟨List.mem_of_getElem? (i := 401) (by decide +kernel), by decide +kernel⟩)
theorem xw_9 : (.selects RX3 yX3_readRule yX3_readRule : Cond) ∈ XW := (List.mem_filter.mpr ⟨List.mem_of_getElem? (i := 9) (by decide +kernel), by decide +kernel⟩)
theorem xw_372 : (mcd mX3_numberWithin : Cond) ∈ XW := (List.mem_filter.mpr ⟨List.mem_of_getElem? (i := 372) (by decide +kernel), by decide +kernel⟩)
theorem xw_369 : (.methodLink RX3 96 yX3_numberWithin : Cond) ∈ XW := (List.mem_filter.mpr ⟨List.mem_of_getElem? (i := 369) (by decide +kernel), by decide +kernel⟩)
theorem xw_371 : (.instanceMethod yX3_numberWithin : Cond) ∈ XW := (List.mem_filter.mpr ⟨List.mem_of_getElem? (i := 371) (by decide +kernel), by decide +kernel⟩)
theorem xw_5 : (.selects RX3 yX3_numberWithin yX3_numberWithin : Cond) ∈ XW := (List.mem_filter.mpr ⟨List.mem_of_getElem? (i := 5) (by decide +kernel), by decide +kernel⟩)
theorem xw_380 : (mcd mX3_versedTold : Cond) ∈ XW := (List.mem_filter.mpr ⟨List.mem_of_getElem? (i := 380) (by decide +kernel), by decide +kernel⟩)
theorem xw_377 : (.methodLink RX3 100 yX3_versedTold : Cond) ∈ XW := (List.mem_filter.mpr ⟨List.mem_of_getElem? (i := 377) (by decide +kernel), by decide +kernel⟩)
theorem xw_379 : (.instanceMethod yX3_versedTold : Cond) ∈ XW := (List.mem_filter.mpr ⟨List.mem_of_getElem? (i := 379) (by decide +kernel), by decide +kernel⟩)
theorem xw_6 : (.selects RX3 yX3_versedTold yX3_versedTold : Cond) ∈ XW := (List.mem_filter.mpr ⟨List.mem_of_getElem? (i := 6) (by decide +kernel), by decide +kernel⟩)
theorem xw_387 : (mcd mX2_addJudge : Cond) ∈ XW := (List.mem_filter.mpr ⟨List.mem_of_getElem? (i := 387) (by decide +kernel), by decide +kernel⟩)
theorem xw_384 : (.methodLink RX3 104 yX2_addJudge : Cond) ∈ XW := (List.mem_filter.mpr ⟨List.mem_of_getElem? (i := 384) (by decide +kernel), by decide +kernel⟩)
theorem xw_385 : (.instanceMethod yX2_addJudge : Cond) ∈ XW := (List.mem_filter.mpr ⟨List.mem_of_getElem? (i := 385) (by decide +kernel), by decide +kernel⟩)
theorem xw_386 : (.selects RX2 yX2_addJudge yX2_addJudge : Cond) ∈ XW := (List.mem_filter.mpr ⟨List.mem_of_getElem? (i := 386) (by decide +kernel), by decide +kernel⟩)
theorem xw_403 : (.methodLink RX3 116 yX1_ruleAt : Cond) ∈ XW := (List.mem_filter.mpr ⟨List.mem_of_getElem? (i := 403) (by decide +kernel), by decide +kernel⟩)
theorem xw_248 : (mcd mX4_write : Cond) ∈ XW := (List.mem_filter.mpr ⟨List.mem_of_getElem? (i := 248) (by decide +kernel), by decide +kernel⟩)
theorem xw_245 : (.methodLink RL 13 yX4_write : Cond) ∈ XW := (List.mem_filter.mpr ⟨List.mem_of_getElem? (i := 245) (by decide +kernel), by decide +kernel⟩)
theorem xw_246 : (.instanceMethod yX4_write : Cond) ∈ XW := (List.mem_filter.mpr ⟨List.mem_of_getElem? (i := 246) (by decide +kernel), by decide +kernel⟩)
theorem xw_247 : (.selects RX4 yX4_write yX4_write : Cond) ∈ XW := (List.mem_filter.mpr ⟨List.mem_of_getElem? (i := 247) (by decide +kernel), by decide +kernel⟩)
theorem xw_771 : (mcd mX5_write : Cond) ∈ XW := (List.mem_filter.mpr ⟨List.mem_of_getElem? (i := 771) (by decide +kernel), by decide +kernel⟩)
theorem xw_58 : (.initialized RX5 : Cond) ∈ XW := (List.mem_filter.mpr ⟨List.mem_of_getElem? (i := 58) (by decide +kernel), by decide +kernel⟩)
theorem xw_768 : (.methodLink RL 17 yX5_write : Cond) ∈ XW := (List.mem_filter.mpr ⟨List.mem_of_getElem? (i := 768) (by decide +kernel), by decide +kernel⟩)
theorem xw_769 : (.instanceMethod yX5_write : Cond) ∈ XW := (List.mem_filter.mpr ⟨List.mem_of_getElem? (i := 769) (by decide +kernel), by decide +kernel⟩)
theorem xw_770 : (.selects RX5 yX5_write yX5_write : Cond) ∈ XW := (List.mem_filter.mpr ⟨List.mem_of_getElem? (i := 770) (by decide +kernel), by decide +kernel⟩)
theorem xw_264 : (mcd mX4_erase : Cond) ∈ XW := (List.mem_filter.mpr ⟨List.mem_of_getElem? (i := 264) (by decide +kernel), by decide +kernel⟩)
theorem xw_261 : (.methodLink RL 18 yX4_erase : Cond) ∈ XW := (List.mem_filter.mpr ⟨List.mem_of_getElem? (i := 261) (by decide +kernel), by decide +kernel⟩)
theorem xw_262 : (.instanceMethod yX4_erase : Cond) ∈ XW := (List.mem_filter.mpr ⟨List.mem_of_getElem? (i := 262) (by decide +kernel), by decide +kernel⟩)
theorem xw_263 : (.selects RX4 yX4_erase yX4_erase : Cond) ∈ XW := (List.mem_filter.mpr ⟨List.mem_of_getElem? (i := 263) (by decide +kernel), by decide +kernel⟩)
theorem xw_779 : (mcd mX5_erase : Cond) ∈ XW := (List.mem_filter.mpr ⟨List.mem_of_getElem? (i := 779) (by decide +kernel), by decide +kernel⟩)
theorem xw_776 : (.methodLink RL 22 yX5_erase : Cond) ∈ XW := (List.mem_filter.mpr ⟨List.mem_of_getElem? (i := 776) (by decide +kernel), by decide +kernel⟩)
theorem xw_777 : (.instanceMethod yX5_erase : Cond) ∈ XW := (List.mem_filter.mpr ⟨List.mem_of_getElem? (i := 777) (by decide +kernel), by decide +kernel⟩)
theorem xw_778 : (.selects RX5 yX5_erase yX5_erase : Cond) ∈ XW := (List.mem_filter.mpr ⟨List.mem_of_getElem? (i := 778) (by decide +kernel), by decide +kernel⟩)
theorem xw_268 : (mcd mX4_fault : Cond) ∈ XW := (List.mem_filter.mpr ⟨List.mem_of_getElem? (i := 268) (by decide +kernel), by decide +kernel⟩)
theorem xw_265 : (.methodLink RL 23 yX4_fault : Cond) ∈ XW := (List.mem_filter.mpr ⟨List.mem_of_getElem? (i := 265) (by decide +kernel), by decide +kernel⟩)
theorem xw_266 : (.instanceMethod yX4_fault : Cond) ∈ XW := (List.mem_filter.mpr ⟨List.mem_of_getElem? (i := 266) (by decide +kernel), by decide +kernel⟩)
theorem xw_267 : (.selects RX4 yX4_fault yX4_fault : Cond) ∈ XW := (List.mem_filter.mpr ⟨List.mem_of_getElem? (i := 267) (by decide +kernel), by decide +kernel⟩)
theorem xw_783 : (mcd mX5_fault : Cond) ∈ XW := (List.mem_filter.mpr ⟨List.mem_of_getElem? (i := 783) (by decide +kernel), by decide +kernel⟩)
theorem xw_780 : (.methodLink RL 26 yX5_fault : Cond) ∈ XW := (List.mem_filter.mpr ⟨List.mem_of_getElem? (i := 780) (by decide +kernel), by decide +kernel⟩)
theorem xw_781 : (.instanceMethod yX5_fault : Cond) ∈ XW := (List.mem_filter.mpr ⟨List.mem_of_getElem? (i := 781) (by decide +kernel), by decide +kernel⟩)
theorem xw_782 : (.selects RX5 yX5_fault yX5_fault : Cond) ∈ XW := (List.mem_filter.mpr ⟨List.mem_of_getElem? (i := 782) (by decide +kernel), by decide +kernel⟩)
theorem xw_423 : (mcd mX4_wheel : Cond) ∈ XW := (List.mem_filter.mpr ⟨List.mem_of_getElem? (i := 423) (by decide +kernel), by decide +kernel⟩)
theorem xw_420 : (.methodLink RL 27 yX4_wheel : Cond) ∈ XW := (List.mem_filter.mpr ⟨List.mem_of_getElem? (i := 420) (by decide +kernel), by decide +kernel⟩)
theorem xw_421 : (.instanceMethod yX4_wheel : Cond) ∈ XW := (List.mem_filter.mpr ⟨List.mem_of_getElem? (i := 421) (by decide +kernel), by decide +kernel⟩)
theorem xw_422 : (.selects RX4 yX4_wheel yX4_wheel : Cond) ∈ XW := (List.mem_filter.mpr ⟨List.mem_of_getElem? (i := 422) (by decide +kernel), by decide +kernel⟩)
theorem xw_841 : (mcd mX5_wheel : Cond) ∈ XW := (List.mem_filter.mpr ⟨List.mem_of_getElem? (i := 841) (by decide +kernel), by decide +kernel⟩)
theorem xw_838 : (.methodLink RL 30 yX5_wheel : Cond) ∈ XW := (List.mem_filter.mpr ⟨List.mem_of_getElem? (i := 838) (by decide +kernel), by decide +kernel⟩)
theorem xw_839 : (.instanceMethod yX5_wheel : Cond) ∈ XW := (List.mem_filter.mpr ⟨List.mem_of_getElem? (i := 839) (by decide +kernel), by decide +kernel⟩)
theorem xw_840 : (.selects RX5 yX5_wheel yX5_wheel : Cond) ∈ XW := (List.mem_filter.mpr ⟨List.mem_of_getElem? (i := 840) (by decide +kernel), by decide +kernel⟩)
theorem xw_439 : (mcd mX4_judge : Cond) ∈ XW := (List.mem_filter.mpr ⟨List.mem_of_getElem? (i := 439) (by decide +kernel), by decide +kernel⟩)
theorem xw_436 : (.methodLink RL 31 yX4_judge : Cond) ∈ XW := (List.mem_filter.mpr ⟨List.mem_of_getElem? (i := 436) (by decide +kernel), by decide +kernel⟩)
theorem xw_437 : (.instanceMethod yX4_judge : Cond) ∈ XW := (List.mem_filter.mpr ⟨List.mem_of_getElem? (i := 437) (by decide +kernel), by decide +kernel⟩)
theorem xw_438 : (.selects RX4 yX4_judge yX4_judge : Cond) ∈ XW := (List.mem_filter.mpr ⟨List.mem_of_getElem? (i := 438) (by decide +kernel), by decide +kernel⟩)
theorem xw_845 : (mcd mX5_judge : Cond) ∈ XW := (List.mem_filter.mpr ⟨List.mem_of_getElem? (i := 845) (by decide +kernel), by decide +kernel⟩)
theorem xw_842 : (.methodLink RL 35 yX5_judge : Cond) ∈ XW := (List.mem_filter.mpr ⟨List.mem_of_getElem? (i := 842) (by decide +kernel), by decide +kernel⟩)
theorem xw_843 : (.instanceMethod yX5_judge : Cond) ∈ XW := (List.mem_filter.mpr ⟨List.mem_of_getElem? (i := 843) (by decide +kernel), by decide +kernel⟩)
theorem xw_844 : (.selects RX5 yX5_judge yX5_judge : Cond) ∈ XW := (List.mem_filter.mpr ⟨List.mem_of_getElem? (i := 844) (by decide +kernel), by decide +kernel⟩)
theorem xw_455 : (mcd mX4_caseOf : Cond) ∈ XW := (List.mem_filter.mpr ⟨List.mem_of_getElem? (i := 455) (by decide +kernel), by decide +kernel⟩)
theorem xw_452 : (.methodLink RL 36 yX4_caseOf : Cond) ∈ XW := (List.mem_filter.mpr ⟨List.mem_of_getElem? (i := 452) (by decide +kernel), by decide +kernel⟩)
theorem xw_453 : (.instanceMethod yX4_caseOf : Cond) ∈ XW := (List.mem_filter.mpr ⟨List.mem_of_getElem? (i := 453) (by decide +kernel), by decide +kernel⟩)
theorem xw_454 : (.selects RX4 yX4_caseOf yX4_caseOf : Cond) ∈ XW := (List.mem_filter.mpr ⟨List.mem_of_getElem? (i := 454) (by decide +kernel), by decide +kernel⟩)
theorem xw_853 : (mcd mX5_caseOf : Cond) ∈ XW := (List.mem_filter.mpr ⟨List.mem_of_getElem? (i := 853) (by decide +kernel), by decide +kernel⟩)
theorem xw_850 : (.methodLink RL 39 yX5_caseOf : Cond) ∈ XW := (List.mem_filter.mpr ⟨List.mem_of_getElem? (i := 850) (by decide +kernel), by decide +kernel⟩)
theorem xw_851 : (.instanceMethod yX5_caseOf : Cond) ∈ XW := (List.mem_filter.mpr ⟨List.mem_of_getElem? (i := 851) (by decide +kernel), by decide +kernel⟩)
theorem xw_852 : (.selects RX5 yX5_caseOf yX5_caseOf : Cond) ∈ XW := (List.mem_filter.mpr ⟨List.mem_of_getElem? (i := 852) (by decide +kernel), by decide +kernel⟩)
theorem xw_463 : (mcd mX4_seal : Cond) ∈ XW := (List.mem_filter.mpr ⟨List.mem_of_getElem? (i := 463) (by decide +kernel), by decide +kernel⟩)
theorem xw_460 : (.methodLink RL 40 yX4_seal : Cond) ∈ XW := (List.mem_filter.mpr ⟨List.mem_of_getElem? (i := 460) (by decide +kernel), by decide +kernel⟩)
theorem xw_461 : (.instanceMethod yX4_seal : Cond) ∈ XW := (List.mem_filter.mpr ⟨List.mem_of_getElem? (i := 461) (by decide +kernel), by decide +kernel⟩)
theorem xw_462 : (.selects RX4 yX4_seal yX4_seal : Cond) ∈ XW := (List.mem_filter.mpr ⟨List.mem_of_getElem? (i := 462) (by decide +kernel), by decide +kernel⟩)
theorem xw_861 : (mcd mX5_seal : Cond) ∈ XW := (List.mem_filter.mpr ⟨List.mem_of_getElem? (i := 861) (by decide +kernel), by decide +kernel⟩)
theorem xw_858 : (.methodLink RL 43 yX5_seal : Cond) ∈ XW := (List.mem_filter.mpr ⟨List.mem_of_getElem? (i := 858) (by decide +kernel), by decide +kernel⟩)
theorem xw_859 : (.instanceMethod yX5_seal : Cond) ∈ XW := (List.mem_filter.mpr ⟨List.mem_of_getElem? (i := 859) (by decide +kernel), by decide +kernel⟩)
theorem xw_860 : (.selects RX5 yX5_seal yX5_seal : Cond) ∈ XW := (List.mem_filter.mpr ⟨List.mem_of_getElem? (i := 860) (by decide +kernel), by decide +kernel⟩)
theorem xw_471 : (mcd mX4_assign : Cond) ∈ XW := (List.mem_filter.mpr ⟨List.mem_of_getElem? (i := 471) (by decide +kernel), by decide +kernel⟩)
theorem xw_468 : (.methodLink RL 44 yX4_assign : Cond) ∈ XW := (List.mem_filter.mpr ⟨List.mem_of_getElem? (i := 468) (by decide +kernel), by decide +kernel⟩)
theorem xw_469 : (.instanceMethod yX4_assign : Cond) ∈ XW := (List.mem_filter.mpr ⟨List.mem_of_getElem? (i := 469) (by decide +kernel), by decide +kernel⟩)
theorem xw_470 : (.selects RX4 yX4_assign yX4_assign : Cond) ∈ XW := (List.mem_filter.mpr ⟨List.mem_of_getElem? (i := 470) (by decide +kernel), by decide +kernel⟩)
theorem xw_869 : (mcd mX5_assign : Cond) ∈ XW := (List.mem_filter.mpr ⟨List.mem_of_getElem? (i := 869) (by decide +kernel), by decide +kernel⟩)
theorem xw_866 : (.methodLink RL 47 yX5_assign : Cond) ∈ XW := (List.mem_filter.mpr ⟨List.mem_of_getElem? (i := 866) (by decide +kernel), by decide +kernel⟩)
theorem xw_867 : (.instanceMethod yX5_assign : Cond) ∈ XW := (List.mem_filter.mpr ⟨List.mem_of_getElem? (i := 867) (by decide +kernel), by decide +kernel⟩)
theorem xw_868 : (.selects RX5 yX5_assign yX5_assign : Cond) ∈ XW := (List.mem_filter.mpr ⟨List.mem_of_getElem? (i := 868) (by decide +kernel), by decide +kernel⟩)
theorem xw_534 : (mcd mX4_refuse : Cond) ∈ XW := (List.mem_filter.mpr ⟨List.mem_of_getElem? (i := 534) (by decide +kernel), by decide +kernel⟩)
theorem xw_531 : (.methodLink RL 48 yX4_refuse : Cond) ∈ XW := (List.mem_filter.mpr ⟨List.mem_of_getElem? (i := 531) (by decide +kernel), by decide +kernel⟩)
theorem xw_532 : (.instanceMethod yX4_refuse : Cond) ∈ XW := (List.mem_filter.mpr ⟨List.mem_of_getElem? (i := 532) (by decide +kernel), by decide +kernel⟩)
theorem xw_533 : (.selects RX4 yX4_refuse yX4_refuse : Cond) ∈ XW := (List.mem_filter.mpr ⟨List.mem_of_getElem? (i := 533) (by decide +kernel), by decide +kernel⟩)
theorem xw_917 : (mcd mX5_refuse : Cond) ∈ XW := (List.mem_filter.mpr ⟨List.mem_of_getElem? (i := 917) (by decide +kernel), by decide +kernel⟩)
theorem xw_914 : (.methodLink RL 51 yX5_refuse : Cond) ∈ XW := (List.mem_filter.mpr ⟨List.mem_of_getElem? (i := 914) (by decide +kernel), by decide +kernel⟩)
theorem xw_915 : (.instanceMethod yX5_refuse : Cond) ∈ XW := (List.mem_filter.mpr ⟨List.mem_of_getElem? (i := 915) (by decide +kernel), by decide +kernel⟩)
theorem xw_916 : (.selects RX5 yX5_refuse yX5_refuse : Cond) ∈ XW := (List.mem_filter.mpr ⟨List.mem_of_getElem? (i := 916) (by decide +kernel), by decide +kernel⟩)
theorem xw_542 : (mcd mX4_away : Cond) ∈ XW := (List.mem_filter.mpr ⟨List.mem_of_getElem? (i := 542) (by decide +kernel), by decide +kernel⟩)
theorem xw_539 : (.methodLink RL 52 yX4_away : Cond) ∈ XW := (List.mem_filter.mpr ⟨List.mem_of_getElem? (i := 539) (by decide +kernel), by decide +kernel⟩)
theorem xw_540 : (.instanceMethod yX4_away : Cond) ∈ XW := (List.mem_filter.mpr ⟨List.mem_of_getElem? (i := 540) (by decide +kernel), by decide +kernel⟩)
theorem xw_541 : (.selects RX4 yX4_away yX4_away : Cond) ∈ XW := (List.mem_filter.mpr ⟨List.mem_of_getElem? (i := 541) (by decide +kernel), by decide +kernel⟩)
theorem xw_921 : (mcd mX5_away : Cond) ∈ XW := (List.mem_filter.mpr ⟨List.mem_of_getElem? (i := 921) (by decide +kernel), by decide +kernel⟩)
theorem xw_918 : (.methodLink RL 55 yX5_away : Cond) ∈ XW := (List.mem_filter.mpr ⟨List.mem_of_getElem? (i := 918) (by decide +kernel), by decide +kernel⟩)
theorem xw_919 : (.instanceMethod yX5_away : Cond) ∈ XW := (List.mem_filter.mpr ⟨List.mem_of_getElem? (i := 919) (by decide +kernel), by decide +kernel⟩)
theorem xw_920 : (.selects RX5 yX5_away yX5_away : Cond) ∈ XW := (List.mem_filter.mpr ⟨List.mem_of_getElem? (i := 920) (by decide +kernel), by decide +kernel⟩)
theorem xw_546 : (mcd mX4_undo : Cond) ∈ XW := (List.mem_filter.mpr ⟨List.mem_of_getElem? (i := 546) (by decide +kernel), by decide +kernel⟩)
theorem xw_543 : (.methodLink RL 56 yX4_undo : Cond) ∈ XW := (List.mem_filter.mpr ⟨List.mem_of_getElem? (i := 543) (by decide +kernel), by decide +kernel⟩)
theorem xw_544 : (.instanceMethod yX4_undo : Cond) ∈ XW := (List.mem_filter.mpr ⟨List.mem_of_getElem? (i := 544) (by decide +kernel), by decide +kernel⟩)
theorem xw_545 : (.selects RX4 yX4_undo yX4_undo : Cond) ∈ XW := (List.mem_filter.mpr ⟨List.mem_of_getElem? (i := 545) (by decide +kernel), by decide +kernel⟩)
theorem xw_925 : (mcd mX5_undo : Cond) ∈ XW := (List.mem_filter.mpr ⟨List.mem_of_getElem? (i := 925) (by decide +kernel), by decide +kernel⟩)
theorem xw_922 : (.methodLink RL 59 yX5_undo : Cond) ∈ XW := (List.mem_filter.mpr ⟨List.mem_of_getElem? (i := 922) (by decide +kernel), by decide +kernel⟩)
theorem xw_923 : (.instanceMethod yX5_undo : Cond) ∈ XW := (List.mem_filter.mpr ⟨List.mem_of_getElem? (i := 923) (by decide +kernel), by decide +kernel⟩)
theorem xw_924 : (.selects RX5 yX5_undo yX5_undo : Cond) ∈ XW := (List.mem_filter.mpr ⟨List.mem_of_getElem? (i := 924) (by decide +kernel), by decide +kernel⟩)
theorem xw_554 : (mcd mX4_keep : Cond) ∈ XW := (List.mem_filter.mpr ⟨List.mem_of_getElem? (i := 554) (by decide +kernel), by decide +kernel⟩)
theorem xw_551 : (.methodLink RL 60 yX4_keep : Cond) ∈ XW := (List.mem_filter.mpr ⟨List.mem_of_getElem? (i := 551) (by decide +kernel), by decide +kernel⟩)
theorem xw_552 : (.instanceMethod yX4_keep : Cond) ∈ XW := (List.mem_filter.mpr ⟨List.mem_of_getElem? (i := 552) (by decide +kernel), by decide +kernel⟩)
theorem xw_553 : (.selects RX4 yX4_keep yX4_keep : Cond) ∈ XW := (List.mem_filter.mpr ⟨List.mem_of_getElem? (i := 553) (by decide +kernel), by decide +kernel⟩)
theorem xw_929 : (mcd mX5_keep : Cond) ∈ XW := (List.mem_filter.mpr ⟨List.mem_of_getElem? (i := 929) (by decide +kernel), by decide +kernel⟩)
theorem xw_926 : (.methodLink RL 63 yX5_keep : Cond) ∈ XW := (List.mem_filter.mpr ⟨List.mem_of_getElem? (i := 926) (by decide +kernel), by decide +kernel⟩)
theorem xw_927 : (.instanceMethod yX5_keep : Cond) ∈ XW := (List.mem_filter.mpr ⟨List.mem_of_getElem? (i := 927) (by decide +kernel), by decide +kernel⟩)
theorem xw_928 : (.selects RX5 yX5_keep yX5_keep : Cond) ∈ XW := (List.mem_filter.mpr ⟨List.mem_of_getElem? (i := 928) (by decide +kernel), by decide +kernel⟩)
theorem xw_558 : (mcd mX4_back : Cond) ∈ XW := (List.mem_filter.mpr ⟨List.mem_of_getElem? (i := 558) (by decide +kernel), by decide +kernel⟩)
theorem xw_555 : (.methodLink RL 64 yX4_back : Cond) ∈ XW := (List.mem_filter.mpr ⟨List.mem_of_getElem? (i := 555) (by decide +kernel), by decide +kernel⟩)
theorem xw_556 : (.instanceMethod yX4_back : Cond) ∈ XW := (List.mem_filter.mpr ⟨List.mem_of_getElem? (i := 556) (by decide +kernel), by decide +kernel⟩)
theorem xw_557 : (.selects RX4 yX4_back yX4_back : Cond) ∈ XW := (List.mem_filter.mpr ⟨List.mem_of_getElem? (i := 557) (by decide +kernel), by decide +kernel⟩)
theorem xw_933 : (mcd mX5_back : Cond) ∈ XW := (List.mem_filter.mpr ⟨List.mem_of_getElem? (i := 933) (by decide +kernel), by decide +kernel⟩)
theorem xw_930 : (.methodLink RL 67 yX5_back : Cond) ∈ XW := (List.mem_filter.mpr ⟨List.mem_of_getElem? (i := 930) (by decide +kernel), by decide +kernel⟩)
theorem xw_931 : (.instanceMethod yX5_back : Cond) ∈ XW := (List.mem_filter.mpr ⟨List.mem_of_getElem? (i := 931) (by decide +kernel), by decide +kernel⟩)
theorem xw_932 : (.selects RX5 yX5_back yX5_back : Cond) ∈ XW := (List.mem_filter.mpr ⟨List.mem_of_getElem? (i := 932) (by decide +kernel), by decide +kernel⟩)
theorem xw_562 : (mcd mX4_writing : Cond) ∈ XW := (List.mem_filter.mpr ⟨List.mem_of_getElem? (i := 562) (by decide +kernel), by decide +kernel⟩)
theorem xw_559 : (.methodLink RL 68 yX4_writing : Cond) ∈ XW := (List.mem_filter.mpr ⟨List.mem_of_getElem? (i := 559) (by decide +kernel), by decide +kernel⟩)
theorem xw_560 : (.instanceMethod yX4_writing : Cond) ∈ XW := (List.mem_filter.mpr ⟨List.mem_of_getElem? (i := 560) (by decide +kernel), by decide +kernel⟩)
theorem xw_561 : (.selects RX4 yX4_writing yX4_writing : Cond) ∈ XW := (List.mem_filter.mpr ⟨List.mem_of_getElem? (i := 561) (by decide +kernel), by decide +kernel⟩)
theorem xw_937 : (mcd mX5_writing : Cond) ∈ XW := (List.mem_filter.mpr ⟨List.mem_of_getElem? (i := 937) (by decide +kernel), by decide +kernel⟩)
theorem xw_934 : (.methodLink RL 71 yX5_writing : Cond) ∈ XW := (List.mem_filter.mpr ⟨List.mem_of_getElem? (i := 934) (by decide +kernel), by decide +kernel⟩)
theorem xw_935 : (.instanceMethod yX5_writing : Cond) ∈ XW := (List.mem_filter.mpr ⟨List.mem_of_getElem? (i := 935) (by decide +kernel), by decide +kernel⟩)
theorem xw_936 : (.selects RX5 yX5_writing yX5_writing : Cond) ∈ XW := (List.mem_filter.mpr ⟨List.mem_of_getElem? (i := 936) (by decide +kernel), by decide +kernel⟩)
theorem xw_575 : (mcd mX4_sealOf : Cond) ∈ XW := (List.mem_filter.mpr ⟨List.mem_of_getElem? (i := 575) (by decide +kernel), by decide +kernel⟩)
theorem xw_572 : (.methodLink RL 72 yX4_sealOf : Cond) ∈ XW := (List.mem_filter.mpr ⟨List.mem_of_getElem? (i := 572) (by decide +kernel), by decide +kernel⟩)
theorem xw_573 : (.instanceMethod yX4_sealOf : Cond) ∈ XW := (List.mem_filter.mpr ⟨List.mem_of_getElem? (i := 573) (by decide +kernel), by decide +kernel⟩)
theorem xw_574 : (.selects RX4 yX4_sealOf yX4_sealOf : Cond) ∈ XW := (List.mem_filter.mpr ⟨List.mem_of_getElem? (i := 574) (by decide +kernel), by decide +kernel⟩)
theorem xw_949 : (mcd mX5_sealOf : Cond) ∈ XW := (List.mem_filter.mpr ⟨List.mem_of_getElem? (i := 949) (by decide +kernel), by decide +kernel⟩)
theorem xw_946 : (.methodLink RL 75 yX5_sealOf : Cond) ∈ XW := (List.mem_filter.mpr ⟨List.mem_of_getElem? (i := 946) (by decide +kernel), by decide +kernel⟩)
theorem xw_947 : (.instanceMethod yX5_sealOf : Cond) ∈ XW := (List.mem_filter.mpr ⟨List.mem_of_getElem? (i := 947) (by decide +kernel), by decide +kernel⟩)
theorem xw_948 : (.selects RX5 yX5_sealOf yX5_sealOf : Cond) ∈ XW := (List.mem_filter.mpr ⟨List.mem_of_getElem? (i := 948) (by decide +kernel), by decide +kernel⟩)
theorem xw_581 : (mcd mX4_weight : Cond) ∈ XW := (List.mem_filter.mpr ⟨List.mem_of_getElem? (i := 581) (by decide +kernel), by decide +kernel⟩)
theorem xw_578 : (.methodLink RL 76 yX4_weight : Cond) ∈ XW := (List.mem_filter.mpr ⟨List.mem_of_getElem? (i := 578) (by decide +kernel), by decide +kernel⟩)
theorem xw_579 : (.instanceMethod yX4_weight : Cond) ∈ XW := (List.mem_filter.mpr ⟨List.mem_of_getElem? (i := 579) (by decide +kernel), by decide +kernel⟩)
theorem xw_580 : (.selects RX4 yX4_weight yX4_weight : Cond) ∈ XW := (List.mem_filter.mpr ⟨List.mem_of_getElem? (i := 580) (by decide +kernel), by decide +kernel⟩)
theorem xw_955 : (mcd mX5_weight : Cond) ∈ XW := (List.mem_filter.mpr ⟨List.mem_of_getElem? (i := 955) (by decide +kernel), by decide +kernel⟩)
theorem xw_952 : (.methodLink RL 79 yX5_weight : Cond) ∈ XW := (List.mem_filter.mpr ⟨List.mem_of_getElem? (i := 952) (by decide +kernel), by decide +kernel⟩)
theorem xw_953 : (.instanceMethod yX5_weight : Cond) ∈ XW := (List.mem_filter.mpr ⟨List.mem_of_getElem? (i := 953) (by decide +kernel), by decide +kernel⟩)
theorem xw_954 : (.selects RX5 yX5_weight yX5_weight : Cond) ∈ XW := (List.mem_filter.mpr ⟨List.mem_of_getElem? (i := 954) (by decide +kernel), by decide +kernel⟩)
theorem xw_586 : (mcd mX4_odds : Cond) ∈ XW := (List.mem_filter.mpr ⟨List.mem_of_getElem? (i := 586) (by decide +kernel), by decide +kernel⟩)
theorem xw_583 : (.methodLink RL 80 yX4_odds : Cond) ∈ XW := (List.mem_filter.mpr ⟨List.mem_of_getElem? (i := 583) (by decide +kernel), by decide +kernel⟩)
theorem xw_584 : (.instanceMethod yX4_odds : Cond) ∈ XW := (List.mem_filter.mpr ⟨List.mem_of_getElem? (i := 584) (by decide +kernel), by decide +kernel⟩)
theorem xw_585 : (.selects RX4 yX4_odds yX4_odds : Cond) ∈ XW := (List.mem_filter.mpr ⟨List.mem_of_getElem? (i := 585) (by decide +kernel), by decide +kernel⟩)
theorem xw_959 : (mcd mX5_odds : Cond) ∈ XW := (List.mem_filter.mpr ⟨List.mem_of_getElem? (i := 959) (by decide +kernel), by decide +kernel⟩)
theorem xw_956 : (.methodLink RL 84 yX5_odds : Cond) ∈ XW := (List.mem_filter.mpr ⟨List.mem_of_getElem? (i := 956) (by decide +kernel), by decide +kernel⟩)
theorem xw_957 : (.instanceMethod yX5_odds : Cond) ∈ XW := (List.mem_filter.mpr ⟨List.mem_of_getElem? (i := 957) (by decide +kernel), by decide +kernel⟩)
theorem xw_958 : (.selects RX5 yX5_odds yX5_odds : Cond) ∈ XW := (List.mem_filter.mpr ⟨List.mem_of_getElem? (i := 958) (by decide +kernel), by decide +kernel⟩)
theorem xw_600 : (mcd mX4_next : Cond) ∈ XW := (List.mem_filter.mpr ⟨List.mem_of_getElem? (i := 600) (by decide +kernel), by decide +kernel⟩)
theorem xw_597 : (.methodLink RL 85 yX4_next : Cond) ∈ XW := (List.mem_filter.mpr ⟨List.mem_of_getElem? (i := 597) (by decide +kernel), by decide +kernel⟩)
theorem xw_598 : (.instanceMethod yX4_next : Cond) ∈ XW := (List.mem_filter.mpr ⟨List.mem_of_getElem? (i := 598) (by decide +kernel), by decide +kernel⟩)
theorem xw_599 : (.selects RX4 yX4_next yX4_next : Cond) ∈ XW := (List.mem_filter.mpr ⟨List.mem_of_getElem? (i := 599) (by decide +kernel), by decide +kernel⟩)
theorem xw_963 : (mcd mX5_next : Cond) ∈ XW := (List.mem_filter.mpr ⟨List.mem_of_getElem? (i := 963) (by decide +kernel), by decide +kernel⟩)
theorem xw_960 : (.methodLink RL 88 yX5_next : Cond) ∈ XW := (List.mem_filter.mpr ⟨List.mem_of_getElem? (i := 960) (by decide +kernel), by decide +kernel⟩)
theorem xw_961 : (.instanceMethod yX5_next : Cond) ∈ XW := (List.mem_filter.mpr ⟨List.mem_of_getElem? (i := 961) (by decide +kernel), by decide +kernel⟩)
theorem xw_962 : (.selects RX5 yX5_next yX5_next : Cond) ∈ XW := (List.mem_filter.mpr ⟨List.mem_of_getElem? (i := 962) (by decide +kernel), by decide +kernel⟩)
theorem xw_605 : (mcd mX4_count : Cond) ∈ XW := (List.mem_filter.mpr ⟨List.mem_of_getElem? (i := 605) (by decide +kernel), by decide +kernel⟩)
theorem xw_602 : (.methodLink RL 89 yX4_count : Cond) ∈ XW := (List.mem_filter.mpr ⟨List.mem_of_getElem? (i := 602) (by decide +kernel), by decide +kernel⟩)
theorem xw_603 : (.instanceMethod yX4_count : Cond) ∈ XW := (List.mem_filter.mpr ⟨List.mem_of_getElem? (i := 603) (by decide +kernel), by decide +kernel⟩)
theorem xw_604 : (.selects RX4 yX4_count yX4_count : Cond) ∈ XW := (List.mem_filter.mpr ⟨List.mem_of_getElem? (i := 604) (by decide +kernel), by decide +kernel⟩)
theorem xw_967 : (mcd mX5_count : Cond) ∈ XW := (List.mem_filter.mpr ⟨List.mem_of_getElem? (i := 967) (by decide +kernel), by decide +kernel⟩)
theorem xw_964 : (.methodLink RL 92 yX5_count : Cond) ∈ XW := (List.mem_filter.mpr ⟨List.mem_of_getElem? (i := 964) (by decide +kernel), by decide +kernel⟩)
theorem xw_965 : (.instanceMethod yX5_count : Cond) ∈ XW := (List.mem_filter.mpr ⟨List.mem_of_getElem? (i := 965) (by decide +kernel), by decide +kernel⟩)
theorem xw_966 : (.selects RX5 yX5_count yX5_count : Cond) ∈ XW := (List.mem_filter.mpr ⟨List.mem_of_getElem? (i := 966) (by decide +kernel), by decide +kernel⟩)
theorem xw_618 : (mcd mX4_like : Cond) ∈ XW := (List.mem_filter.mpr ⟨List.mem_of_getElem? (i := 618) (by decide +kernel), by decide +kernel⟩)
theorem xw_615 : (.methodLink RL 93 yX4_like : Cond) ∈ XW := (List.mem_filter.mpr ⟨List.mem_of_getElem? (i := 615) (by decide +kernel), by decide +kernel⟩)
theorem xw_616 : (.instanceMethod yX4_like : Cond) ∈ XW := (List.mem_filter.mpr ⟨List.mem_of_getElem? (i := 616) (by decide +kernel), by decide +kernel⟩)
theorem xw_617 : (.selects RX4 yX4_like yX4_like : Cond) ∈ XW := (List.mem_filter.mpr ⟨List.mem_of_getElem? (i := 617) (by decide +kernel), by decide +kernel⟩)
theorem xw_979 : (mcd mX5_like : Cond) ∈ XW := (List.mem_filter.mpr ⟨List.mem_of_getElem? (i := 979) (by decide +kernel), by decide +kernel⟩)
theorem xw_976 : (.methodLink RL 96 yX5_like : Cond) ∈ XW := (List.mem_filter.mpr ⟨List.mem_of_getElem? (i := 976) (by decide +kernel), by decide +kernel⟩)
theorem xw_977 : (.instanceMethod yX5_like : Cond) ∈ XW := (List.mem_filter.mpr ⟨List.mem_of_getElem? (i := 977) (by decide +kernel), by decide +kernel⟩)
theorem xw_978 : (.selects RX5 yX5_like yX5_like : Cond) ∈ XW := (List.mem_filter.mpr ⟨List.mem_of_getElem? (i := 978) (by decide +kernel), by decide +kernel⟩)
theorem xw_622 : (mcd mX4_slip : Cond) ∈ XW := (List.mem_filter.mpr ⟨List.mem_of_getElem? (i := 622) (by decide +kernel), by decide +kernel⟩)
theorem xw_619 : (.methodLink RL 97 yX4_slip : Cond) ∈ XW := (List.mem_filter.mpr ⟨List.mem_of_getElem? (i := 619) (by decide +kernel), by decide +kernel⟩)
theorem xw_620 : (.instanceMethod yX4_slip : Cond) ∈ XW := (List.mem_filter.mpr ⟨List.mem_of_getElem? (i := 620) (by decide +kernel), by decide +kernel⟩)
theorem xw_621 : (.selects RX4 yX4_slip yX4_slip : Cond) ∈ XW := (List.mem_filter.mpr ⟨List.mem_of_getElem? (i := 621) (by decide +kernel), by decide +kernel⟩)
theorem xw_984 : (mcd mX5_slip : Cond) ∈ XW := (List.mem_filter.mpr ⟨List.mem_of_getElem? (i := 984) (by decide +kernel), by decide +kernel⟩)
theorem xw_981 : (.methodLink RL 100 yX5_slip : Cond) ∈ XW := (List.mem_filter.mpr ⟨List.mem_of_getElem? (i := 981) (by decide +kernel), by decide +kernel⟩)
theorem xw_982 : (.instanceMethod yX5_slip : Cond) ∈ XW := (List.mem_filter.mpr ⟨List.mem_of_getElem? (i := 982) (by decide +kernel), by decide +kernel⟩)
theorem xw_983 : (.selects RX5 yX5_slip yX5_slip : Cond) ∈ XW := (List.mem_filter.mpr ⟨List.mem_of_getElem? (i := 983) (by decide +kernel), by decide +kernel⟩)
theorem xw_629 : (mcd mX4_insert : Cond) ∈ XW := (List.mem_filter.mpr ⟨List.mem_of_getElem? (i := 629) (by decide +kernel), by decide +kernel⟩)
theorem xw_626 : (.methodLink RL 101 yX4_insert : Cond) ∈ XW := (List.mem_filter.mpr ⟨List.mem_of_getElem? (i := 626) (by decide +kernel), by decide +kernel⟩)
theorem xw_627 : (.instanceMethod yX4_insert : Cond) ∈ XW := (List.mem_filter.mpr ⟨List.mem_of_getElem? (i := 627) (by decide +kernel), by decide +kernel⟩)
theorem xw_628 : (.selects RX4 yX4_insert yX4_insert : Cond) ∈ XW := (List.mem_filter.mpr ⟨List.mem_of_getElem? (i := 628) (by decide +kernel), by decide +kernel⟩)
theorem xw_992 : (mcd mX5_insert : Cond) ∈ XW := (List.mem_filter.mpr ⟨List.mem_of_getElem? (i := 992) (by decide +kernel), by decide +kernel⟩)
theorem xw_989 : (.methodLink RL 105 yX5_insert : Cond) ∈ XW := (List.mem_filter.mpr ⟨List.mem_of_getElem? (i := 989) (by decide +kernel), by decide +kernel⟩)
theorem xw_990 : (.instanceMethod yX5_insert : Cond) ∈ XW := (List.mem_filter.mpr ⟨List.mem_of_getElem? (i := 990) (by decide +kernel), by decide +kernel⟩)
theorem xw_991 : (.selects RX5 yX5_insert yX5_insert : Cond) ∈ XW := (List.mem_filter.mpr ⟨List.mem_of_getElem? (i := 991) (by decide +kernel), by decide +kernel⟩)
theorem xw_638 : (mcd mX4_cut : Cond) ∈ XW := (List.mem_filter.mpr ⟨List.mem_of_getElem? (i := 638) (by decide +kernel), by decide +kernel⟩)
theorem xw_635 : (.methodLink RL 106 yX4_cut : Cond) ∈ XW := (List.mem_filter.mpr ⟨List.mem_of_getElem? (i := 635) (by decide +kernel), by decide +kernel⟩)
theorem xw_636 : (.instanceMethod yX4_cut : Cond) ∈ XW := (List.mem_filter.mpr ⟨List.mem_of_getElem? (i := 636) (by decide +kernel), by decide +kernel⟩)
theorem xw_637 : (.selects RX4 yX4_cut yX4_cut : Cond) ∈ XW := (List.mem_filter.mpr ⟨List.mem_of_getElem? (i := 637) (by decide +kernel), by decide +kernel⟩)
theorem xw_996 : (mcd mX5_cut : Cond) ∈ XW := (List.mem_filter.mpr ⟨List.mem_of_getElem? (i := 996) (by decide +kernel), by decide +kernel⟩)
theorem xw_993 : (.methodLink RL 109 yX5_cut : Cond) ∈ XW := (List.mem_filter.mpr ⟨List.mem_of_getElem? (i := 993) (by decide +kernel), by decide +kernel⟩)
theorem xw_994 : (.instanceMethod yX5_cut : Cond) ∈ XW := (List.mem_filter.mpr ⟨List.mem_of_getElem? (i := 994) (by decide +kernel), by decide +kernel⟩)
theorem xw_995 : (.selects RX5 yX5_cut yX5_cut : Cond) ∈ XW := (List.mem_filter.mpr ⟨List.mem_of_getElem? (i := 995) (by decide +kernel), by decide +kernel⟩)
theorem xw_646 : (mcd mX4_join : Cond) ∈ XW := (List.mem_filter.mpr ⟨List.mem_of_getElem? (i := 646) (by decide +kernel), by decide +kernel⟩)
theorem xw_643 : (.methodLink RL 110 yX4_join : Cond) ∈ XW := (List.mem_filter.mpr ⟨List.mem_of_getElem? (i := 643) (by decide +kernel), by decide +kernel⟩)
theorem xw_644 : (.instanceMethod yX4_join : Cond) ∈ XW := (List.mem_filter.mpr ⟨List.mem_of_getElem? (i := 644) (by decide +kernel), by decide +kernel⟩)
theorem xw_645 : (.selects RX4 yX4_join yX4_join : Cond) ∈ XW := (List.mem_filter.mpr ⟨List.mem_of_getElem? (i := 645) (by decide +kernel), by decide +kernel⟩)
theorem xw_1000 : (mcd mX5_join : Cond) ∈ XW := (List.mem_filter.mpr ⟨List.mem_of_getElem? (i := 1000) (by decide +kernel), by decide +kernel⟩)
theorem xw_997 : (.methodLink RL 113 yX5_join : Cond) ∈ XW := (List.mem_filter.mpr ⟨List.mem_of_getElem? (i := 997) (by decide +kernel), by decide +kernel⟩)
theorem xw_998 : (.instanceMethod yX5_join : Cond) ∈ XW := (List.mem_filter.mpr ⟨List.mem_of_getElem? (i := 998) (by decide +kernel), by decide +kernel⟩)
theorem xw_999 : (.selects RX5 yX5_join yX5_join : Cond) ∈ XW := (List.mem_filter.mpr ⟨List.mem_of_getElem? (i := 999) (by decide +kernel), by decide +kernel⟩)
theorem xw_654 : (mcd mX4_letter : Cond) ∈ XW := (List.mem_filter.mpr ⟨List.mem_of_getElem? (i := 654) (by decide +kernel), by decide +kernel⟩)
theorem xw_651 : (.methodLink RL 114 yX4_letter : Cond) ∈ XW := (List.mem_filter.mpr ⟨List.mem_of_getElem? (i := 651) (by decide +kernel), by decide +kernel⟩)
theorem xw_652 : (.instanceMethod yX4_letter : Cond) ∈ XW := (List.mem_filter.mpr ⟨List.mem_of_getElem? (i := 652) (by decide +kernel), by decide +kernel⟩)
theorem xw_653 : (.selects RX4 yX4_letter yX4_letter : Cond) ∈ XW := (List.mem_filter.mpr ⟨List.mem_of_getElem? (i := 653) (by decide +kernel), by decide +kernel⟩)
theorem xw_1004 : (mcd mX5_letter : Cond) ∈ XW := (List.mem_filter.mpr ⟨List.mem_of_getElem? (i := 1004) (by decide +kernel), by decide +kernel⟩)
theorem xw_1001 : (.methodLink RL 117 yX5_letter : Cond) ∈ XW := (List.mem_filter.mpr ⟨List.mem_of_getElem? (i := 1001) (by decide +kernel), by decide +kernel⟩)
theorem xw_1002 : (.instanceMethod yX5_letter : Cond) ∈ XW := (List.mem_filter.mpr ⟨List.mem_of_getElem? (i := 1002) (by decide +kernel), by decide +kernel⟩)
theorem xw_1003 : (.selects RX5 yX5_letter yX5_letter : Cond) ∈ XW := (List.mem_filter.mpr ⟨List.mem_of_getElem? (i := 1003) (by decide +kernel), by decide +kernel⟩)
theorem xw_658 : (mcd mX4_find : Cond) ∈ XW := (List.mem_filter.mpr ⟨List.mem_of_getElem? (i := 658) (by decide +kernel), by decide +kernel⟩)
theorem xw_655 : (.methodLink RL 118 yX4_find : Cond) ∈ XW := (List.mem_filter.mpr ⟨List.mem_of_getElem? (i := 655) (by decide +kernel), by decide +kernel⟩)
theorem xw_656 : (.instanceMethod yX4_find : Cond) ∈ XW := (List.mem_filter.mpr ⟨List.mem_of_getElem? (i := 656) (by decide +kernel), by decide +kernel⟩)
theorem xw_657 : (.selects RX4 yX4_find yX4_find : Cond) ∈ XW := (List.mem_filter.mpr ⟨List.mem_of_getElem? (i := 657) (by decide +kernel), by decide +kernel⟩)
theorem xw_1008 : (mcd mX5_find : Cond) ∈ XW := (List.mem_filter.mpr ⟨List.mem_of_getElem? (i := 1008) (by decide +kernel), by decide +kernel⟩)
theorem xw_1005 : (.methodLink RL 121 yX5_find : Cond) ∈ XW := (List.mem_filter.mpr ⟨List.mem_of_getElem? (i := 1005) (by decide +kernel), by decide +kernel⟩)
theorem xw_1006 : (.instanceMethod yX5_find : Cond) ∈ XW := (List.mem_filter.mpr ⟨List.mem_of_getElem? (i := 1006) (by decide +kernel), by decide +kernel⟩)
theorem xw_1007 : (.selects RX5 yX5_find yX5_find : Cond) ∈ XW := (List.mem_filter.mpr ⟨List.mem_of_getElem? (i := 1007) (by decide +kernel), by decide +kernel⟩)
theorem xw_670 : (mcd mX4_value : Cond) ∈ XW := (List.mem_filter.mpr ⟨List.mem_of_getElem? (i := 670) (by decide +kernel), by decide +kernel⟩)
theorem xw_667 : (.methodLink RL 122 yX4_value : Cond) ∈ XW := (List.mem_filter.mpr ⟨List.mem_of_getElem? (i := 667) (by decide +kernel), by decide +kernel⟩)
theorem xw_668 : (.instanceMethod yX4_value : Cond) ∈ XW := (List.mem_filter.mpr ⟨List.mem_of_getElem? (i := 668) (by decide +kernel), by decide +kernel⟩)
theorem xw_669 : (.selects RX4 yX4_value yX4_value : Cond) ∈ XW := (List.mem_filter.mpr ⟨List.mem_of_getElem? (i := 669) (by decide +kernel), by decide +kernel⟩)
theorem xw_1017 : (mcd mX5_value : Cond) ∈ XW := (List.mem_filter.mpr ⟨List.mem_of_getElem? (i := 1017) (by decide +kernel), by decide +kernel⟩)
theorem xw_1014 : (.methodLink RL 125 yX5_value : Cond) ∈ XW := (List.mem_filter.mpr ⟨List.mem_of_getElem? (i := 1014) (by decide +kernel), by decide +kernel⟩)
theorem xw_1015 : (.instanceMethod yX5_value : Cond) ∈ XW := (List.mem_filter.mpr ⟨List.mem_of_getElem? (i := 1015) (by decide +kernel), by decide +kernel⟩)
theorem xw_1016 : (.selects RX5 yX5_value yX5_value : Cond) ∈ XW := (List.mem_filter.mpr ⟨List.mem_of_getElem? (i := 1016) (by decide +kernel), by decide +kernel⟩)
theorem xw_675 : (mcd mX4_named : Cond) ∈ XW := (List.mem_filter.mpr ⟨List.mem_of_getElem? (i := 675) (by decide +kernel), by decide +kernel⟩)
theorem xw_672 : (.methodLink RL 126 yX4_named : Cond) ∈ XW := (List.mem_filter.mpr ⟨List.mem_of_getElem? (i := 672) (by decide +kernel), by decide +kernel⟩)
theorem xw_673 : (.instanceMethod yX4_named : Cond) ∈ XW := (List.mem_filter.mpr ⟨List.mem_of_getElem? (i := 673) (by decide +kernel), by decide +kernel⟩)
theorem xw_674 : (.selects RX4 yX4_named yX4_named : Cond) ∈ XW := (List.mem_filter.mpr ⟨List.mem_of_getElem? (i := 674) (by decide +kernel), by decide +kernel⟩)
theorem xw_1021 : (mcd mX5_named : Cond) ∈ XW := (List.mem_filter.mpr ⟨List.mem_of_getElem? (i := 1021) (by decide +kernel), by decide +kernel⟩)
theorem xw_1018 : (.methodLink RL 129 yX5_named : Cond) ∈ XW := (List.mem_filter.mpr ⟨List.mem_of_getElem? (i := 1018) (by decide +kernel), by decide +kernel⟩)
theorem xw_1019 : (.instanceMethod yX5_named : Cond) ∈ XW := (List.mem_filter.mpr ⟨List.mem_of_getElem? (i := 1019) (by decide +kernel), by decide +kernel⟩)
theorem xw_1020 : (.selects RX5 yX5_named yX5_named : Cond) ∈ XW := (List.mem_filter.mpr ⟨List.mem_of_getElem? (i := 1020) (by decide +kernel), by decide +kernel⟩)
theorem xw_680 : (mcd mX4_drop : Cond) ∈ XW := (List.mem_filter.mpr ⟨List.mem_of_getElem? (i := 680) (by decide +kernel), by decide +kernel⟩)
theorem xw_677 : (.methodLink RL 130 yX4_drop : Cond) ∈ XW := (List.mem_filter.mpr ⟨List.mem_of_getElem? (i := 677) (by decide +kernel), by decide +kernel⟩)
theorem xw_678 : (.instanceMethod yX4_drop : Cond) ∈ XW := (List.mem_filter.mpr ⟨List.mem_of_getElem? (i := 678) (by decide +kernel), by decide +kernel⟩)
theorem xw_679 : (.selects RX4 yX4_drop yX4_drop : Cond) ∈ XW := (List.mem_filter.mpr ⟨List.mem_of_getElem? (i := 679) (by decide +kernel), by decide +kernel⟩)
theorem xw_1026 : (mcd mX5_drop : Cond) ∈ XW := (List.mem_filter.mpr ⟨List.mem_of_getElem? (i := 1026) (by decide +kernel), by decide +kernel⟩)
theorem xw_1023 : (.methodLink RL 133 yX5_drop : Cond) ∈ XW := (List.mem_filter.mpr ⟨List.mem_of_getElem? (i := 1023) (by decide +kernel), by decide +kernel⟩)
theorem xw_1024 : (.instanceMethod yX5_drop : Cond) ∈ XW := (List.mem_filter.mpr ⟨List.mem_of_getElem? (i := 1024) (by decide +kernel), by decide +kernel⟩)
theorem xw_1025 : (.selects RX5 yX5_drop yX5_drop : Cond) ∈ XW := (List.mem_filter.mpr ⟨List.mem_of_getElem? (i := 1025) (by decide +kernel), by decide +kernel⟩)
theorem xw_684 : (mcd mX4_told : Cond) ∈ XW := (List.mem_filter.mpr ⟨List.mem_of_getElem? (i := 684) (by decide +kernel), by decide +kernel⟩)
theorem xw_681 : (.methodLink RL 134 yX4_told : Cond) ∈ XW := (List.mem_filter.mpr ⟨List.mem_of_getElem? (i := 681) (by decide +kernel), by decide +kernel⟩)
theorem xw_682 : (.instanceMethod yX4_told : Cond) ∈ XW := (List.mem_filter.mpr ⟨List.mem_of_getElem? (i := 682) (by decide +kernel), by decide +kernel⟩)
theorem xw_683 : (.selects RX4 yX4_told yX4_told : Cond) ∈ XW := (List.mem_filter.mpr ⟨List.mem_of_getElem? (i := 683) (by decide +kernel), by decide +kernel⟩)
theorem xw_1030 : (mcd mX5_told : Cond) ∈ XW := (List.mem_filter.mpr ⟨List.mem_of_getElem? (i := 1030) (by decide +kernel), by decide +kernel⟩)
theorem xw_1027 : (.methodLink RL 137 yX5_told : Cond) ∈ XW := (List.mem_filter.mpr ⟨List.mem_of_getElem? (i := 1027) (by decide +kernel), by decide +kernel⟩)
theorem xw_1028 : (.instanceMethod yX5_told : Cond) ∈ XW := (List.mem_filter.mpr ⟨List.mem_of_getElem? (i := 1028) (by decide +kernel), by decide +kernel⟩)
theorem xw_1029 : (.selects RX5 yX5_told yX5_told : Cond) ∈ XW := (List.mem_filter.mpr ⟨List.mem_of_getElem? (i := 1029) (by decide +kernel), by decide +kernel⟩)
theorem xw_702 : (mcd mX5_anew : Cond) ∈ XW := (List.mem_filter.mpr ⟨List.mem_of_getElem? (i := 702) (by decide +kernel), by decide +kernel⟩)
theorem xw_699 : (.methodLink RX5 41 yX5_anew : Cond) ∈ XW := (List.mem_filter.mpr ⟨List.mem_of_getElem? (i := 699) (by decide +kernel), by decide +kernel⟩)
theorem xw_701 : (.instanceMethod yX5_anew : Cond) ∈ XW := (List.mem_filter.mpr ⟨List.mem_of_getElem? (i := 701) (by decide +kernel), by decide +kernel⟩)
theorem xw_22 : (.selects RX5 yX5_anew yX5_anew : Cond) ∈ XW := (List.mem_filter.mpr ⟨List.mem_of_getElem? (i := 22) (by decide +kernel), by decide +kernel⟩)
theorem xw_706 : (mcd mX5_copyRow : Cond) ∈ XW := (List.mem_filter.mpr ⟨List.mem_of_getElem? (i := 706) (by decide +kernel), by decide +kernel⟩)
theorem xw_703 : (.methodLink RX5 44 yX5_copyRow : Cond) ∈ XW := (List.mem_filter.mpr ⟨List.mem_of_getElem? (i := 703) (by decide +kernel), by decide +kernel⟩)
theorem xw_705 : (.instanceMethod yX5_copyRow : Cond) ∈ XW := (List.mem_filter.mpr ⟨List.mem_of_getElem? (i := 705) (by decide +kernel), by decide +kernel⟩)
theorem xw_23 : (.selects RX5 yX5_copyRow yX5_copyRow : Cond) ∈ XW := (List.mem_filter.mpr ⟨List.mem_of_getElem? (i := 23) (by decide +kernel), by decide +kernel⟩)
theorem xw_775 : (mcd mX5_in : Cond) ∈ XW := (List.mem_filter.mpr ⟨List.mem_of_getElem? (i := 775) (by decide +kernel), by decide +kernel⟩)
theorem xw_773 : (.methodLink RX5 57 yX5_in : Cond) ∈ XW := (List.mem_filter.mpr ⟨List.mem_of_getElem? (i := 773) (by decide +kernel), by decide +kernel⟩)
theorem xw_774 : (.static yX5_in : Cond) ∈ XW := (List.mem_filter.mpr ⟨List.mem_of_getElem? (i := 774) (by decide +kernel), by decide +kernel⟩)
theorem xw_794 : (mcd mX5_isSmall : Cond) ∈ XW := (List.mem_filter.mpr ⟨List.mem_of_getElem? (i := 794) (by decide +kernel), by decide +kernel⟩)
theorem xw_792 : (.methodLink RX5 78 yX5_isSmall : Cond) ∈ XW := (List.mem_filter.mpr ⟨List.mem_of_getElem? (i := 792) (by decide +kernel), by decide +kernel⟩)
theorem xw_793 : (.static yX5_isSmall : Cond) ∈ XW := (List.mem_filter.mpr ⟨List.mem_of_getElem? (i := 793) (by decide +kernel), by decide +kernel⟩)
theorem xw_799 : (mcd mX5_isDigit : Cond) ∈ XW := (List.mem_filter.mpr ⟨List.mem_of_getElem? (i := 799) (by decide +kernel), by decide +kernel⟩)
theorem xw_797 : (.methodLink RX5 82 yX5_isDigit : Cond) ∈ XW := (List.mem_filter.mpr ⟨List.mem_of_getElem? (i := 797) (by decide +kernel), by decide +kernel⟩)
theorem xw_798 : (.static yX5_isDigit : Cond) ∈ XW := (List.mem_filter.mpr ⟨List.mem_of_getElem? (i := 798) (by decide +kernel), by decide +kernel⟩)
theorem xw_813 : (mcd mX5_isWord : Cond) ∈ XW := (List.mem_filter.mpr ⟨List.mem_of_getElem? (i := 813) (by decide +kernel), by decide +kernel⟩)
theorem xw_810 : (.methodLink RX5 85 yX5_isWord : Cond) ∈ XW := (List.mem_filter.mpr ⟨List.mem_of_getElem? (i := 810) (by decide +kernel), by decide +kernel⟩)
theorem xw_812 : (.instanceMethod yX5_isWord : Cond) ∈ XW := (List.mem_filter.mpr ⟨List.mem_of_getElem? (i := 812) (by decide +kernel), by decide +kernel⟩)
theorem xw_28 : (.selects RX5 yX5_isWord yX5_isWord : Cond) ∈ XW := (List.mem_filter.mpr ⟨List.mem_of_getElem? (i := 28) (by decide +kernel), by decide +kernel⟩)
theorem xw_791 : (mcd mX5_nextToken : Cond) ∈ XW := (List.mem_filter.mpr ⟨List.mem_of_getElem? (i := 791) (by decide +kernel), by decide +kernel⟩)
theorem xw_788 : (.methodLink RX5 88 yX5_nextToken : Cond) ∈ XW := (List.mem_filter.mpr ⟨List.mem_of_getElem? (i := 788) (by decide +kernel), by decide +kernel⟩)
theorem xw_790 : (.instanceMethod yX5_nextToken : Cond) ∈ XW := (List.mem_filter.mpr ⟨List.mem_of_getElem? (i := 790) (by decide +kernel), by decide +kernel⟩)
theorem xw_25 : (.selects RX5 yX5_nextToken yX5_nextToken : Cond) ∈ XW := (List.mem_filter.mpr ⟨List.mem_of_getElem? (i := 25) (by decide +kernel), by decide +kernel⟩)
theorem xw_829 : (mcd mX5_has : Cond) ∈ XW := (List.mem_filter.mpr ⟨List.mem_of_getElem? (i := 829) (by decide +kernel), by decide +kernel⟩)
theorem xw_827 : (.methodLink RX5 93 yX5_has : Cond) ∈ XW := (List.mem_filter.mpr ⟨List.mem_of_getElem? (i := 827) (by decide +kernel), by decide +kernel⟩)
theorem xw_828 : (.static yX5_has : Cond) ∈ XW := (List.mem_filter.mpr ⟨List.mem_of_getElem? (i := 828) (by decide +kernel), by decide +kernel⟩)
theorem xw_809 : (mcd mX5_wordOf : Cond) ∈ XW := (List.mem_filter.mpr ⟨List.mem_of_getElem? (i := 809) (by decide +kernel), by decide +kernel⟩)
theorem xw_806 : (.methodLink RX5 97 yX5_wordOf : Cond) ∈ XW := (List.mem_filter.mpr ⟨List.mem_of_getElem? (i := 806) (by decide +kernel), by decide +kernel⟩)
theorem xw_808 : (.instanceMethod yX5_wordOf : Cond) ∈ XW := (List.mem_filter.mpr ⟨List.mem_of_getElem? (i := 808) (by decide +kernel), by decide +kernel⟩)
theorem xw_27 : (.selects RX5 yX5_wordOf yX5_wordOf : Cond) ∈ XW := (List.mem_filter.mpr ⟨List.mem_of_getElem? (i := 27) (by decide +kernel), by decide +kernel⟩)
theorem xw_821 : (mcd mX5_number : Cond) ∈ XW := (List.mem_filter.mpr ⟨List.mem_of_getElem? (i := 821) (by decide +kernel), by decide +kernel⟩)
theorem xw_818 : (.methodLink RX5 101 yX5_number : Cond) ∈ XW := (List.mem_filter.mpr ⟨List.mem_of_getElem? (i := 818) (by decide +kernel), by decide +kernel⟩)
theorem xw_820 : (.instanceMethod yX5_number : Cond) ∈ XW := (List.mem_filter.mpr ⟨List.mem_of_getElem? (i := 820) (by decide +kernel), by decide +kernel⟩)
theorem xw_30 : (.selects RX5 yX5_number yX5_number : Cond) ∈ XW := (List.mem_filter.mpr ⟨List.mem_of_getElem? (i := 30) (by decide +kernel), by decide +kernel⟩)
theorem xw_825 : (mcd mX5_readsVersed : Cond) ∈ XW := (List.mem_filter.mpr ⟨List.mem_of_getElem? (i := 825) (by decide +kernel), by decide +kernel⟩)
theorem xw_822 : (.methodLink RX5 105 yX5_readsVersed : Cond) ∈ XW := (List.mem_filter.mpr ⟨List.mem_of_getElem? (i := 822) (by decide +kernel), by decide +kernel⟩)
theorem xw_824 : (.instanceMethod yX5_readsVersed : Cond) ∈ XW := (List.mem_filter.mpr ⟨List.mem_of_getElem? (i := 824) (by decide +kernel), by decide +kernel⟩)
theorem xw_31 : (.selects RX5 yX5_readsVersed yX5_readsVersed : Cond) ∈ XW := (List.mem_filter.mpr ⟨List.mem_of_getElem? (i := 31) (by decide +kernel), by decide +kernel⟩)
theorem xw_833 : (mcd mX5_readsRule : Cond) ∈ XW := (List.mem_filter.mpr ⟨List.mem_of_getElem? (i := 833) (by decide +kernel), by decide +kernel⟩)
theorem xw_830 : (.methodLink RX5 112 yX5_readsRule : Cond) ∈ XW := (List.mem_filter.mpr ⟨List.mem_of_getElem? (i := 830) (by decide +kernel), by decide +kernel⟩)
theorem xw_832 : (.instanceMethod yX5_readsRule : Cond) ∈ XW := (List.mem_filter.mpr ⟨List.mem_of_getElem? (i := 832) (by decide +kernel), by decide +kernel⟩)
theorem xw_32 : (.selects RX5 yX5_readsRule yX5_readsRule : Cond) ∈ XW := (List.mem_filter.mpr ⟨List.mem_of_getElem? (i := 32) (by decide +kernel), by decide +kernel⟩)
theorem xw_817 : (mcd mX5_readsRest : Cond) ∈ XW := (List.mem_filter.mpr ⟨List.mem_of_getElem? (i := 817) (by decide +kernel), by decide +kernel⟩)
theorem xw_814 : (.methodLink RX5 115 yX5_readsRest : Cond) ∈ XW := (List.mem_filter.mpr ⟨List.mem_of_getElem? (i := 814) (by decide +kernel), by decide +kernel⟩)
theorem xw_816 : (.instanceMethod yX5_readsRest : Cond) ∈ XW := (List.mem_filter.mpr ⟨List.mem_of_getElem? (i := 816) (by decide +kernel), by decide +kernel⟩)
theorem xw_29 : (.selects RX5 yX5_readsRest yX5_readsRest : Cond) ∈ XW := (List.mem_filter.mpr ⟨List.mem_of_getElem? (i := 29) (by decide +kernel), by decide +kernel⟩)
theorem xw_837 : (mcd mX5_does : Cond) ∈ XW := (List.mem_filter.mpr ⟨List.mem_of_getElem? (i := 837) (by decide +kernel), by decide +kernel⟩)
theorem xw_834 : (.methodLink RX5 122 yX5_does : Cond) ∈ XW := (List.mem_filter.mpr ⟨List.mem_of_getElem? (i := 834) (by decide +kernel), by decide +kernel⟩)
theorem xw_836 : (.instanceMethod yX5_does : Cond) ∈ XW := (List.mem_filter.mpr ⟨List.mem_of_getElem? (i := 836) (by decide +kernel), by decide +kernel⟩)
theorem xw_33 : (.selects RX5 yX5_does yX5_does : Cond) ∈ XW := (List.mem_filter.mpr ⟨List.mem_of_getElem? (i := 33) (by decide +kernel), by decide +kernel⟩)
theorem xw_805 : (mcd mX5_readsClause : Cond) ∈ XW := (List.mem_filter.mpr ⟨List.mem_of_getElem? (i := 805) (by decide +kernel), by decide +kernel⟩)
theorem xw_802 : (.methodLink RX5 129 yX5_readsClause : Cond) ∈ XW := (List.mem_filter.mpr ⟨List.mem_of_getElem? (i := 802) (by decide +kernel), by decide +kernel⟩)
theorem xw_804 : (.instanceMethod yX5_readsClause : Cond) ∈ XW := (List.mem_filter.mpr ⟨List.mem_of_getElem? (i := 804) (by decide +kernel), by decide +kernel⟩)
theorem xw_26 : (.selects RX5 yX5_readsClause yX5_readsClause : Cond) ∈ XW := (List.mem_filter.mpr ⟨List.mem_of_getElem? (i := 26) (by decide +kernel), by decide +kernel⟩)
theorem xw_787 : (mcd mX5_reads : Cond) ∈ XW := (List.mem_filter.mpr ⟨List.mem_of_getElem? (i := 787) (by decide +kernel), by decide +kernel⟩)
theorem xw_784 : (.methodLink RX5 132 yX5_reads : Cond) ∈ XW := (List.mem_filter.mpr ⟨List.mem_of_getElem? (i := 784) (by decide +kernel), by decide +kernel⟩)
theorem xw_786 : (.instanceMethod yX5_reads : Cond) ∈ XW := (List.mem_filter.mpr ⟨List.mem_of_getElem? (i := 786) (by decide +kernel), by decide +kernel⟩)
theorem xw_24 : (.selects RX5 yX5_reads yX5_reads : Cond) ∈ XW := (List.mem_filter.mpr ⟨List.mem_of_getElem? (i := 24) (by decide +kernel), by decide +kernel⟩)
theorem xw_849 : (mcd mX5_isJudge : Cond) ∈ XW := (List.mem_filter.mpr ⟨List.mem_of_getElem? (i := 849) (by decide +kernel), by decide +kernel⟩)
theorem xw_846 : (.methodLink RX5 139 yX5_isJudge : Cond) ∈ XW := (List.mem_filter.mpr ⟨List.mem_of_getElem? (i := 846) (by decide +kernel), by decide +kernel⟩)
theorem xw_848 : (.instanceMethod yX5_isJudge : Cond) ∈ XW := (List.mem_filter.mpr ⟨List.mem_of_getElem? (i := 848) (by decide +kernel), by decide +kernel⟩)
theorem xw_34 : (.selects RX5 yX5_isJudge yX5_isJudge : Cond) ∈ XW := (List.mem_filter.mpr ⟨List.mem_of_getElem? (i := 34) (by decide +kernel), by decide +kernel⟩)
theorem xw_857 : (mcd mX5_isCase : Cond) ∈ XW := (List.mem_filter.mpr ⟨List.mem_of_getElem? (i := 857) (by decide +kernel), by decide +kernel⟩)
theorem xw_854 : (.methodLink RX5 142 yX5_isCase : Cond) ∈ XW := (List.mem_filter.mpr ⟨List.mem_of_getElem? (i := 854) (by decide +kernel), by decide +kernel⟩)
theorem xw_856 : (.instanceMethod yX5_isCase : Cond) ∈ XW := (List.mem_filter.mpr ⟨List.mem_of_getElem? (i := 856) (by decide +kernel), by decide +kernel⟩)
theorem xw_35 : (.selects RX5 yX5_isCase yX5_isCase : Cond) ∈ XW := (List.mem_filter.mpr ⟨List.mem_of_getElem? (i := 35) (by decide +kernel), by decide +kernel⟩)
theorem xw_909 : (mcd mX5_turned : Cond) ∈ XW := (List.mem_filter.mpr ⟨List.mem_of_getElem? (i := 909) (by decide +kernel), by decide +kernel⟩)
theorem xw_907 : (.methodLink RX5 148 yX5_turned : Cond) ∈ XW := (List.mem_filter.mpr ⟨List.mem_of_getElem? (i := 907) (by decide +kernel), by decide +kernel⟩)
theorem xw_908 : (.static yX5_turned : Cond) ∈ XW := (List.mem_filter.mpr ⟨List.mem_of_getElem? (i := 908) (by decide +kernel), by decide +kernel⟩)
theorem xw_884 : (mcd mX5_isBarred : Cond) ∈ XW := (List.mem_filter.mpr ⟨List.mem_of_getElem? (i := 884) (by decide +kernel), by decide +kernel⟩)
theorem xw_881 : (.methodLink RX5 152 yX5_isBarred : Cond) ∈ XW := (List.mem_filter.mpr ⟨List.mem_of_getElem? (i := 881) (by decide +kernel), by decide +kernel⟩)
theorem xw_883 : (.instanceMethod yX5_isBarred : Cond) ∈ XW := (List.mem_filter.mpr ⟨List.mem_of_getElem? (i := 883) (by decide +kernel), by decide +kernel⟩)
theorem xw_38 : (.selects RX5 yX5_isBarred yX5_isBarred : Cond) ∈ XW := (List.mem_filter.mpr ⟨List.mem_of_getElem? (i := 38) (by decide +kernel), by decide +kernel⟩)
theorem xw_900 : (mcd mX5_weightOf : Cond) ∈ XW := (List.mem_filter.mpr ⟨List.mem_of_getElem? (i := 900) (by decide +kernel), by decide +kernel⟩)
theorem xw_897 : (.methodLink RX5 155 yX5_weightOf : Cond) ∈ XW := (List.mem_filter.mpr ⟨List.mem_of_getElem? (i := 897) (by decide +kernel), by decide +kernel⟩)
theorem xw_899 : (.instanceMethod yX5_weightOf : Cond) ∈ XW := (List.mem_filter.mpr ⟨List.mem_of_getElem? (i := 899) (by decide +kernel), by decide +kernel⟩)
theorem xw_42 : (.selects RX5 yX5_weightOf yX5_weightOf : Cond) ∈ XW := (List.mem_filter.mpr ⟨List.mem_of_getElem? (i := 42) (by decide +kernel), by decide +kernel⟩)
theorem xw_904 : (mcd mX5_drawFor : Cond) ∈ XW := (List.mem_filter.mpr ⟨List.mem_of_getElem? (i := 904) (by decide +kernel), by decide +kernel⟩)
theorem xw_901 : (.methodLink RX5 159 yX5_drawFor : Cond) ∈ XW := (List.mem_filter.mpr ⟨List.mem_of_getElem? (i := 901) (by decide +kernel), by decide +kernel⟩)
theorem xw_903 : (.instanceMethod yX5_drawFor : Cond) ∈ XW := (List.mem_filter.mpr ⟨List.mem_of_getElem? (i := 903) (by decide +kernel), by decide +kernel⟩)
theorem xw_43 : (.selects RX5 yX5_drawFor yX5_drawFor : Cond) ∈ XW := (List.mem_filter.mpr ⟨List.mem_of_getElem? (i := 43) (by decide +kernel), by decide +kernel⟩)
theorem xw_896 : (mcd mX5_drawOnce : Cond) ∈ XW := (List.mem_filter.mpr ⟨List.mem_of_getElem? (i := 896) (by decide +kernel), by decide +kernel⟩)
theorem xw_893 : (.methodLink RX5 162 yX5_drawOnce : Cond) ∈ XW := (List.mem_filter.mpr ⟨List.mem_of_getElem? (i := 893) (by decide +kernel), by decide +kernel⟩)
theorem xw_895 : (.instanceMethod yX5_drawOnce : Cond) ∈ XW := (List.mem_filter.mpr ⟨List.mem_of_getElem? (i := 895) (by decide +kernel), by decide +kernel⟩)
theorem xw_41 : (.selects RX5 yX5_drawOnce yX5_drawOnce : Cond) ∈ XW := (List.mem_filter.mpr ⟨List.mem_of_getElem? (i := 41) (by decide +kernel), by decide +kernel⟩)
theorem xw_913 : (mcd mX5_owe : Cond) ∈ XW := (List.mem_filter.mpr ⟨List.mem_of_getElem? (i := 913) (by decide +kernel), by decide +kernel⟩)
theorem xw_910 : (.methodLink RX5 165 yX5_owe : Cond) ∈ XW := (List.mem_filter.mpr ⟨List.mem_of_getElem? (i := 910) (by decide +kernel), by decide +kernel⟩)
theorem xw_912 : (.instanceMethod yX5_owe : Cond) ∈ XW := (List.mem_filter.mpr ⟨List.mem_of_getElem? (i := 912) (by decide +kernel), by decide +kernel⟩)
theorem xw_44 : (.selects RX5 yX5_owe yX5_owe : Cond) ∈ XW := (List.mem_filter.mpr ⟨List.mem_of_getElem? (i := 44) (by decide +kernel), by decide +kernel⟩)
theorem xw_865 : (mcd mX5_sealAt : Cond) ∈ XW := (List.mem_filter.mpr ⟨List.mem_of_getElem? (i := 865) (by decide +kernel), by decide +kernel⟩)
theorem xw_862 : (.methodLink RX5 168 yX5_sealAt : Cond) ∈ XW := (List.mem_filter.mpr ⟨List.mem_of_getElem? (i := 862) (by decide +kernel), by decide +kernel⟩)
theorem xw_864 : (.instanceMethod yX5_sealAt : Cond) ∈ XW := (List.mem_filter.mpr ⟨List.mem_of_getElem? (i := 864) (by decide +kernel), by decide +kernel⟩)
theorem xw_36 : (.selects RX5 yX5_sealAt yX5_sealAt : Cond) ∈ XW := (List.mem_filter.mpr ⟨List.mem_of_getElem? (i := 36) (by decide +kernel), by decide +kernel⟩)
theorem xw_872 : (mcd mX5_isSubject : Cond) ∈ XW := (List.mem_filter.mpr ⟨List.mem_of_getElem? (i := 872) (by decide +kernel), by decide +kernel⟩)
theorem xw_870 : (.methodLink RX5 173 yX5_isSubject : Cond) ∈ XW := (List.mem_filter.mpr ⟨List.mem_of_getElem? (i := 870) (by decide +kernel), by decide +kernel⟩)
theorem xw_871 : (.static yX5_isSubject : Cond) ∈ XW := (List.mem_filter.mpr ⟨List.mem_of_getElem? (i := 871) (by decide +kernel), by decide +kernel⟩)
theorem xw_875 : (mcd mX5_isParty : Cond) ∈ XW := (List.mem_filter.mpr ⟨List.mem_of_getElem? (i := 875) (by decide +kernel), by decide +kernel⟩)
theorem xw_873 : (.methodLink RX5 176 yX5_isParty : Cond) ∈ XW := (List.mem_filter.mpr ⟨List.mem_of_getElem? (i := 873) (by decide +kernel), by decide +kernel⟩)
theorem xw_874 : (.static yX5_isParty : Cond) ∈ XW := (List.mem_filter.mpr ⟨List.mem_of_getElem? (i := 874) (by decide +kernel), by decide +kernel⟩)
theorem xw_880 : (mcd mX5_isAnyone : Cond) ∈ XW := (List.mem_filter.mpr ⟨List.mem_of_getElem? (i := 880) (by decide +kernel), by decide +kernel⟩)
theorem xw_877 : (.methodLink RX5 179 yX5_isAnyone : Cond) ∈ XW := (List.mem_filter.mpr ⟨List.mem_of_getElem? (i := 877) (by decide +kernel), by decide +kernel⟩)
theorem xw_879 : (.instanceMethod yX5_isAnyone : Cond) ∈ XW := (List.mem_filter.mpr ⟨List.mem_of_getElem? (i := 879) (by decide +kernel), by decide +kernel⟩)
theorem xw_37 : (.selects RX5 yX5_isAnyone yX5_isAnyone : Cond) ∈ XW := (List.mem_filter.mpr ⟨List.mem_of_getElem? (i := 37) (by decide +kernel), by decide +kernel⟩)
theorem xw_888 : (mcd mX5_keepPast : Cond) ∈ XW := (List.mem_filter.mpr ⟨List.mem_of_getElem? (i := 888) (by decide +kernel), by decide +kernel⟩)
theorem xw_885 : (.methodLink RX5 182 yX5_keepPast : Cond) ∈ XW := (List.mem_filter.mpr ⟨List.mem_of_getElem? (i := 885) (by decide +kernel), by decide +kernel⟩)
theorem xw_887 : (.instanceMethod yX5_keepPast : Cond) ∈ XW := (List.mem_filter.mpr ⟨List.mem_of_getElem? (i := 887) (by decide +kernel), by decide +kernel⟩)
theorem xw_39 : (.selects RX5 yX5_keepPast yX5_keepPast : Cond) ∈ XW := (List.mem_filter.mpr ⟨List.mem_of_getElem? (i := 39) (by decide +kernel), by decide +kernel⟩)
theorem xw_892 : (mcd mX5_assigned : Cond) ∈ XW := (List.mem_filter.mpr ⟨List.mem_of_getElem? (i := 892) (by decide +kernel), by decide +kernel⟩)
theorem xw_889 : (.methodLink RX5 185 yX5_assigned : Cond) ∈ XW := (List.mem_filter.mpr ⟨List.mem_of_getElem? (i := 889) (by decide +kernel), by decide +kernel⟩)
theorem xw_891 : (.instanceMethod yX5_assigned : Cond) ∈ XW := (List.mem_filter.mpr ⟨List.mem_of_getElem? (i := 891) (by decide +kernel), by decide +kernel⟩)
theorem xw_40 : (.selects RX5 yX5_assigned yX5_assigned : Cond) ∈ XW := (List.mem_filter.mpr ⟨List.mem_of_getElem? (i := 40) (by decide +kernel), by decide +kernel⟩)
theorem xw_945 : (mcd mX5_put : Cond) ∈ XW := (List.mem_filter.mpr ⟨List.mem_of_getElem? (i := 945) (by decide +kernel), by decide +kernel⟩)
theorem xw_942 : (.methodLink RX5 191 yX5_put : Cond) ∈ XW := (List.mem_filter.mpr ⟨List.mem_of_getElem? (i := 942) (by decide +kernel), by decide +kernel⟩)
theorem xw_944 : (.instanceMethod yX5_put : Cond) ∈ XW := (List.mem_filter.mpr ⟨List.mem_of_getElem? (i := 944) (by decide +kernel), by decide +kernel⟩)
theorem xw_46 : (.selects RX5 yX5_put yX5_put : Cond) ∈ XW := (List.mem_filter.mpr ⟨List.mem_of_getElem? (i := 46) (by decide +kernel), by decide +kernel⟩)
theorem xw_941 : (mcd mX5_layWriting : Cond) ∈ XW := (List.mem_filter.mpr ⟨List.mem_of_getElem? (i := 941) (by decide +kernel), by decide +kernel⟩)
theorem xw_938 : (.methodLink RX5 194 yX5_layWriting : Cond) ∈ XW := (List.mem_filter.mpr ⟨List.mem_of_getElem? (i := 938) (by decide +kernel), by decide +kernel⟩)
theorem xw_940 : (.instanceMethod yX5_layWriting : Cond) ∈ XW := (List.mem_filter.mpr ⟨List.mem_of_getElem? (i := 940) (by decide +kernel), by decide +kernel⟩)
theorem xw_45 : (.selects RX5 yX5_layWriting yX5_layWriting : Cond) ∈ XW := (List.mem_filter.mpr ⟨List.mem_of_getElem? (i := 45) (by decide +kernel), by decide +kernel⟩)
theorem xw_971 : (mcd mX5_canCount : Cond) ∈ XW := (List.mem_filter.mpr ⟨List.mem_of_getElem? (i := 971) (by decide +kernel), by decide +kernel⟩)
theorem xw_968 : (.methodLink RX5 200 yX5_canCount : Cond) ∈ XW := (List.mem_filter.mpr ⟨List.mem_of_getElem? (i := 968) (by decide +kernel), by decide +kernel⟩)
theorem xw_970 : (.instanceMethod yX5_canCount : Cond) ∈ XW := (List.mem_filter.mpr ⟨List.mem_of_getElem? (i := 970) (by decide +kernel), by decide +kernel⟩)
theorem xw_47 : (.selects RX5 yX5_canCount yX5_canCount : Cond) ∈ XW := (List.mem_filter.mpr ⟨List.mem_of_getElem? (i := 47) (by decide +kernel), by decide +kernel⟩)
theorem xw_975 : (mcd mX5_sameBy : Cond) ∈ XW := (List.mem_filter.mpr ⟨List.mem_of_getElem? (i := 975) (by decide +kernel), by decide +kernel⟩)
theorem xw_972 : (.methodLink RX5 203 yX5_sameBy : Cond) ∈ XW := (List.mem_filter.mpr ⟨List.mem_of_getElem? (i := 972) (by decide +kernel), by decide +kernel⟩)
theorem xw_974 : (.instanceMethod yX5_sameBy : Cond) ∈ XW := (List.mem_filter.mpr ⟨List.mem_of_getElem? (i := 974) (by decide +kernel), by decide +kernel⟩)
theorem xw_48 : (.selects RX5 yX5_sameBy yX5_sameBy : Cond) ∈ XW := (List.mem_filter.mpr ⟨List.mem_of_getElem? (i := 48) (by decide +kernel), by decide +kernel⟩)
theorem xw_987 : (mcd mX5_isSlip : Cond) ∈ XW := (List.mem_filter.mpr ⟨List.mem_of_getElem? (i := 987) (by decide +kernel), by decide +kernel⟩)
theorem xw_985 : (.methodLink RX5 210 yX5_isSlip : Cond) ∈ XW := (List.mem_filter.mpr ⟨List.mem_of_getElem? (i := 985) (by decide +kernel), by decide +kernel⟩)
theorem xw_986 : (.static yX5_isSlip : Cond) ∈ XW := (List.mem_filter.mpr ⟨List.mem_of_getElem? (i := 986) (by decide +kernel), by decide +kernel⟩)
theorem xw_1013 : (mcd mX5_standsAt : Cond) ∈ XW := (List.mem_filter.mpr ⟨List.mem_of_getElem? (i := 1013) (by decide +kernel), by decide +kernel⟩)
theorem xw_1010 : (.methodLink RX5 215 yX5_standsAt : Cond) ∈ XW := (List.mem_filter.mpr ⟨List.mem_of_getElem? (i := 1010) (by decide +kernel), by decide +kernel⟩)
theorem xw_1012 : (.instanceMethod yX5_standsAt : Cond) ∈ XW := (List.mem_filter.mpr ⟨List.mem_of_getElem? (i := 1012) (by decide +kernel), by decide +kernel⟩)
theorem xw_49 : (.selects RX5 yX5_standsAt yX5_standsAt : Cond) ∈ XW := (List.mem_filter.mpr ⟨List.mem_of_getElem? (i := 49) (by decide +kernel), by decide +kernel⟩)
theorem xw_1034 : (mcd mX5_allLetters : Cond) ∈ XW := (List.mem_filter.mpr ⟨List.mem_of_getElem? (i := 1034) (by decide +kernel), by decide +kernel⟩)
theorem xw_1031 : (.methodLink RX5 220 yX5_allLetters : Cond) ∈ XW := (List.mem_filter.mpr ⟨List.mem_of_getElem? (i := 1031) (by decide +kernel), by decide +kernel⟩)
theorem xw_1033 : (.instanceMethod yX5_allLetters : Cond) ∈ XW := (List.mem_filter.mpr ⟨List.mem_of_getElem? (i := 1033) (by decide +kernel), by decide +kernel⟩)
theorem xw_50 : (.selects RX5 yX5_allLetters yX5_allLetters : Cond) ∈ XW := (List.mem_filter.mpr ⟨List.mem_of_getElem? (i := 50) (by decide +kernel), by decide +kernel⟩)
theorem xw_312 : (mcd mJ0_coder_7d493 : Cond) ∈ XW := (List.mem_filter.mpr ⟨List.mem_of_getElem? (i := 312) (by decide +kernel), by decide +kernel⟩)
theorem xw_309 : (.methodLink RJ0 335 yJ0_coder_7d493 : Cond) ∈ XW := (List.mem_filter.mpr ⟨List.mem_of_getElem? (i := 309) (by decide +kernel), by decide +kernel⟩)
theorem xw_310 : (.instanceMethod yJ0_coder_7d493 : Cond) ∈ XW := (List.mem_filter.mpr ⟨List.mem_of_getElem? (i := 310) (by decide +kernel), by decide +kernel⟩)
theorem xw_311 : (.selects RJ0 yJ0_coder_7d493 yJ0_coder_7d493 : Cond) ∈ XW := (List.mem_filter.mpr ⟨List.mem_of_getElem? (i := 311) (by decide +kernel), by decide +kernel⟩)
theorem xw_322 : (mcd mJ0_isLatin1_aae02 : Cond) ∈ XW := (List.mem_filter.mpr ⟨List.mem_of_getElem? (i := 322) (by decide +kernel), by decide +kernel⟩)
theorem xw_319 : (.methodLink RJ0 492 yJ0_isLatin1_aae02 : Cond) ∈ XW := (List.mem_filter.mpr ⟨List.mem_of_getElem? (i := 319) (by decide +kernel), by decide +kernel⟩)
theorem xw_320 : (.instanceMethod yJ0_isLatin1_aae02 : Cond) ∈ XW := (List.mem_filter.mpr ⟨List.mem_of_getElem? (i := 320) (by decide +kernel), by decide +kernel⟩)
theorem xw_321 : (.selects RJ0 yJ0_isLatin1_aae02 yJ0_isLatin1_aae02 : Cond) ∈ XW := (List.mem_filter.mpr ⟨List.mem_of_getElem? (i := 321) (by decide +kernel), by decide +kernel⟩)
theorem xw_325 : (mcd mJ1_charAt_3b067 : Cond) ∈ XW := (List.mem_filter.mpr ⟨List.mem_of_getElem? (i := 325) (by decide +kernel), by decide +kernel⟩)
theorem xw_61 : (.initialized RJ1 : Cond) ∈ XW := (List.mem_filter.mpr ⟨List.mem_of_getElem? (i := 61) (by decide +kernel), by decide +kernel⟩)
theorem xw_323 : (.methodLink RJ0 495 yJ1_charAt_3b067 : Cond) ∈ XW := (List.mem_filter.mpr ⟨List.mem_of_getElem? (i := 323) (by decide +kernel), by decide +kernel⟩)
theorem xw_324 : (.static yJ1_charAt_3b067 : Cond) ∈ XW := (List.mem_filter.mpr ⟨List.mem_of_getElem? (i := 324) (by decide +kernel), by decide +kernel⟩)
theorem xw_333 : (mcd mJ3_checkIndex_8e157 : Cond) ∈ XW := (List.mem_filter.mpr ⟨List.mem_of_getElem? (i := 333) (by decide +kernel), by decide +kernel⟩)
theorem xw_62 : (.initialized RJ3 : Cond) ∈ XW := (List.mem_filter.mpr ⟨List.mem_of_getElem? (i := 62) (by decide +kernel), by decide +kernel⟩)
theorem xw_331 : (.methodLink RJ0 1059 yJ3_checkIndex_8e157 : Cond) ∈ XW := (List.mem_filter.mpr ⟨List.mem_of_getElem? (i := 331) (by decide +kernel), by decide +kernel⟩)
theorem xw_332 : (.static yJ3_checkIndex_8e157 : Cond) ∈ XW := (List.mem_filter.mpr ⟨List.mem_of_getElem? (i := 332) (by decide +kernel), by decide +kernel⟩)
theorem xw_328 : (mcd mJ0_checkIndex_df160 : Cond) ∈ XW := (List.mem_filter.mpr ⟨List.mem_of_getElem? (i := 328) (by decide +kernel), by decide +kernel⟩)
theorem xw_326 : (.methodLink RJ1 9 yJ0_checkIndex_df160 : Cond) ∈ XW := (List.mem_filter.mpr ⟨List.mem_of_getElem? (i := 326) (by decide +kernel), by decide +kernel⟩)
theorem xw_327 : (.static yJ0_checkIndex_df160 : Cond) ∈ XW := (List.mem_filter.mpr ⟨List.mem_of_getElem? (i := 327) (by decide +kernel), by decide +kernel⟩)
theorem inT0 : ∀ w ∈ u_ws RX0 TX0 3, w ∈ lw_tbl := by decide +kernel
theorem inX0 : ∀ w ∈ u_ws RX0 TX0 3, w ∈ XW := fun w h => List.mem_filter.mpr ⟨inT0 w h, List.all_eq_true.mp (by decide +kernel : (u_ws RX0 TX0 3).all goodWord = true) w h⟩
theorem inT1 : ∀ w ∈ u_ws RX1 TX1 2, w ∈ lw_tbl := by decide +kernel
theorem inX1 : ∀ w ∈ u_ws RX1 TX1 2, w ∈ XW := fun w h => List.mem_filter.mpr ⟨inT1 w h, List.all_eq_true.mp (by decide +kernel : (u_ws RX1 TX1 2).all goodWord = true) w h⟩
theorem inT2 : ∀ w ∈ u_ws RX2 TX2 15, w ∈ lw_tbl := by decide +kernel
theorem inX2 : ∀ w ∈ u_ws RX2 TX2 15, w ∈ XW := fun w h => List.mem_filter.mpr ⟨inT2 w h, List.all_eq_true.mp (by decide +kernel : (u_ws RX2 TX2 15).all goodWord = true) w h⟩
theorem inT3 : ∀ w ∈ u_ws RX3 TX3 5, w ∈ lw_tbl := by decide +kernel
theorem inX3 : ∀ w ∈ u_ws RX3 TX3 5, w ∈ XW := fun w h => List.mem_filter.mpr ⟨inT3 w h, List.all_eq_true.mp (by decide +kernel : (u_ws RX3 TX3 5).all goodWord = true) w h⟩
theorem inT4 : ∀ w ∈ u_ws RX4 TX4 12, w ∈ lw_tbl := by decide +kernel
theorem inX4 : ∀ w ∈ u_ws RX4 TX4 12, w ∈ XW := fun w h => List.mem_filter.mpr ⟨inT4 w h, List.all_eq_true.mp (by decide +kernel : (u_ws RX4 TX4 12).all goodWord = true) w h⟩
theorem inT5 : ∀ w ∈ u_ws RX5 TX5 20, w ∈ lw_tbl := by decide +kernel
theorem inX5 : ∀ w ∈ u_ws RX5 TX5 20, w ∈ XW := fun w h => List.mem_filter.mpr ⟨inT5 w h, List.all_eq_true.mp (by decide +kernel : (u_ws RX5 TX5 20).all goodWord = true) w h⟩
theorem gf_X4_14 : gfOK RX4 14 4 0 := ⟨_, rfl, inX4, by decide, xw_208⟩
theorem gf_X4_18 : gfOK RX4 18 4 1 := ⟨_, rfl, inX4, by decide, xw_209⟩
theorem gf_X4_21 : gfOK RX4 21 4 2 := ⟨_, rfl, inX4, by decide, xw_210⟩
theorem gf_X4_25 : gfOK RX4 25 4 3 := ⟨_, rfl, inX4, by decide, xw_211⟩
theorem gf_X4_34 : gfOK RX4 34 4 4 := ⟨_, rfl, inX4, by decide, xw_212⟩
theorem gf_X4_41 : gfOK RX4 41 4 5 := ⟨_, rfl, inX4, by decide, xw_213⟩
theorem gf_X4_45 : gfOK RX4 45 4 6 := ⟨_, rfl, inX4, by decide, xw_214⟩
theorem gf_X4_48 : gfOK RX4 48 4 7 := ⟨_, rfl, inX4, by decide, xw_215⟩
theorem gf_X4_51 : gfOK RX4 51 4 8 := ⟨_, rfl, inX4, by decide, xw_216⟩
theorem gf_X4_57 : gfOK RX4 57 4 9 := ⟨_, rfl, inX4, by decide, xw_217⟩
theorem gf_X4_61 : gfOK RX4 61 4 10 := ⟨_, rfl, inX4, by decide, xw_218⟩
theorem gf_X4_65 : gfOK RX4 65 4 11 := ⟨_, rfl, inX4, by decide, xw_219⟩
theorem gf_X4_72 : gfOK RX4 72 1 1 := ⟨_, rfl, inX1, by decide, xw_86⟩
theorem pf_X4_72 : pfOK RX4 72 1 1 .int := ⟨_, rfl, inX1, by decide, xw_86, rfl, by decide +kernel, nmX1, tyX1, tyX1_ok⟩
theorem gf_X4_97 : gfOK RX4 97 3 4 := ⟨_, rfl, inX3, by decide, xw_106⟩
theorem pf_X4_97 : pfOK RX4 97 3 4 .int := ⟨_, rfl, inX3, by decide, xw_106, rfl, by decide +kernel, nmX3, tyX3, tyX3_ok⟩
theorem gf_X4_103 : gfOK RX4 103 2 0 := ⟨_, rfl, inX2, by decide, xw_126⟩
theorem gf_X4_107 : gfOK RX4 107 2 1 := ⟨_, rfl, inX2, by decide, xw_128⟩
theorem gf_X4_110 : gfOK RX4 110 2 2 := ⟨_, rfl, inX2, by decide, xw_130⟩
theorem gf_X4_116 : gfOK RX4 116 2 3 := ⟨_, rfl, inX2, by decide, xw_133⟩
theorem gf_X4_126 : gfOK RX4 126 2 4 := ⟨_, rfl, inX2, by decide, xw_135⟩
theorem gf_X4_129 : gfOK RX4 129 2 5 := ⟨_, rfl, inX2, by decide, xw_137⟩
theorem gf_X4_132 : gfOK RX4 132 2 6 := ⟨_, rfl, inX2, by decide, xw_139⟩
theorem gf_X4_138 : gfOK RX4 138 2 14 := ⟨_, rfl, inX2, by decide, xw_156⟩
theorem pf_X4_138 : pfOK RX4 138 2 14 .int := ⟨_, rfl, inX2, by decide, xw_156, rfl, by decide +kernel, nmX2, tyX2, tyX2_ok⟩
theorem gf_X4_164 : gfOK RX4 164 2 9 := ⟨_, rfl, inX2, by decide, xw_146⟩
theorem pf_X4_164 : pfOK RX4 164 2 9 .int := ⟨_, rfl, inX2, by decide, xw_146, rfl, by decide +kernel, nmX2, tyX2, tyX2_ok⟩
theorem gf_X4_167 : gfOK RX4 167 0 2 := ⟨_, rfl, inX0, by decide, xw_200⟩
theorem pf_X4_167 : pfOK RX4 167 0 2 .int := ⟨_, rfl, inX0, by decide, xw_200, rfl, by decide +kernel, nmX0, tyX0, tyX0_ok⟩
theorem gf_X4_176 : gfOK RX4 176 1 0 := ⟨_, rfl, inX1, by decide, xw_84⟩
theorem gf_X4_205 : gfOK RX4 205 2 13 := ⟨_, rfl, inX2, by decide, xw_154⟩
theorem pf_X4_205 : pfOK RX4 205 2 13 .int := ⟨_, rfl, inX2, by decide, xw_154, rfl, by decide +kernel, nmX2, tyX2, tyX2_ok⟩
theorem gf_X4_231 : gfOK RX4 231 2 8 := ⟨_, rfl, inX2, by decide, xw_143⟩
theorem pf_X4_231 : pfOK RX4 231 2 8 .int := ⟨_, rfl, inX2, by decide, xw_143, rfl, by decide +kernel, nmX2, tyX2, tyX2_ok⟩
theorem gf_X4_234 : gfOK RX4 234 2 10 := ⟨_, rfl, inX2, by decide, xw_149⟩
theorem pf_X4_234 : pfOK RX4 234 2 10 .int := ⟨_, rfl, inX2, by decide, xw_149, rfl, by decide +kernel, nmX2, tyX2, tyX2_ok⟩
theorem gf_X4_243 : gfOK RX4 243 2 11 := ⟨_, rfl, inX2, by decide, xw_151⟩
theorem pf_X4_243 : pfOK RX4 243 2 11 .int := ⟨_, rfl, inX2, by decide, xw_151, rfl, by decide +kernel, nmX2, tyX2, tyX2_ok⟩
theorem gf_X0_11 : gfOK RX0 11 0 0 := ⟨_, rfl, inX0, by decide, xw_197⟩
theorem gf_X0_18 : gfOK RX0 18 0 2 := ⟨_, rfl, inX0, by decide, xw_199⟩
theorem pf_X0_18 : pfOK RX0 18 0 2 .int := ⟨_, rfl, inX0, by decide, xw_199, rfl, by decide +kernel, nmX0, tyX0, tyX0_ok⟩
theorem gf_X0_22 : gfOK RX0 22 0 1 := ⟨_, rfl, inX0, by decide, xw_198⟩
theorem pf_X0_22 : pfOK RX0 22 0 1 .int := ⟨_, rfl, inX0, by decide, xw_198, rfl, by decide +kernel, nmX0, tyX0, tyX0_ok⟩
theorem gf_X1_15 : gfOK RX1 15 1 0 := ⟨_, rfl, inX1, by decide, xw_82⟩
theorem gf_X1_21 : gfOK RX1 21 1 1 := ⟨_, rfl, inX1, by decide, xw_85⟩
theorem pf_X1_21 : pfOK RX1 21 1 1 .int := ⟨_, rfl, inX1, by decide, xw_85, rfl, by decide +kernel, nmX1, tyX1, tyX1_ok⟩
theorem gf_X2_9 : gfOK RX2 9 2 0 := ⟨_, rfl, inX2, by decide, xw_125⟩
theorem gf_X2_15 : gfOK RX2 15 2 1 := ⟨_, rfl, inX2, by decide, xw_127⟩
theorem gf_X2_18 : gfOK RX2 18 2 2 := ⟨_, rfl, inX2, by decide, xw_129⟩
theorem gf_X2_21 : gfOK RX2 21 2 3 := ⟨_, rfl, inX2, by decide, xw_132⟩
theorem gf_X2_24 : gfOK RX2 24 2 4 := ⟨_, rfl, inX2, by decide, xw_134⟩
theorem gf_X2_27 : gfOK RX2 27 2 5 := ⟨_, rfl, inX2, by decide, xw_136⟩
theorem gf_X2_30 : gfOK RX2 30 2 6 := ⟨_, rfl, inX2, by decide, xw_138⟩
theorem gf_X2_33 : gfOK RX2 33 2 7 := ⟨_, rfl, inX2, by decide, xw_140⟩
theorem gf_X2_36 : gfOK RX2 36 2 10 := ⟨_, rfl, inX2, by decide, xw_147⟩
theorem pf_X2_36 : pfOK RX2 36 2 10 .int := ⟨_, rfl, inX2, by decide, xw_147, rfl, by decide +kernel, nmX2, tyX2, tyX2_ok⟩
theorem gf_X2_40 : gfOK RX2 40 2 11 := ⟨_, rfl, inX2, by decide, xw_150⟩
theorem pf_X2_40 : pfOK RX2 40 2 11 .int := ⟨_, rfl, inX2, by decide, xw_150, rfl, by decide +kernel, nmX2, tyX2, tyX2_ok⟩
theorem gf_X2_43 : gfOK RX2 43 2 12 := ⟨_, rfl, inX2, by decide, xw_152⟩
theorem pf_X2_43 : pfOK RX2 43 2 12 .int := ⟨_, rfl, inX2, by decide, xw_152, rfl, by decide +kernel, nmX2, tyX2, tyX2_ok⟩
theorem gf_X2_52 : gfOK RX2 52 2 8 := ⟨_, rfl, inX2, by decide, xw_141⟩
theorem pf_X2_52 : pfOK RX2 52 2 8 .int := ⟨_, rfl, inX2, by decide, xw_141, rfl, by decide +kernel, nmX2, tyX2, tyX2_ok⟩
theorem gf_X2_55 : gfOK RX2 55 2 9 := ⟨_, rfl, inX2, by decide, xw_144⟩
theorem pf_X2_55 : pfOK RX2 55 2 9 .int := ⟨_, rfl, inX2, by decide, xw_144, rfl, by decide +kernel, nmX2, tyX2, tyX2_ok⟩
theorem gf_X2_58 : gfOK RX2 58 2 13 := ⟨_, rfl, inX2, by decide, xw_153⟩
theorem pf_X2_58 : pfOK RX2 58 2 13 .int := ⟨_, rfl, inX2, by decide, xw_153, rfl, by decide +kernel, nmX2, tyX2, tyX2_ok⟩
theorem gf_X2_61 : gfOK RX2 61 2 14 := ⟨_, rfl, inX2, by decide, xw_155⟩
theorem pf_X2_61 : pfOK RX2 61 2 14 .int := ⟨_, rfl, inX2, by decide, xw_155, rfl, by decide +kernel, nmX2, tyX2, tyX2_ok⟩
theorem gf_X3_9 : gfOK RX3 9 3 0 := ⟨_, rfl, inX3, by decide, xw_101⟩
theorem gf_X3_15 : gfOK RX3 15 3 3 := ⟨_, rfl, inX3, by decide, xw_104⟩
theorem pf_X3_15 : pfOK RX3 15 3 3 .int := ⟨_, rfl, inX3, by decide, xw_104, rfl, by decide +kernel, nmX3, tyX3, tyX3_ok⟩
theorem gf_X3_19 : gfOK RX3 19 3 4 := ⟨_, rfl, inX3, by decide, xw_105⟩
theorem pf_X3_19 : pfOK RX3 19 3 4 .int := ⟨_, rfl, inX3, by decide, xw_105, rfl, by decide +kernel, nmX3, tyX3, tyX3_ok⟩
theorem gf_X3_29 : gfOK RX3 29 3 2 := ⟨_, rfl, inX3, by decide, xw_103⟩
theorem pf_X3_29 : pfOK RX3 29 3 2 .int := ⟨_, rfl, inX3, by decide, xw_103, rfl, by decide +kernel, nmX3, tyX3, tyX3_ok⟩
theorem gf_X3_32 : gfOK RX3 32 3 1 := ⟨_, rfl, inX3, by decide, xw_102⟩
theorem pf_X3_32 : pfOK RX3 32 3 1 .int := ⟨_, rfl, inX3, by decide, xw_102, rfl, by decide +kernel, nmX3, tyX3, tyX3_ok⟩
theorem gf_X3_39 : gfOK RX3 39 1 1 := ⟨_, rfl, inX1, by decide, xw_87⟩
theorem pf_X3_39 : pfOK RX3 39 1 1 .int := ⟨_, rfl, inX1, by decide, xw_87, rfl, by decide +kernel, nmX1, tyX1, tyX1_ok⟩
theorem gf_X3_44 : gfOK RX3 44 1 0 := ⟨_, rfl, inX1, by decide, xw_83⟩
theorem gf_X3_93 : gfOK RX3 93 2 8 := ⟨_, rfl, inX2, by decide, xw_142⟩
theorem pf_X3_93 : pfOK RX3 93 2 8 .int := ⟨_, rfl, inX2, by decide, xw_142, rfl, by decide +kernel, nmX2, tyX2, tyX2_ok⟩
theorem gf_X3_111 : gfOK RX3 111 2 2 := ⟨_, rfl, inX2, by decide, xw_131⟩
theorem gf_X3_114 : gfOK RX3 114 2 9 := ⟨_, rfl, inX2, by decide, xw_145⟩
theorem pf_X3_114 : pfOK RX3 114 2 9 .int := ⟨_, rfl, inX2, by decide, xw_145, rfl, by decide +kernel, nmX2, tyX2, tyX2_ok⟩
theorem gf_X3_119 : gfOK RX3 119 2 10 := ⟨_, rfl, inX2, by decide, xw_148⟩
theorem pf_X3_119 : pfOK RX3 119 2 10 .int := ⟨_, rfl, inX2, by decide, xw_148, rfl, by decide +kernel, nmX2, tyX2, tyX2_ok⟩
theorem gf_X5_7 : gfOK RX5 7 5 0 := ⟨_, rfl, inX5, by decide, xw_707⟩
theorem gf_X5_13 : gfOK RX5 13 5 3 := ⟨_, rfl, inX5, by decide, xw_710⟩
theorem gf_X5_16 : gfOK RX5 16 5 4 := ⟨_, rfl, inX5, by decide, xw_711⟩
theorem gf_X5_19 : gfOK RX5 19 5 6 := ⟨_, rfl, inX5, by decide, xw_713⟩
theorem gf_X5_23 : gfOK RX5 23 5 7 := ⟨_, rfl, inX5, by decide, xw_714⟩
theorem gf_X5_26 : gfOK RX5 26 5 9 := ⟨_, rfl, inX5, by decide, xw_716⟩
theorem gf_X5_29 : gfOK RX5 29 5 10 := ⟨_, rfl, inX5, by decide, xw_717⟩
theorem gf_X5_32 : gfOK RX5 32 5 16 := ⟨_, rfl, inX5, by decide, xw_723⟩
theorem gf_X5_35 : gfOK RX5 35 5 17 := ⟨_, rfl, inX5, by decide, xw_724⟩
theorem gf_X5_38 : gfOK RX5 38 5 18 := ⟨_, rfl, inX5, by decide, xw_725⟩
theorem gf_X5_48 : gfOK RX5 48 5 1 := ⟨_, rfl, inX5, by decide, xw_708⟩
theorem pf_X5_48 : pfOK RX5 48 5 1 .int := ⟨_, rfl, inX5, by decide, xw_708, rfl, by decide +kernel, nmX5, tyX5, tyX5_ok⟩
theorem gf_X5_52 : gfOK RX5 52 5 2 := ⟨_, rfl, inX5, by decide, xw_709⟩
theorem pf_X5_52 : pfOK RX5 52 5 2 .int := ⟨_, rfl, inX5, by decide, xw_709, rfl, by decide +kernel, nmX5, tyX5, tyX5_ok⟩
theorem gf_X5_61 : gfOK RX5 61 5 8 := ⟨_, rfl, inX5, by decide, xw_715⟩
theorem pf_X5_61 : pfOK RX5 61 5 8 .int := ⟨_, rfl, inX5, by decide, xw_715, rfl, by decide +kernel, nmX5, tyX5, tyX5_ok⟩
theorem gf_X5_72 : gfOK RX5 72 5 12 := ⟨_, rfl, inX5, by decide, xw_719⟩
theorem pf_X5_72 : pfOK RX5 72 5 12 .int := ⟨_, rfl, inX5, by decide, xw_719, rfl, by decide +kernel, nmX5, tyX5, tyX5_ok⟩
theorem gf_X5_75 : gfOK RX5 75 5 11 := ⟨_, rfl, inX5, by decide, xw_718⟩
theorem pf_X5_75 : pfOK RX5 75 5 11 .int := ⟨_, rfl, inX5, by decide, xw_718, rfl, by decide +kernel, nmX5, tyX5, tyX5_ok⟩
theorem gf_X5_109 : gfOK RX5 109 5 13 := ⟨_, rfl, inX5, by decide, xw_720⟩
theorem pf_X5_109 : pfOK RX5 109 5 13 .int := ⟨_, rfl, inX5, by decide, xw_720, rfl, by decide +kernel, nmX5, tyX5, tyX5_ok⟩
theorem gf_X5_118 : gfOK RX5 118 5 15 := ⟨_, rfl, inX5, by decide, xw_722⟩
theorem pf_X5_118 : pfOK RX5 118 5 15 .boolean := ⟨_, rfl, inX5, by decide, xw_722, rfl, by decide +kernel, nmX5, tyX5, tyX5_ok⟩
theorem gf_X5_126 : gfOK RX5 126 5 14 := ⟨_, rfl, inX5, by decide, xw_721⟩
theorem pf_X5_126 : pfOK RX5 126 5 14 .int := ⟨_, rfl, inX5, by decide, xw_721, rfl, by decide +kernel, nmX5, tyX5, tyX5_ok⟩
theorem gf_X5_136 : gfOK RX5 136 5 5 := ⟨_, rfl, inX5, by decide, xw_712⟩
theorem pf_X5_136 : pfOK RX5 136 5 5 .int := ⟨_, rfl, inX5, by decide, xw_712, rfl, by decide +kernel, nmX5, tyX5, tyX5_ok⟩
theorem gf_X5_188 : gfOK RX5 188 5 19 := ⟨_, rfl, inX5, by decide, xw_726⟩
theorem pf_X5_188 : pfOK RX5 188 5 19 .int := ⟨_, rfl, inX5, by decide, xw_726, rfl, by decide +kernel, nmX5, tyX5, tyX5_ok⟩
theorem ck_X1_hasRoomFor : ckOK yX1_hasRoomFor 1 := ⟨by decide +kernel, by decide +kernel, by decide +kernel⟩
theorem cv_X4_68 : cvOK RX4 mX1_hasRoomFor 68 1 := ⟨xw_249, xw_250, xw_251, xw_53, xw_252, ck_X1_hasRoomFor⟩
theorem ck_X1_putAt : ckOK yX1_putAt 2 := ⟨by decide +kernel, by decide +kernel, by decide +kernel⟩
theorem cv_X4_76 : cvOK RX4 mX1_putAt 76 2 := ⟨xw_253, xw_254, xw_255, xw_53, xw_256, ck_X1_putAt⟩
theorem ck_X4_readText : ckOK yX4_readText 0 := ⟨by decide +kernel, by decide +kernel, by decide +kernel⟩
theorem cv_X4_80 : cvOK RX4 mX4_readText 80 0 := ⟨xw_269, xw_271, xw_0, xw_52, xw_272, ck_X4_readText⟩
theorem ck_X2_copyFrom : ckOK yX2_copyFrom 1 := ⟨by decide +kernel, by decide +kernel, by decide +kernel⟩
theorem cv_X4_84 : cvOK RX4 mX2_copyFrom 84 1 := ⟨xw_273, xw_274, xw_275, xw_56, xw_276, ck_X2_copyFrom⟩
theorem ck_X0_forget : ckOK yX0_forget 0 := ⟨by decide +kernel, by decide +kernel, by decide +kernel⟩
theorem cv_X4_88 : cvOK RX4 mX0_forget 88 0 := ⟨xw_424, xw_425, xw_426, xw_57, xw_427, ck_X0_forget⟩
theorem ck_X4_forgetKept : ckOK yX4_forgetKept 0 := ⟨by decide +kernel, by decide +kernel, by decide +kernel⟩
theorem cv_X4_91 : cvOK RX4 mX4_forgetKept 91 0 := ⟨xw_428, xw_430, xw_11, xw_52, xw_431, ck_X4_forgetKept⟩
theorem ck_X4_dropAllSlips : ckOK yX4_dropAllSlips 0 := ⟨by decide +kernel, by decide +kernel, by decide +kernel⟩
theorem cv_X4_94 : cvOK RX4 mX4_dropAllSlips 94 0 := ⟨xw_432, xw_434, xw_12, xw_52, xw_435, ck_X4_dropAllSlips⟩
theorem ck_X2_hasJudge : ckOK yX2_hasJudge 1 := ⟨by decide +kernel, by decide +kernel, by decide +kernel⟩
theorem cv_X4_100 : cvOK RX4 mX2_hasJudge 100 1 := ⟨xw_440, xw_441, xw_442, xw_56, xw_443, ck_X2_hasJudge⟩
theorem ck_X2_isAway : ckOK yX2_isAway 1 := ⟨by decide +kernel, by decide +kernel, by decide +kernel⟩
theorem cv_X4_113 : cvOK RX4 mX2_isAway 113 1 := ⟨xw_444, xw_445, xw_446, xw_56, xw_447, ck_X2_isAway⟩
theorem ck_X2_casesOf : ckOK yX2_casesOf 1 := ⟨by decide +kernel, by decide +kernel, by decide +kernel⟩
theorem cv_X4_119 : cvOK RX4 mX2_casesOf 119 1 := ⟨xw_448, xw_449, xw_450, xw_56, xw_451, ck_X2_casesOf⟩
theorem ck_X2_hasCase : ckOK yX2_hasCase 1 := ⟨by decide +kernel, by decide +kernel, by decide +kernel⟩
theorem cv_X4_123 : cvOK RX4 mX2_hasCase 123 1 := ⟨xw_456, xw_457, xw_458, xw_56, xw_459, ck_X2_hasCase⟩
theorem ck_X4_isSeed : ckOK yX4_isSeed 1 := ⟨by decide +kernel, by decide +kernel, by decide +kernel⟩
theorem cs_X4_135 : csOK RX4 mX4_isSeed 135 1 := ⟨xw_464, xw_465, xw_52, xw_466, ck_X4_isSeed⟩
theorem ck_X2_startAnew : ckOK yX2_startAnew 1 := ⟨by decide +kernel, by decide +kernel, by decide +kernel⟩
theorem cv_X4_141 : cvOK RX4 mX2_startAnew 141 1 := ⟨xw_467, xw_358, xw_359, xw_56, xw_360, ck_X2_startAnew⟩
theorem ck_X4_isSubject : ckOK yX4_isSubject 1 := ⟨by decide +kernel, by decide +kernel, by decide +kernel⟩
theorem cs_X4_144 : csOK RX4 mX4_isSubject 144 1 := ⟨xw_472, xw_382, xw_52, xw_383, ck_X4_isSubject⟩
theorem ck_X4_isParty : ckOK yX4_isParty 1 := ⟨by decide +kernel, by decide +kernel, by decide +kernel⟩
theorem cs_X4_147 : csOK RX4 mX4_isParty 147 1 := ⟨xw_473, xw_474, xw_52, xw_475, ck_X4_isParty⟩
theorem ck_X2_hasSomeoneFor : ckOK yX2_hasSomeoneFor 2 := ⟨by decide +kernel, by decide +kernel, by decide +kernel⟩
theorem cv_X4_150 : cvOK RX4 mX2_hasSomeoneFor 150 2 := ⟨xw_476, xw_477, xw_478, xw_56, xw_479, ck_X2_hasSomeoneFor⟩
theorem ck_X0_remember : ckOK yX0_remember 1 := ⟨by decide +kernel, by decide +kernel, by decide +kernel⟩
theorem cv_X4_154 : cvOK RX4 mX0_remember 154 1 := ⟨xw_489, xw_490, xw_491, xw_57, xw_492, ck_X0_remember⟩
theorem ck_X2_addCase : ckOK yX2_addCase 2 := ⟨by decide +kernel, by decide +kernel, by decide +kernel⟩
theorem cv_X4_157 : cvOK RX4 mX2_addCase 157 2 := ⟨xw_494, xw_495, xw_496, xw_56, xw_497, ck_X2_addCase⟩
theorem ck_X2_drawCaseAgain : ckOK yX2_drawCaseAgain 1 := ⟨by decide +kernel, by decide +kernel, by decide +kernel⟩
theorem cv_X4_161 : cvOK RX4 mX2_drawCaseAgain 161 1 := ⟨xw_535, xw_536, xw_537, xw_56, xw_538, ck_X2_drawCaseAgain⟩
theorem ck_X0_takeBack : ckOK yX0_takeBack 1 := ⟨by decide +kernel, by decide +kernel, by decide +kernel⟩
theorem cv_X4_170 : cvOK RX4 mX0_takeBack 170 1 := ⟨xw_547, xw_548, xw_549, xw_57, xw_550, ck_X0_takeBack⟩
theorem ck_X4_writeDocket : ckOK yX4_writeDocket 0 := ⟨by decide +kernel, by decide +kernel, by decide +kernel⟩
theorem cv_X4_173 : cvOK RX4 mX4_writeDocket 173 0 := ⟨xw_563, xw_565, xw_17, xw_52, xw_566, ck_X4_writeDocket⟩
theorem ck_X4_turned : ckOK yX4_turned 1 := ⟨by decide +kernel, by decide +kernel, by decide +kernel⟩
theorem cs_X4_180 : csOK RX4 mX4_turned 180 1 := ⟨xw_577, xw_518, xw_52, xw_519, ck_X4_turned⟩
theorem ck_X2_weightOf : ckOK yX2_weightOf 2 := ⟨by decide +kernel, by decide +kernel, by decide +kernel⟩
theorem cv_X4_183 : cvOK RX4 mX2_weightOf 183 2 := ⟨xw_582, xw_507, xw_508, xw_56, xw_509, ck_X2_weightOf⟩
theorem ck_X2_isFreeFor : ckOK yX2_isFreeFor 2 := ⟨by decide +kernel, by decide +kernel, by decide +kernel⟩
theorem cv_X4_186 : cvOK RX4 mX2_isFreeFor 186 2 := ⟨xw_587, xw_481, xw_482, xw_56, xw_483, ck_X2_isFreeFor⟩
theorem ck_X2_weightsFreeFor : ckOK yX2_weightsFreeFor 2 := ⟨by decide +kernel, by decide +kernel, by decide +kernel⟩
theorem cv_X4_189 : cvOK RX4 mX2_weightsFreeFor 189 2 := ⟨xw_588, xw_589, xw_590, xw_56, xw_591, ck_X2_weightsFreeFor⟩
theorem ck_X4_commonDivisor : ckOK yX4_commonDivisor 2 := ⟨by decide +kernel, by decide +kernel, by decide +kernel⟩
theorem cs_X4_192 : csOK RX4 mX4_commonDivisor 192 2 := ⟨xw_592, xw_593, xw_52, xw_594, ck_X4_commonDivisor⟩
theorem ck_X2_drawJudge : ckOK yX2_drawJudge 2 := ⟨by decide +kernel, by decide +kernel, by decide +kernel⟩
theorem cv_X4_195 : cvOK RX4 mX2_drawJudge 195 2 := ⟨xw_601, xw_499, xw_500, xw_56, xw_501, ck_X2_drawJudge⟩
theorem ck_X2_everyCaseHasSomeone : ckOK yX2_everyCaseHasSomeone 0 := ⟨by decide +kernel, by decide +kernel, by decide +kernel⟩
theorem cv_X4_198 : cvOK RX4 mX2_everyCaseHasSomeone 198 0 := ⟨xw_606, xw_607, xw_608, xw_56, xw_609, ck_X2_everyCaseHasSomeone⟩
theorem ck_X4_recountBy : ckOK yX4_recountBy 2 := ⟨by decide +kernel, by decide +kernel, by decide +kernel⟩
theorem cv_X4_202 : cvOK RX4 mX4_recountBy 202 2 := ⟨xw_611, xw_613, xw_18, xw_52, xw_614, ck_X4_recountBy⟩
theorem ck_X4_isSlip : ckOK yX4_isSlip 1 := ⟨by decide +kernel, by decide +kernel, by decide +kernel⟩
theorem cs_X4_208 : csOK RX4 mX4_isSlip 208 1 := ⟨xw_623, xw_624, xw_52, xw_625, ck_X4_isSlip⟩
theorem ck_X4_isSlipLetter : ckOK yX4_isSlipLetter 1 := ⟨by decide +kernel, by decide +kernel, by decide +kernel⟩
theorem cs_X4_211 : csOK RX4 mX4_isSlipLetter 211 1 := ⟨xw_630, xw_631, xw_52, xw_632, ck_X4_isSlipLetter⟩
theorem ck_X1_removeSpan : ckOK yX1_removeSpan 2 := ⟨by decide +kernel, by decide +kernel, by decide +kernel⟩
theorem cv_X4_214 : cvOK RX4 mX1_removeSpan 214 2 := ⟨xw_639, xw_640, xw_641, xw_53, xw_642, ck_X1_removeSpan⟩
theorem ck_X1_appendAll : ckOK yX1_appendAll 1 := ⟨by decide +kernel, by decide +kernel, by decide +kernel⟩
theorem cv_X4_217 : cvOK RX4 mX1_appendAll 217 1 := ⟨xw_647, xw_648, xw_649, xw_53, xw_650, ck_X1_appendAll⟩
theorem ck_X1_placeOf : ckOK yX1_placeOf 1 := ⟨by decide +kernel, by decide +kernel, by decide +kernel⟩
theorem cv_X4_220 : cvOK RX4 mX1_placeOf 220 1 := ⟨xw_659, xw_660, xw_661, xw_53, xw_662, ck_X1_placeOf⟩
theorem ck_X1_numberAt : ckOK yX1_numberAt 3 := ⟨by decide +kernel, by decide +kernel, by decide +kernel⟩
theorem cv_X4_224 : cvOK RX4 mX1_numberAt 224 3 := ⟨xw_671, xw_374, xw_375, xw_53, xw_376, ck_X1_numberAt⟩
theorem ck_X1_ruleAt : ckOK yX1_ruleAt 2 := ⟨by decide +kernel, by decide +kernel, by decide +kernel⟩
theorem cv_X4_228 : cvOK RX4 mX1_ruleAt 228 2 := ⟨xw_676, xw_404, xw_405, xw_53, xw_406, ck_X1_ruleAt⟩
theorem ck_X4_lettersOfWriting : ckOK yX4_lettersOfWriting 0 := ⟨by decide +kernel, by decide +kernel, by decide +kernel⟩
theorem cv_X4_237 : cvOK RX4 mX4_lettersOfWriting 237 0 := ⟨xw_685, xw_687, xw_20, xw_52, xw_688, ck_X4_lettersOfWriting⟩
theorem ck_X4_lettersOfSlips : ckOK yX4_lettersOfSlips 0 := ⟨by decide +kernel, by decide +kernel, by decide +kernel⟩
theorem cv_X4_240 : cvOK RX4 mX4_lettersOfSlips 240 0 := ⟨xw_689, xw_691, xw_21, xw_52, xw_692, ck_X4_lettersOfSlips⟩
theorem ck_X4_isSmallLetter : ckOK yX4_isSmallLetter 1 := ⟨by decide +kernel, by decide +kernel, by decide +kernel⟩
theorem cs_X4_246 : csOK RX4 mX4_isSmallLetter 246 1 := ⟨xw_633, xw_287, xw_52, xw_288, ck_X4_isSmallLetter⟩
theorem ck_X4_isDigit : ckOK yX4_isDigit 1 := ⟨by decide +kernel, by decide +kernel, by decide +kernel⟩
theorem cs_X4_249 : csOK RX4 mX4_isDigit 249 1 := ⟨xw_634, xw_290, xw_52, xw_291, ck_X4_isDigit⟩
theorem ck_J9_max_7cf53 : ckOK yJ9_max_7cf53 2 := ⟨by decide +kernel, by decide +kernel, by decide +kernel⟩
theorem cs_X4_259 : csOK RX4 mJ9_max_7cf53 259 2 := ⟨xw_595, xw_80, xw_54, xw_81, ck_J9_max_7cf53⟩
theorem ck_X3_readInto : ckOK yX3_readInto 1 := ⟨by decide +kernel, by decide +kernel, by decide +kernel⟩
theorem cv_X4_265 : cvOK RX4 mX3_readInto 265 1 := ⟨xw_278, xw_279, xw_280, xw_55, xw_281, ck_X3_readInto⟩
theorem ck_X1_append : ckOK yX1_append 1 := ⟨by decide +kernel, by decide +kernel, by decide +kernel⟩
theorem cv_X4_269 : cvOK RX4 mX1_append 269 1 := ⟨xw_567, xw_568, xw_569, xw_53, xw_570, ck_X1_append⟩
theorem cv_X0_25 : cvOK RX0 mX2_copyFrom 25 1 := ⟨xw_493, xw_274, xw_275, xw_56, xw_276, ck_X2_copyFrom⟩
theorem cs_X1_9 : csOK RX1 mJ9_max_7cf53 9 2 := ⟨xw_79, xw_80, xw_54, xw_81, ck_J9_max_7cf53⟩
theorem cv_X1_25 : cvOK RX1 mX1_putAt 25 2 := ⟨xw_571, xw_254, xw_255, xw_53, xw_256, ck_X1_putAt⟩
theorem cv_X1_29 : cvOK RX1 mX1_hasRoomFor 29 1 := ⟨xw_257, xw_250, xw_251, xw_53, xw_252, ck_X1_hasRoomFor⟩
theorem ck_X1_standsAt : ckOK yX1_standsAt 2 := ⟨by decide +kernel, by decide +kernel, by decide +kernel⟩
theorem cv_X1_39 : cvOK RX1 mX1_standsAt 39 2 := ⟨xw_663, xw_665, xw_19, xw_53, xw_666, ck_X1_standsAt⟩
theorem ck_J0_length_8abf5 : ckOK yJ0_length_8abf5 0 := ⟨by decide +kernel, by decide +kernel, by decide +kernel⟩
theorem cv_X1_43 : cvOK RX1 mJ0_length_8abf5 43 0 := ⟨xw_305, xw_306, xw_307, xw_60, xw_308, ck_J0_length_8abf5⟩
theorem ck_J0_charAt_5068e : ckOK yJ0_charAt_5068e 1 := ⟨by decide +kernel, by decide +kernel, by decide +kernel⟩
theorem cv_X1_48 : cvOK RX1 mJ0_charAt_5068e 48 1 := ⟨xw_315, xw_316, xw_317, xw_60, xw_318, ck_J0_charAt_5068e⟩
theorem ck_X4_ruleName : ckOK yX4_ruleName 1 := ⟨by decide +kernel, by decide +kernel, by decide +kernel⟩
theorem cn_X1_52 : cnOK RX1 mX4_ruleName 52 1 := ⟨by decide +kernel, xw_408, xw_52, xw_409, ck_X4_ruleName⟩
theorem ck_X1_isWordAt : ckOK yX1_isWordAt 3 := ⟨by decide +kernel, by decide +kernel, by decide +kernel⟩
theorem cv_X1_56 : cvOK RX1 mX1_isWordAt 56 3 := ⟨xw_414, xw_302, xw_303, xw_53, xw_304, ck_X1_isWordAt⟩
theorem cv_X2_64 : cvOK RX2 mX2_startAnew 64 1 := ⟨xw_357, xw_358, xw_359, xw_56, xw_360, ck_X2_startAnew⟩
theorem ck_J7_fill_53178 : ckOK yJ7_fill_53178 2 := ⟨by decide +kernel, by decide +kernel, by decide +kernel⟩
theorem cs_X2_68 : csOK RX2 mJ7_fill_53178 68 2 := ⟨xw_361, xw_362, xw_64, xw_363, ck_J7_fill_53178⟩
theorem cv_X2_74 : cvOK RX2 mX2_isAway 74 1 := ⟨xw_484, xw_445, xw_446, xw_56, xw_447, ck_X2_isAway⟩
theorem ck_X2_isBarred : ckOK yX2_isBarred 2 := ⟨by decide +kernel, by decide +kernel, by decide +kernel⟩
theorem cv_X2_78 : cvOK RX2 mX2_isBarred 78 2 := ⟨xw_485, xw_486, xw_487, xw_56, xw_488, ck_X2_isBarred⟩
theorem cv_X2_82 : cvOK RX2 mX2_isFreeFor 82 2 := ⟨xw_480, xw_481, xw_482, xw_56, xw_483, ck_X2_isFreeFor⟩
theorem cv_X2_85 : cvOK RX2 mX2_hasSomeoneFor 85 2 := ⟨xw_610, xw_477, xw_478, xw_56, xw_479, ck_X2_hasSomeoneFor⟩
theorem cs_X2_88 : csOK RX2 mJ9_max_7cf53 88 2 := ⟨xw_510, xw_80, xw_54, xw_81, ck_J9_max_7cf53⟩
theorem cv_X2_94 : cvOK RX2 mX2_weightOf 94 2 := ⟨xw_506, xw_507, xw_508, xw_56, xw_509, ck_X2_weightOf⟩
theorem ck_X2_weighAll : ckOK yX2_weighAll 1 := ⟨by decide +kernel, by decide +kernel, by decide +kernel⟩
theorem cv_X2_97 : cvOK RX2 mX2_weighAll 97 1 := ⟨xw_502, xw_504, xw_13, xw_56, xw_505, ck_X2_weighAll⟩
theorem ck_X2_drawBelow : ckOK yX2_drawBelow 1 := ⟨by decide +kernel, by decide +kernel, by decide +kernel⟩
theorem cv_X2_102 : cvOK RX2 mX2_drawBelow 102 1 := ⟨xw_512, xw_514, xw_14, xw_56, xw_515, ck_X2_drawBelow⟩
theorem ck_X2_judgeReaching : ckOK yX2_judgeReaching 1 := ⟨by decide +kernel, by decide +kernel, by decide +kernel⟩
theorem cv_X2_105 : cvOK RX2 mX2_judgeReaching 105 1 := ⟨xw_520, xw_522, xw_15, xw_56, xw_523, ck_X2_judgeReaching⟩
theorem cn_X2_110 : cnOK RX2 mX4_turned 110 1 := ⟨by decide +kernel, xw_518, xw_52, xw_519, ck_X4_turned⟩
theorem ck_J9_min_7cf53 : ckOK yJ9_min_7cf53 2 := ⟨by decide +kernel, by decide +kernel, by decide +kernel⟩
theorem cs_X2_113 : csOK RX2 mJ9_min_7cf53 113 2 := ⟨xw_528, xw_529, xw_54, xw_530, ck_J9_min_7cf53⟩
theorem cv_X2_116 : cvOK RX2 mX2_drawJudge 116 2 := ⟨xw_498, xw_499, xw_500, xw_56, xw_501, ck_X2_drawJudge⟩
theorem ck_X2_settleDebts : ckOK yX2_settleDebts 1 := ⟨by decide +kernel, by decide +kernel, by decide +kernel⟩
theorem cv_X2_119 : cvOK RX2 mX2_settleDebts 119 1 := ⟨xw_524, xw_526, xw_16, xw_56, xw_527, ck_X2_settleDebts⟩
theorem ck_X3_step : ckOK yX3_step 0 := ⟨by decide +kernel, by decide +kernel, by decide +kernel⟩
theorem cv_X3_22 : cvOK RX3 mX3_step 22 0 := ⟨xw_282, xw_284, xw_1, xw_55, xw_285, ck_X3_step⟩
theorem ck_X3_readClause : ckOK yX3_readClause 1 := ⟨by decide +kernel, by decide +kernel, by decide +kernel⟩
theorem cv_X3_25 : cvOK RX3 mX3_readClause 25 1 := ⟨xw_292, xw_294, xw_2, xw_55, xw_295, ck_X3_readClause⟩
theorem ck_X3_isOther : ckOK yX3_isOther 1 := ⟨by decide +kernel, by decide +kernel, by decide +kernel⟩
theorem cv_X3_35 : cvOK RX3 mX3_isOther 35 1 := ⟨xw_415, xw_417, xw_10, xw_55, xw_418, ck_X3_isOther⟩
theorem cn_X3_48 : cnOK RX3 mX4_isSmallLetter 48 1 := ⟨by decide +kernel, xw_287, xw_52, xw_288, ck_X4_isSmallLetter⟩
theorem cn_X3_51 : cnOK RX3 mX4_isDigit 51 1 := ⟨by decide +kernel, xw_290, xw_52, xw_291, ck_X4_isDigit⟩
theorem cv_X3_54 : cvOK RX3 mX1_isWordAt 54 3 := ⟨xw_301, xw_302, xw_303, xw_53, xw_304, ck_X1_isWordAt⟩
theorem cv_X3_58 : cvOK RX3 mX1_numberAt 58 3 := ⟨xw_373, xw_374, xw_375, xw_53, xw_376, ck_X1_numberAt⟩
theorem ck_X3_isWord : ckOK yX3_isWord 1 := ⟨by decide +kernel, by decide +kernel, by decide +kernel⟩
theorem cv_X3_64 : cvOK RX3 mX3_isWord 64 1 := ⟨xw_297, xw_299, xw_3, xw_55, xw_300, ck_X3_isWord⟩
theorem ck_X2_clearAll : ckOK yX2_clearAll 0 := ⟨by decide +kernel, by decide +kernel, by decide +kernel⟩
theorem cv_X3_68 : cvOK RX3 mX2_clearAll 68 0 := ⟨xw_353, xw_354, xw_355, xw_56, xw_356, ck_X2_clearAll⟩
theorem ck_X3_readJudge : ckOK yX3_readJudge 1 := ⟨by decide +kernel, by decide +kernel, by decide +kernel⟩
theorem cv_X3_75 : cvOK RX3 mX3_readJudge 75 1 := ⟨xw_365, xw_367, xw_4, xw_55, xw_368, ck_X3_readJudge⟩
theorem ck_X3_readBar : ckOK yX3_readBar 1 := ⟨by decide +kernel, by decide +kernel, by decide +kernel⟩
theorem cv_X3_80 : cvOK RX3 mX3_readBar 80 1 := ⟨xw_389, xw_391, xw_7, xw_55, xw_392, ck_X3_readBar⟩
theorem ck_X3_readAway : ckOK yX3_readAway 1 := ⟨by decide +kernel, by decide +kernel, by decide +kernel⟩
theorem cv_X3_85 : cvOK RX3 mX3_readAway 85 1 := ⟨xw_394, xw_396, xw_8, xw_55, xw_397, ck_X3_readAway⟩
theorem ck_X3_readRule : ckOK yX3_readRule 1 := ⟨by decide +kernel, by decide +kernel, by decide +kernel⟩
theorem cv_X3_90 : cvOK RX3 mX3_readRule 90 1 := ⟨xw_399, xw_401, xw_9, xw_55, xw_402, ck_X3_readRule⟩
theorem ck_X3_numberWithin : ckOK yX3_numberWithin 2 := ⟨by decide +kernel, by decide +kernel, by decide +kernel⟩
theorem cv_X3_96 : cvOK RX3 mX3_numberWithin 96 2 := ⟨xw_369, xw_371, xw_5, xw_55, xw_372, ck_X3_numberWithin⟩
theorem ck_X3_versedTold : ckOK yX3_versedTold 0 := ⟨by decide +kernel, by decide +kernel, by decide +kernel⟩
theorem cv_X3_100 : cvOK RX3 mX3_versedTold 100 0 := ⟨xw_377, xw_379, xw_6, xw_55, xw_380, ck_X3_versedTold⟩
theorem ck_X2_addJudge : ckOK yX2_addJudge 2 := ⟨by decide +kernel, by decide +kernel, by decide +kernel⟩
theorem cv_X3_104 : cvOK RX3 mX2_addJudge 104 2 := ⟨xw_384, xw_385, xw_386, xw_56, xw_387, ck_X2_addJudge⟩
theorem cn_X3_108 : cnOK RX3 mX4_isSubject 108 1 := ⟨by decide +kernel, xw_382, xw_52, xw_383, ck_X4_isSubject⟩
theorem cv_X3_116 : cvOK RX3 mX1_ruleAt 116 2 := ⟨xw_403, xw_404, xw_405, xw_53, xw_406, ck_X1_ruleAt⟩
theorem ck_X4_write : ckOK yX4_write 1 := ⟨by decide +kernel, by decide +kernel, by decide +kernel⟩
theorem cv_L_13 : cvOK RL mX4_write 13 1 := ⟨xw_245, xw_246, xw_247, xw_52, xw_248, ck_X4_write⟩
theorem ck_X5_write : ckOK yX5_write 1 := ⟨by decide +kernel, by decide +kernel, by decide +kernel⟩
theorem cv_L_17 : cvOK RL mX5_write 17 1 := ⟨xw_768, xw_769, xw_770, xw_58, xw_771, ck_X5_write⟩
theorem ck_X4_erase : ckOK yX4_erase 0 := ⟨by decide +kernel, by decide +kernel, by decide +kernel⟩
theorem cv_L_18 : cvOK RL mX4_erase 18 0 := ⟨xw_261, xw_262, xw_263, xw_52, xw_264, ck_X4_erase⟩
theorem ck_X5_erase : ckOK yX5_erase 0 := ⟨by decide +kernel, by decide +kernel, by decide +kernel⟩
theorem cv_L_22 : cvOK RL mX5_erase 22 0 := ⟨xw_776, xw_777, xw_778, xw_58, xw_779, ck_X5_erase⟩
theorem ck_X4_fault : ckOK yX4_fault 0 := ⟨by decide +kernel, by decide +kernel, by decide +kernel⟩
theorem cv_L_23 : cvOK RL mX4_fault 23 0 := ⟨xw_265, xw_266, xw_267, xw_52, xw_268, ck_X4_fault⟩
theorem ck_X5_fault : ckOK yX5_fault 0 := ⟨by decide +kernel, by decide +kernel, by decide +kernel⟩
theorem cv_L_26 : cvOK RL mX5_fault 26 0 := ⟨xw_780, xw_781, xw_782, xw_58, xw_783, ck_X5_fault⟩
theorem ck_X4_wheel : ckOK yX4_wheel 0 := ⟨by decide +kernel, by decide +kernel, by decide +kernel⟩
theorem cv_L_27 : cvOK RL mX4_wheel 27 0 := ⟨xw_420, xw_421, xw_422, xw_52, xw_423, ck_X4_wheel⟩
theorem ck_X5_wheel : ckOK yX5_wheel 0 := ⟨by decide +kernel, by decide +kernel, by decide +kernel⟩
theorem cv_L_30 : cvOK RL mX5_wheel 30 0 := ⟨xw_838, xw_839, xw_840, xw_58, xw_841, ck_X5_wheel⟩
theorem ck_X4_judge : ckOK yX4_judge 2 := ⟨by decide +kernel, by decide +kernel, by decide +kernel⟩
theorem cv_L_31 : cvOK RL mX4_judge 31 2 := ⟨xw_436, xw_437, xw_438, xw_52, xw_439, ck_X4_judge⟩
theorem ck_X5_judge : ckOK yX5_judge 2 := ⟨by decide +kernel, by decide +kernel, by decide +kernel⟩
theorem cv_L_35 : cvOK RL mX5_judge 35 2 := ⟨xw_842, xw_843, xw_844, xw_58, xw_845, ck_X5_judge⟩
theorem ck_X4_caseOf : ckOK yX4_caseOf 2 := ⟨by decide +kernel, by decide +kernel, by decide +kernel⟩
theorem cv_L_36 : cvOK RL mX4_caseOf 36 2 := ⟨xw_452, xw_453, xw_454, xw_52, xw_455, ck_X4_caseOf⟩
theorem ck_X5_caseOf : ckOK yX5_caseOf 2 := ⟨by decide +kernel, by decide +kernel, by decide +kernel⟩
theorem cv_L_39 : cvOK RL mX5_caseOf 39 2 := ⟨xw_850, xw_851, xw_852, xw_58, xw_853, ck_X5_caseOf⟩
theorem ck_X4_seal : ckOK yX4_seal 1 := ⟨by decide +kernel, by decide +kernel, by decide +kernel⟩
theorem cv_L_40 : cvOK RL mX4_seal 40 1 := ⟨xw_460, xw_461, xw_462, xw_52, xw_463, ck_X4_seal⟩
theorem ck_X5_seal : ckOK yX5_seal 1 := ⟨by decide +kernel, by decide +kernel, by decide +kernel⟩
theorem cv_L_43 : cvOK RL mX5_seal 43 1 := ⟨xw_858, xw_859, xw_860, xw_58, xw_861, ck_X5_seal⟩
theorem ck_X4_assign : ckOK yX4_assign 2 := ⟨by decide +kernel, by decide +kernel, by decide +kernel⟩
theorem cv_L_44 : cvOK RL mX4_assign 44 2 := ⟨xw_468, xw_469, xw_470, xw_52, xw_471, ck_X4_assign⟩
theorem ck_X5_assign : ckOK yX5_assign 2 := ⟨by decide +kernel, by decide +kernel, by decide +kernel⟩
theorem cv_L_47 : cvOK RL mX5_assign 47 2 := ⟨xw_866, xw_867, xw_868, xw_58, xw_869, ck_X5_assign⟩
theorem ck_X4_refuse : ckOK yX4_refuse 1 := ⟨by decide +kernel, by decide +kernel, by decide +kernel⟩
theorem cv_L_48 : cvOK RL mX4_refuse 48 1 := ⟨xw_531, xw_532, xw_533, xw_52, xw_534, ck_X4_refuse⟩
theorem ck_X5_refuse : ckOK yX5_refuse 1 := ⟨by decide +kernel, by decide +kernel, by decide +kernel⟩
theorem cv_L_51 : cvOK RL mX5_refuse 51 1 := ⟨xw_914, xw_915, xw_916, xw_58, xw_917, ck_X5_refuse⟩
theorem ck_X4_away : ckOK yX4_away 2 := ⟨by decide +kernel, by decide +kernel, by decide +kernel⟩
theorem cv_L_52 : cvOK RL mX4_away 52 2 := ⟨xw_539, xw_540, xw_541, xw_52, xw_542, ck_X4_away⟩
theorem ck_X5_away : ckOK yX5_away 2 := ⟨by decide +kernel, by decide +kernel, by decide +kernel⟩
theorem cv_L_55 : cvOK RL mX5_away 55 2 := ⟨xw_918, xw_919, xw_920, xw_58, xw_921, ck_X5_away⟩
theorem ck_X4_undo : ckOK yX4_undo 0 := ⟨by decide +kernel, by decide +kernel, by decide +kernel⟩
theorem cv_L_56 : cvOK RL mX4_undo 56 0 := ⟨xw_543, xw_544, xw_545, xw_52, xw_546, ck_X4_undo⟩
theorem ck_X5_undo : ckOK yX5_undo 0 := ⟨by decide +kernel, by decide +kernel, by decide +kernel⟩
theorem cv_L_59 : cvOK RL mX5_undo 59 0 := ⟨xw_922, xw_923, xw_924, xw_58, xw_925, ck_X5_undo⟩
theorem ck_X4_keep : ckOK yX4_keep 1 := ⟨by decide +kernel, by decide +kernel, by decide +kernel⟩
theorem cv_L_60 : cvOK RL mX4_keep 60 1 := ⟨xw_551, xw_552, xw_553, xw_52, xw_554, ck_X4_keep⟩
theorem ck_X5_keep : ckOK yX5_keep 1 := ⟨by decide +kernel, by decide +kernel, by decide +kernel⟩
theorem cv_L_63 : cvOK RL mX5_keep 63 1 := ⟨xw_926, xw_927, xw_928, xw_58, xw_929, ck_X5_keep⟩
theorem ck_X4_back : ckOK yX4_back 1 := ⟨by decide +kernel, by decide +kernel, by decide +kernel⟩
theorem cv_L_64 : cvOK RL mX4_back 64 1 := ⟨xw_555, xw_556, xw_557, xw_52, xw_558, ck_X4_back⟩
theorem ck_X5_back : ckOK yX5_back 1 := ⟨by decide +kernel, by decide +kernel, by decide +kernel⟩
theorem cv_L_67 : cvOK RL mX5_back 67 1 := ⟨xw_930, xw_931, xw_932, xw_58, xw_933, ck_X5_back⟩
theorem ck_X4_writing : ckOK yX4_writing 1 := ⟨by decide +kernel, by decide +kernel, by decide +kernel⟩
theorem cv_L_68 : cvOK RL mX4_writing 68 1 := ⟨xw_559, xw_560, xw_561, xw_52, xw_562, ck_X4_writing⟩
theorem ck_X5_writing : ckOK yX5_writing 1 := ⟨by decide +kernel, by decide +kernel, by decide +kernel⟩
theorem cv_L_71 : cvOK RL mX5_writing 71 1 := ⟨xw_934, xw_935, xw_936, xw_58, xw_937, ck_X5_writing⟩
theorem ck_X4_sealOf : ckOK yX4_sealOf 2 := ⟨by decide +kernel, by decide +kernel, by decide +kernel⟩
theorem cv_L_72 : cvOK RL mX4_sealOf 72 2 := ⟨xw_572, xw_573, xw_574, xw_52, xw_575, ck_X4_sealOf⟩
theorem ck_X5_sealOf : ckOK yX5_sealOf 2 := ⟨by decide +kernel, by decide +kernel, by decide +kernel⟩
theorem cv_L_75 : cvOK RL mX5_sealOf 75 2 := ⟨xw_946, xw_947, xw_948, xw_58, xw_949, ck_X5_sealOf⟩
theorem ck_X4_weight : ckOK yX4_weight 2 := ⟨by decide +kernel, by decide +kernel, by decide +kernel⟩
theorem cv_L_76 : cvOK RL mX4_weight 76 2 := ⟨xw_578, xw_579, xw_580, xw_52, xw_581, ck_X4_weight⟩
theorem ck_X5_weight : ckOK yX5_weight 2 := ⟨by decide +kernel, by decide +kernel, by decide +kernel⟩
theorem cv_L_79 : cvOK RL mX5_weight 79 2 := ⟨xw_952, xw_953, xw_954, xw_58, xw_955, ck_X5_weight⟩
theorem ck_X4_odds : ckOK yX4_odds 4 := ⟨by decide +kernel, by decide +kernel, by decide +kernel⟩
theorem cv_L_80 : cvOK RL mX4_odds 80 4 := ⟨xw_583, xw_584, xw_585, xw_52, xw_586, ck_X4_odds⟩
theorem ck_X5_odds : ckOK yX5_odds 4 := ⟨by decide +kernel, by decide +kernel, by decide +kernel⟩
theorem cv_L_84 : cvOK RL mX5_odds 84 4 := ⟨xw_956, xw_957, xw_958, xw_58, xw_959, ck_X5_odds⟩
theorem ck_X4_next : ckOK yX4_next 2 := ⟨by decide +kernel, by decide +kernel, by decide +kernel⟩
theorem cv_L_85 : cvOK RL mX4_next 85 2 := ⟨xw_597, xw_598, xw_599, xw_52, xw_600, ck_X4_next⟩
theorem ck_X5_next : ckOK yX5_next 2 := ⟨by decide +kernel, by decide +kernel, by decide +kernel⟩
theorem cv_L_88 : cvOK RL mX5_next 88 2 := ⟨xw_960, xw_961, xw_962, xw_58, xw_963, ck_X5_next⟩
theorem ck_X4_count : ckOK yX4_count 2 := ⟨by decide +kernel, by decide +kernel, by decide +kernel⟩
theorem cv_L_89 : cvOK RL mX4_count 89 2 := ⟨xw_602, xw_603, xw_604, xw_52, xw_605, ck_X4_count⟩
theorem ck_X5_count : ckOK yX5_count 2 := ⟨by decide +kernel, by decide +kernel, by decide +kernel⟩
theorem cv_L_92 : cvOK RL mX5_count 92 2 := ⟨xw_964, xw_965, xw_966, xw_58, xw_967, ck_X5_count⟩
theorem ck_X4_like : ckOK yX4_like 1 := ⟨by decide +kernel, by decide +kernel, by decide +kernel⟩
theorem cv_L_93 : cvOK RL mX4_like 93 1 := ⟨xw_615, xw_616, xw_617, xw_52, xw_618, ck_X4_like⟩
theorem ck_X5_like : ckOK yX5_like 1 := ⟨by decide +kernel, by decide +kernel, by decide +kernel⟩
theorem cv_L_96 : cvOK RL mX5_like 96 1 := ⟨xw_976, xw_977, xw_978, xw_58, xw_979, ck_X5_like⟩
theorem ck_X4_slip : ckOK yX4_slip 1 := ⟨by decide +kernel, by decide +kernel, by decide +kernel⟩
theorem cv_L_97 : cvOK RL mX4_slip 97 1 := ⟨xw_619, xw_620, xw_621, xw_52, xw_622, ck_X4_slip⟩
theorem ck_X5_slip : ckOK yX5_slip 1 := ⟨by decide +kernel, by decide +kernel, by decide +kernel⟩
theorem cv_L_100 : cvOK RL mX5_slip 100 1 := ⟨xw_981, xw_982, xw_983, xw_58, xw_984, ck_X5_slip⟩
theorem ck_X4_insert : ckOK yX4_insert 3 := ⟨by decide +kernel, by decide +kernel, by decide +kernel⟩
theorem cv_L_101 : cvOK RL mX4_insert 101 3 := ⟨xw_626, xw_627, xw_628, xw_52, xw_629, ck_X4_insert⟩
theorem ck_X5_insert : ckOK yX5_insert 3 := ⟨by decide +kernel, by decide +kernel, by decide +kernel⟩
theorem cv_L_105 : cvOK RL mX5_insert 105 3 := ⟨xw_989, xw_990, xw_991, xw_58, xw_992, ck_X5_insert⟩
theorem ck_X4_cut : ckOK yX4_cut 3 := ⟨by decide +kernel, by decide +kernel, by decide +kernel⟩
theorem cv_L_106 : cvOK RL mX4_cut 106 3 := ⟨xw_635, xw_636, xw_637, xw_52, xw_638, ck_X4_cut⟩
theorem ck_X5_cut : ckOK yX5_cut 3 := ⟨by decide +kernel, by decide +kernel, by decide +kernel⟩
theorem cv_L_109 : cvOK RL mX5_cut 109 3 := ⟨xw_993, xw_994, xw_995, xw_58, xw_996, ck_X5_cut⟩
theorem ck_X4_join : ckOK yX4_join 2 := ⟨by decide +kernel, by decide +kernel, by decide +kernel⟩
theorem cv_L_110 : cvOK RL mX4_join 110 2 := ⟨xw_643, xw_644, xw_645, xw_52, xw_646, ck_X4_join⟩
theorem ck_X5_join : ckOK yX5_join 2 := ⟨by decide +kernel, by decide +kernel, by decide +kernel⟩
theorem cv_L_113 : cvOK RL mX5_join 113 2 := ⟨xw_997, xw_998, xw_999, xw_58, xw_1000, ck_X5_join⟩
theorem ck_X4_letter : ckOK yX4_letter 2 := ⟨by decide +kernel, by decide +kernel, by decide +kernel⟩
theorem cv_L_114 : cvOK RL mX4_letter 114 2 := ⟨xw_651, xw_652, xw_653, xw_52, xw_654, ck_X4_letter⟩
theorem ck_X5_letter : ckOK yX5_letter 2 := ⟨by decide +kernel, by decide +kernel, by decide +kernel⟩
theorem cv_L_117 : cvOK RL mX5_letter 117 2 := ⟨xw_1001, xw_1002, xw_1003, xw_58, xw_1004, ck_X5_letter⟩
theorem ck_X4_find : ckOK yX4_find 2 := ⟨by decide +kernel, by decide +kernel, by decide +kernel⟩
theorem cv_L_118 : cvOK RL mX4_find 118 2 := ⟨xw_655, xw_656, xw_657, xw_52, xw_658, ck_X4_find⟩
theorem ck_X5_find : ckOK yX5_find 2 := ⟨by decide +kernel, by decide +kernel, by decide +kernel⟩
theorem cv_L_121 : cvOK RL mX5_find 121 2 := ⟨xw_1005, xw_1006, xw_1007, xw_58, xw_1008, ck_X5_find⟩
theorem ck_X4_value : ckOK yX4_value 1 := ⟨by decide +kernel, by decide +kernel, by decide +kernel⟩
theorem cv_L_122 : cvOK RL mX4_value 122 1 := ⟨xw_667, xw_668, xw_669, xw_52, xw_670, ck_X4_value⟩
theorem ck_X5_value : ckOK yX5_value 1 := ⟨by decide +kernel, by decide +kernel, by decide +kernel⟩
theorem cv_L_125 : cvOK RL mX5_value 125 1 := ⟨xw_1014, xw_1015, xw_1016, xw_58, xw_1017, ck_X5_value⟩
theorem ck_X4_named : ckOK yX4_named 1 := ⟨by decide +kernel, by decide +kernel, by decide +kernel⟩
theorem cv_L_126 : cvOK RL mX4_named 126 1 := ⟨xw_672, xw_673, xw_674, xw_52, xw_675, ck_X4_named⟩
theorem ck_X5_named : ckOK yX5_named 1 := ⟨by decide +kernel, by decide +kernel, by decide +kernel⟩
theorem cv_L_129 : cvOK RL mX5_named 129 1 := ⟨xw_1018, xw_1019, xw_1020, xw_58, xw_1021, ck_X5_named⟩
theorem ck_X4_drop : ckOK yX4_drop 1 := ⟨by decide +kernel, by decide +kernel, by decide +kernel⟩
theorem cv_L_130 : cvOK RL mX4_drop 130 1 := ⟨xw_677, xw_678, xw_679, xw_52, xw_680, ck_X4_drop⟩
theorem ck_X5_drop : ckOK yX5_drop 1 := ⟨by decide +kernel, by decide +kernel, by decide +kernel⟩
theorem cv_L_133 : cvOK RL mX5_drop 133 1 := ⟨xw_1023, xw_1024, xw_1025, xw_58, xw_1026, ck_X5_drop⟩
theorem ck_X4_told : ckOK yX4_told 1 := ⟨by decide +kernel, by decide +kernel, by decide +kernel⟩
theorem cv_L_134 : cvOK RL mX4_told 134 1 := ⟨xw_681, xw_682, xw_683, xw_52, xw_684, ck_X4_told⟩
theorem ck_X5_told : ckOK yX5_told 1 := ⟨by decide +kernel, by decide +kernel, by decide +kernel⟩
theorem cv_L_137 : cvOK RL mX5_told 137 1 := ⟨xw_1027, xw_1028, xw_1029, xw_58, xw_1030, ck_X5_told⟩
theorem ck_X5_anew : ckOK yX5_anew 0 := ⟨by decide +kernel, by decide +kernel, by decide +kernel⟩
theorem cv_X5_41 : cvOK RX5 mX5_anew 41 0 := ⟨xw_699, xw_701, xw_22, xw_58, xw_702, ck_X5_anew⟩
theorem ck_X5_copyRow : ckOK yX5_copyRow 2 := ⟨by decide +kernel, by decide +kernel, by decide +kernel⟩
theorem cv_X5_44 : cvOK RX5 mX5_copyRow 44 2 := ⟨xw_703, xw_705, xw_23, xw_58, xw_706, ck_X5_copyRow⟩
theorem ck_X5_in : ckOK yX5_in 3 := ⟨by decide +kernel, by decide +kernel, by decide +kernel⟩
theorem cs_X5_57 : csOK RX5 mX5_in 57 3 := ⟨xw_773, xw_774, xw_58, xw_775, ck_X5_in⟩
theorem ck_X5_isSmall : ckOK yX5_isSmall 1 := ⟨by decide +kernel, by decide +kernel, by decide +kernel⟩
theorem cs_X5_78 : csOK RX5 mX5_isSmall 78 1 := ⟨xw_792, xw_793, xw_58, xw_794, ck_X5_isSmall⟩
theorem ck_X5_isDigit : ckOK yX5_isDigit 1 := ⟨by decide +kernel, by decide +kernel, by decide +kernel⟩
theorem cs_X5_82 : csOK RX5 mX5_isDigit 82 1 := ⟨xw_797, xw_798, xw_58, xw_799, ck_X5_isDigit⟩
theorem ck_X5_isWord : ckOK yX5_isWord 1 := ⟨by decide +kernel, by decide +kernel, by decide +kernel⟩
theorem cv_X5_85 : cvOK RX5 mX5_isWord 85 1 := ⟨xw_810, xw_812, xw_28, xw_58, xw_813, ck_X5_isWord⟩
theorem ck_X5_nextToken : ckOK yX5_nextToken 0 := ⟨by decide +kernel, by decide +kernel, by decide +kernel⟩
theorem cv_X5_88 : cvOK RX5 mX5_nextToken 88 0 := ⟨xw_788, xw_790, xw_25, xw_58, xw_791, ck_X5_nextToken⟩
theorem ck_X5_has : ckOK yX5_has 2 := ⟨by decide +kernel, by decide +kernel, by decide +kernel⟩
theorem cs_X5_93 : csOK RX5 mX5_has 93 2 := ⟨xw_827, xw_828, xw_58, xw_829, ck_X5_has⟩
theorem ck_X5_wordOf : ckOK yX5_wordOf 2 := ⟨by decide +kernel, by decide +kernel, by decide +kernel⟩
theorem cv_X5_97 : cvOK RX5 mX5_wordOf 97 2 := ⟨xw_806, xw_808, xw_27, xw_58, xw_809, ck_X5_wordOf⟩
theorem ck_X5_number : ckOK yX5_number 3 := ⟨by decide +kernel, by decide +kernel, by decide +kernel⟩
theorem cv_X5_101 : cvOK RX5 mX5_number 101 3 := ⟨xw_818, xw_820, xw_30, xw_58, xw_821, ck_X5_number⟩
theorem ck_X5_readsVersed : ckOK yX5_readsVersed 0 := ⟨by decide +kernel, by decide +kernel, by decide +kernel⟩
theorem cv_X5_105 : cvOK RX5 mX5_readsVersed 105 0 := ⟨xw_822, xw_824, xw_31, xw_58, xw_825, ck_X5_readsVersed⟩
theorem ck_X5_readsRule : ckOK yX5_readsRule 0 := ⟨by decide +kernel, by decide +kernel, by decide +kernel⟩
theorem cv_X5_112 : cvOK RX5 mX5_readsRule 112 0 := ⟨xw_830, xw_832, xw_32, xw_58, xw_833, ck_X5_readsRule⟩
theorem ck_X5_readsRest : ckOK yX5_readsRest 1 := ⟨by decide +kernel, by decide +kernel, by decide +kernel⟩
theorem cv_X5_115 : cvOK RX5 mX5_readsRest 115 1 := ⟨xw_814, xw_816, xw_29, xw_58, xw_817, ck_X5_readsRest⟩
theorem ck_X5_does : ckOK yX5_does 1 := ⟨by decide +kernel, by decide +kernel, by decide +kernel⟩
theorem cv_X5_122 : cvOK RX5 mX5_does 122 1 := ⟨xw_834, xw_836, xw_33, xw_58, xw_837, ck_X5_does⟩
theorem ck_X5_readsClause : ckOK yX5_readsClause 0 := ⟨by decide +kernel, by decide +kernel, by decide +kernel⟩
theorem cv_X5_129 : cvOK RX5 mX5_readsClause 129 0 := ⟨xw_802, xw_804, xw_26, xw_58, xw_805, ck_X5_readsClause⟩
theorem ck_X5_reads : ckOK yX5_reads 1 := ⟨by decide +kernel, by decide +kernel, by decide +kernel⟩
theorem cv_X5_132 : cvOK RX5 mX5_reads 132 1 := ⟨xw_784, xw_786, xw_24, xw_58, xw_787, ck_X5_reads⟩
theorem ck_X5_isJudge : ckOK yX5_isJudge 1 := ⟨by decide +kernel, by decide +kernel, by decide +kernel⟩
theorem cv_X5_139 : cvOK RX5 mX5_isJudge 139 1 := ⟨xw_846, xw_848, xw_34, xw_58, xw_849, ck_X5_isJudge⟩
theorem ck_X5_isCase : ckOK yX5_isCase 1 := ⟨by decide +kernel, by decide +kernel, by decide +kernel⟩
theorem cv_X5_142 : cvOK RX5 mX5_isCase 142 1 := ⟨xw_854, xw_856, xw_35, xw_58, xw_857, ck_X5_isCase⟩
theorem ck_X5_turned : ckOK yX5_turned 1 := ⟨by decide +kernel, by decide +kernel, by decide +kernel⟩
theorem cs_X5_148 : csOK RX5 mX5_turned 148 1 := ⟨xw_907, xw_908, xw_58, xw_909, ck_X5_turned⟩
theorem ck_X5_isBarred : ckOK yX5_isBarred 3 := ⟨by decide +kernel, by decide +kernel, by decide +kernel⟩
theorem cv_X5_152 : cvOK RX5 mX5_isBarred 152 3 := ⟨xw_881, xw_883, xw_38, xw_58, xw_884, ck_X5_isBarred⟩
theorem ck_X5_weightOf : ckOK yX5_weightOf 3 := ⟨by decide +kernel, by decide +kernel, by decide +kernel⟩
theorem cv_X5_155 : cvOK RX5 mX5_weightOf 155 3 := ⟨xw_897, xw_899, xw_42, xw_58, xw_900, ck_X5_weightOf⟩
theorem ck_X5_drawFor : ckOK yX5_drawFor 2 := ⟨by decide +kernel, by decide +kernel, by decide +kernel⟩
theorem cv_X5_159 : cvOK RX5 mX5_drawFor 159 2 := ⟨xw_901, xw_903, xw_43, xw_58, xw_904, ck_X5_drawFor⟩
theorem ck_X5_drawOnce : ckOK yX5_drawOnce 2 := ⟨by decide +kernel, by decide +kernel, by decide +kernel⟩
theorem cv_X5_162 : cvOK RX5 mX5_drawOnce 162 2 := ⟨xw_893, xw_895, xw_41, xw_58, xw_896, ck_X5_drawOnce⟩
theorem ck_X5_owe : ckOK yX5_owe 2 := ⟨by decide +kernel, by decide +kernel, by decide +kernel⟩
theorem cv_X5_165 : cvOK RX5 mX5_owe 165 2 := ⟨xw_910, xw_912, xw_44, xw_58, xw_913, ck_X5_owe⟩
theorem ck_X5_sealAt : ckOK yX5_sealAt 2 := ⟨by decide +kernel, by decide +kernel, by decide +kernel⟩
theorem cv_X5_168 : cvOK RX5 mX5_sealAt 168 2 := ⟨xw_862, xw_864, xw_36, xw_58, xw_865, ck_X5_sealAt⟩
theorem ck_X5_isSubject : ckOK yX5_isSubject 1 := ⟨by decide +kernel, by decide +kernel, by decide +kernel⟩
theorem cs_X5_173 : csOK RX5 mX5_isSubject 173 1 := ⟨xw_870, xw_871, xw_58, xw_872, ck_X5_isSubject⟩
theorem ck_X5_isParty : ckOK yX5_isParty 1 := ⟨by decide +kernel, by decide +kernel, by decide +kernel⟩
theorem cs_X5_176 : csOK RX5 mX5_isParty 176 1 := ⟨xw_873, xw_874, xw_58, xw_875, ck_X5_isParty⟩
theorem ck_X5_isAnyone : ckOK yX5_isAnyone 3 := ⟨by decide +kernel, by decide +kernel, by decide +kernel⟩
theorem cv_X5_179 : cvOK RX5 mX5_isAnyone 179 3 := ⟨xw_877, xw_879, xw_37, xw_58, xw_880, ck_X5_isAnyone⟩
theorem ck_X5_keepPast : ckOK yX5_keepPast 0 := ⟨by decide +kernel, by decide +kernel, by decide +kernel⟩
theorem cv_X5_182 : cvOK RX5 mX5_keepPast 182 0 := ⟨xw_885, xw_887, xw_39, xw_58, xw_888, ck_X5_keepPast⟩
theorem ck_X5_assigned : ckOK yX5_assigned 3 := ⟨by decide +kernel, by decide +kernel, by decide +kernel⟩
theorem cv_X5_185 : cvOK RX5 mX5_assigned 185 3 := ⟨xw_889, xw_891, xw_40, xw_58, xw_892, ck_X5_assigned⟩
theorem ck_X5_put : ckOK yX5_put 1 := ⟨by decide +kernel, by decide +kernel, by decide +kernel⟩
theorem cv_X5_191 : cvOK RX5 mX5_put 191 1 := ⟨xw_942, xw_944, xw_46, xw_58, xw_945, ck_X5_put⟩
theorem ck_X5_layWriting : ckOK yX5_layWriting 0 := ⟨by decide +kernel, by decide +kernel, by decide +kernel⟩
theorem cv_X5_194 : cvOK RX5 mX5_layWriting 194 0 := ⟨xw_938, xw_940, xw_45, xw_58, xw_941, ck_X5_layWriting⟩
theorem ck_X5_canCount : ckOK yX5_canCount 0 := ⟨by decide +kernel, by decide +kernel, by decide +kernel⟩
theorem cv_X5_200 : cvOK RX5 mX5_canCount 200 0 := ⟨xw_968, xw_970, xw_47, xw_58, xw_971, ck_X5_canCount⟩
theorem ck_X5_sameBy : ckOK yX5_sameBy 1 := ⟨by decide +kernel, by decide +kernel, by decide +kernel⟩
theorem cv_X5_203 : cvOK RX5 mX5_sameBy 203 1 := ⟨xw_972, xw_974, xw_48, xw_58, xw_975, ck_X5_sameBy⟩
theorem ck_X5_isSlip : ckOK yX5_isSlip 1 := ⟨by decide +kernel, by decide +kernel, by decide +kernel⟩
theorem cs_X5_210 : csOK RX5 mX5_isSlip 210 1 := ⟨xw_985, xw_986, xw_58, xw_987, ck_X5_isSlip⟩
theorem ck_X5_standsAt : ckOK yX5_standsAt 3 := ⟨by decide +kernel, by decide +kernel, by decide +kernel⟩
theorem cv_X5_215 : cvOK RX5 mX5_standsAt 215 3 := ⟨xw_1010, xw_1012, xw_49, xw_58, xw_1013, ck_X5_standsAt⟩
theorem ck_X5_allLetters : ckOK yX5_allLetters 0 := ⟨by decide +kernel, by decide +kernel, by decide +kernel⟩
theorem cv_X5_220 : cvOK RX5 mX5_allLetters 220 0 := ⟨xw_1031, xw_1033, xw_50, xw_58, xw_1034, ck_X5_allLetters⟩
theorem ck_J0_coder_7d493 : ckOK yJ0_coder_7d493 0 := ⟨by decide +kernel, by decide +kernel, by decide +kernel⟩
theorem cv_J0_335 : cvOK RJ0 mJ0_coder_7d493 335 0 := ⟨xw_309, xw_310, xw_311, xw_60, xw_312, ck_J0_coder_7d493⟩
theorem ck_J0_isLatin1_aae02 : ckOK yJ0_isLatin1_aae02 0 := ⟨by decide +kernel, by decide +kernel, by decide +kernel⟩
theorem cv_J0_492 : cvOK RJ0 mJ0_isLatin1_aae02 492 0 := ⟨xw_319, xw_320, xw_321, xw_60, xw_322, ck_J0_isLatin1_aae02⟩
theorem ck_J1_charAt_3b067 : ckOK yJ1_charAt_3b067 2 := ⟨by decide +kernel, by decide +kernel, by decide +kernel⟩
theorem cs_J0_495 : csOK RJ0 mJ1_charAt_3b067 495 2 := ⟨xw_323, xw_324, xw_61, xw_325, ck_J1_charAt_3b067⟩
theorem ck_J3_checkIndex_8e157 : ckOK yJ3_checkIndex_8e157 3 := ⟨by decide +kernel, by decide +kernel, by decide +kernel⟩
theorem cs_J0_1059 : csOK RJ0 mJ3_checkIndex_8e157 1059 3 := ⟨xw_331, xw_332, xw_62, xw_333, ck_J3_checkIndex_8e157⟩
theorem ck_J0_checkIndex_df160 : ckOK yJ0_checkIndex_df160 2 := ⟨by decide +kernel, by decide +kernel, by decide +kernel⟩
theorem cs_J1_9 : csOK RJ1 mJ0_checkIndex_df160 9 2 := ⟨xw_326, xw_327, xw_60, xw_328, ck_J0_checkIndex_df160⟩
theorem kc_X4_179 : (.constant RX4 179 (305419896) : Cond) ∈ XW := (List.mem_filter.mpr ⟨List.mem_of_getElem? (i := 576) (by decide +kernel), by decide +kernel⟩)
theorem kc_X4_264 : (.constant RX4 264 (1000000) : Cond) ∈ XW := (List.mem_filter.mpr ⟨List.mem_of_getElem? (i := 596) (by decide +kernel), by decide +kernel⟩)
theorem kc_X2_101 : (.constant RX2 101 (1000000) : Cond) ∈ XW := (List.mem_filter.mpr ⟨List.mem_of_getElem? (i := 511) (by decide +kernel), by decide +kernel⟩)
theorem kc_X2_108 : (.constantLong RX2 108 (2147483648) : Cond) ∈ XW := (List.mem_filter.mpr ⟨List.mem_of_getElem? (i := 516) (by decide +kernel), by decide +kernel⟩)
theorem kc_X5_55 : (.constantLong RX5 55 (255) : Cond) ∈ XW := (List.mem_filter.mpr ⟨List.mem_of_getElem? (i := 772) (by decide +kernel), by decide +kernel⟩)
theorem kc_X5_64 : (.constantLong RX5 64 (97) : Cond) ∈ XW := (List.mem_filter.mpr ⟨List.mem_of_getElem? (i := 795) (by decide +kernel), by decide +kernel⟩)
theorem kc_X5_66 : (.constantLong RX5 66 (122) : Cond) ∈ XW := (List.mem_filter.mpr ⟨List.mem_of_getElem? (i := 796) (by decide +kernel), by decide +kernel⟩)
theorem kc_X5_68 : (.constantLong RX5 68 (48) : Cond) ∈ XW := (List.mem_filter.mpr ⟨List.mem_of_getElem? (i := 800) (by decide +kernel), by decide +kernel⟩)
theorem kc_X5_70 : (.constantLong RX5 70 (57) : Cond) ∈ XW := (List.mem_filter.mpr ⟨List.mem_of_getElem? (i := 801) (by decide +kernel), by decide +kernel⟩)
theorem kc_X5_91 : (.constantLong RX5 91 (4) : Cond) ∈ XW := (List.mem_filter.mpr ⟨List.mem_of_getElem? (i := 826) (by decide +kernel), by decide +kernel⟩)
theorem kc_X5_145 : (.constantLong RX5 145 (2147483648) : Cond) ∈ XW := (List.mem_filter.mpr ⟨List.mem_of_getElem? (i := 905) (by decide +kernel), by decide +kernel⟩)
theorem kc_X5_147 : (.constant RX5 147 (2147483647) : Cond) ∈ XW := (List.mem_filter.mpr ⟨List.mem_of_getElem? (i := 906) (by decide +kernel), by decide +kernel⟩)
theorem kc_X5_171 : (.constantLong RX5 171 (9) : Cond) ∈ XW := (List.mem_filter.mpr ⟨List.mem_of_getElem? (i := 876) (by decide +kernel), by decide +kernel⟩)
theorem kc_X5_197 : (.constantLong RX5 197 (7) : Cond) ∈ XW := (List.mem_filter.mpr ⟨List.mem_of_getElem? (i := 950) (by decide +kernel), by decide +kernel⟩)
theorem kc_X5_199 : (.constant RX5 199 (305419896) : Cond) ∈ XW := (List.mem_filter.mpr ⟨List.mem_of_getElem? (i := 951) (by decide +kernel), by decide +kernel⟩)
theorem kc_X5_206 : (.constantLong RX5 206 (20) : Cond) ∈ XW := (List.mem_filter.mpr ⟨List.mem_of_getElem? (i := 980) (by decide +kernel), by decide +kernel⟩)
theorem kc_X5_208 : (.constantLong RX5 208 (2) : Cond) ∈ XW := (List.mem_filter.mpr ⟨List.mem_of_getElem? (i := 988) (by decide +kernel), by decide +kernel⟩)
theorem kc_X5_213 : (.constantLong RX5 213 (3) : Cond) ∈ XW := (List.mem_filter.mpr ⟨List.mem_of_getElem? (i := 1009) (by decide +kernel), by decide +kernel⟩)
theorem kc_X5_218 : (.constantLong RX5 218 (6) : Cond) ∈ XW := (List.mem_filter.mpr ⟨List.mem_of_getElem? (i := 1022) (by decide +kernel), by decide +kernel⟩)
theorem mm_X4_259 : (.methodLink RX4 259 Lib.Math.max.name : Cond) ∈ XW := (List.mem_filter.mpr ⟨List.mem_of_getElem? (i := 595) (by decide +kernel), by decide +kernel⟩)
theorem mm_X1_9 : (.methodLink RX1 9 Lib.Math.max.name : Cond) ∈ XW := (List.mem_filter.mpr ⟨List.mem_of_getElem? (i := 79) (by decide +kernel), by decide +kernel⟩)
theorem mm_X1_33 : (.methodLink RX1 33 arraycopyName : Cond) ∈ XW := (List.mem_filter.mpr ⟨List.mem_of_getElem? (i := 258) (by decide +kernel), by decide +kernel⟩)
theorem mm_X2_46 : (.methodLink RX2 46 arraycopyName : Cond) ∈ XW := (List.mem_filter.mpr ⟨List.mem_of_getElem? (i := 277) (by decide +kernel), by decide +kernel⟩)
theorem mm_X2_88 : (.methodLink RX2 88 Lib.Math.max.name : Cond) ∈ XW := (List.mem_filter.mpr ⟨List.mem_of_getElem? (i := 510) (by decide +kernel), by decide +kernel⟩)
theorem mm_X2_113 : (.methodLink RX2 113 Lib.Math.min.name : Cond) ∈ XW := (List.mem_filter.mpr ⟨List.mem_of_getElem? (i := 528) (by decide +kernel), by decide +kernel⟩)
theorem mS_max : (.static Lib.Math.max.name : Cond) ∈ XW := (List.mem_filter.mpr ⟨List.mem_of_getElem? (i := 80) (by decide +kernel), by decide +kernel⟩)
theorem mC_max : (.code Lib.Math.max.name Lib.Math.max.code 2 (some .int) : Cond) ∈ XW := (List.mem_filter.mpr ⟨List.mem_of_getElem? (i := 81) (by decide +kernel), by decide +kernel⟩)
theorem mS_min : (.static Lib.Math.min.name : Cond) ∈ XW := (List.mem_filter.mpr ⟨List.mem_of_getElem? (i := 529) (by decide +kernel), by decide +kernel⟩)
theorem mC_min : (.code Lib.Math.min.name Lib.Math.min.code 2 (some .int) : Cond) ∈ XW := (List.mem_filter.mpr ⟨List.mem_of_getElem? (i := 530) (by decide +kernel), by decide +kernel⟩)
theorem mI_Math : (.initialized "java/lang/Math" : Cond) ∈ XW := (List.mem_filter.mpr ⟨List.mem_of_getElem? (i := 54) (by decide +kernel), by decide +kernel⟩)
theorem aC_n : (.native arraycopyName : Cond) ∈ XW := (List.mem_filter.mpr ⟨List.mem_of_getElem? (i := 260) (by decide +kernel), by decide +kernel⟩)
theorem aC_s : (.static arraycopyName : Cond) ∈ XW := (List.mem_filter.mpr ⟨List.mem_of_getElem? (i := 259) (by decide +kernel), by decide +kernel⟩)
theorem aC_i : (.initialized "java/lang/System" : Cond) ∈ XW := (List.mem_filter.mpr ⟨List.mem_of_getElem? (i := 59) (by decide +kernel), by decide +kernel⟩)
