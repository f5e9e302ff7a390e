abbrev mX6_init : jMt := (yX6_init, cX6_init, 2, none, [])
abbrev mX0_init : jMt := (yX0_init, cX0_init, 1, none, [])
abbrev mX4_init : jMt := (yX4_init, cX4_init, 1, none, [])
abbrev mX3_init : jMt := (yX3_init, cX3_init, 1, none, [])
abbrev mJ7_fill_53178 : jMt := (yJ7_fill_53178, cJ7_fill_53178, 4, none, [])
abbrev mX5_init : jMt := (yX5_init, cX5_init, 1, none, [])
abbrev mX2_init : jMt := (yX2_init, cX2_init, 1, none, [])
abbrev mX6_words : jMt := (yX6_words, cX6_words, 1, (some .int), [])
abbrev mX6_wordAt : jMt := (yX6_wordAt, cX6_wordAt, 2, (some .int), [])
abbrev mX6_recall : jMt := (yX6_recall, cX6_recall, 2, (some .int), [])
abbrev mX4_clear : jMt := (yX4_clear, cX4_clear, 1, none, [])
abbrev mX3_startOf : jMt := (yX3_startOf, cX3_startOf, 2, (some .int), [])
abbrev mX4_appendAll : jMt := (yX4_appendAll, cX4_appendAll, 5, none, [])
abbrev mX4_append : jMt := (yX4_append, cX4_append, 2, none, [])
abbrev mX6_entries : jMt := (yX6_entries, cX6_entries, 2, (some .int), [])
abbrev mX6_requireBook : jMt := (yX6_requireBook, cX6_requireBook, 2, (some (.object "WireBook$Book")), [])
abbrev mX6_entry : jMt := (yX6_entry, cX6_entry, 5, (some .int), [])
abbrev mX6_requireEntry : jMt := (yX6_requireEntry, cX6_requireEntry, 2, none, [])
abbrev mX0_startOf : jMt := (yX0_startOf, cX0_startOf, 1, (some .int), [])
abbrev mX6_find : jMt := (yX6_find, cX6_find, 4, (some .int), [])
abbrev mX6_requireCode : jMt := (yX6_requireCode, cX6_requireCode, 1, none, [])
abbrev mX0_entryWith : jMt := (yX0_entryWith, cX0_entryWith, 3, (some .int), [])
abbrev mX6_setPrice : jMt := (yX6_setPrice, cX6_setPrice, 3, (some .int), [])
abbrev mX6_encode : jMt := (yX6_encode, cX6_encode, 7, (some .int), [])
abbrev mX2_divide : jMt := (yX2_divide, cX2_divide, 7, (some .int), [])
abbrev mX2_bestPiece : jMt := (yX2_bestPiece, cX2_bestPiece, 12, (some .int), [])
abbrev mX6_sameWords : jMt := (yX6_sameWords, cX6_sameWords, 6, (some .boolean), [])
abbrev mX0_goesAhead : jMt := (yX0_goesAhead, cX0_goesAhead, 3, (some .boolean), [])
abbrev mX5_clear : jMt := (yX5_clear, cX5_clear, 1, none, [])
abbrev mX5_plain : jMt := (yX5_plain, cX5_plain, 1, (some .int), [])
abbrev mX5_append : jMt := (yX5_append, cX5_append, 2, none, [])
abbrev mX6_groups : jMt := (yX6_groups, cX6_groups, 1, (some .int), [])
abbrev mX6_group : jMt := (yX6_group, cX6_group, 2, (some .int), [])
abbrev mX6_requireGroup : jMt := (yX6_requireGroup, cX6_requireGroup, 2, none, [])
abbrev mX6_garble : jMt := (yX6_garble, cX6_garble, 5, (some .int), [])
abbrev mX6_requirePlace : jMt := (yX6_requirePlace, cX6_requirePlace, 2, none, [])
abbrev mX6_requireCodeWord : jMt := (yX6_requireCodeWord, cX6_requireCodeWord, 2, none, [])
abbrev mX5_isPlain : jMt := (yX5_isPlain, cX5_isPlain, 1, (some .boolean), [])
abbrev mX1_withLetter : jMt := (yX1_withLetter, cX1_withLetter, 5, (some .int), [])
abbrev mX1_letterAt : jMt := (yX1_letterAt, cX1_letterAt, 4, (some .int), [])
abbrev mX6_decode : jMt := (yX6_decode, cX6_decode, 5, (some .int), [])
abbrev mX6_read : jMt := (yX6_read, cX6_read, 5, (some .int), [])
abbrev mX5_wordOf : jMt := (yX5_wordOf, cX5_wordOf, 1, (some .int), [])
abbrev mX0_onlyEntryLike : jMt := (yX0_onlyEntryLike, cX0_onlyEntryLike, 4, (some .int), [])
abbrev mX1_likeness : jMt := (yX1_likeness, cX1_likeness, 7, (some .int), [])
abbrev mX6_how : jMt := (yX6_how, cX6_how, 2, (some .int), [])
abbrev mX6_cost : jMt := (yX6_cost, cX6_cost, 1, (some .int), [])
abbrev mX5_costAt : jMt := (yX5_costAt, cX5_costAt, 4, (some .int), [])
abbrev mX6_time : jMt := (yX6_time, cX6_time, 1, (some .int), [])
abbrev mX5_units : jMt := (yX5_units, cX5_units, 3, (some .int), [])
abbrev mX5_wordUnits : jMt := (yX5_wordUnits, cX5_wordUnits, 4, (some .int), [])
abbrev mJ9_floorMod_7cf53 : jMt := (yJ9_floorMod_7cf53, cJ9_floorMod_7cf53, 3, (some .int), [])
abbrev mX1_units : jMt := (yX1_units, cX1_units, 4, (some .int), [])
abbrev mX6_share : jMt := (yX6_share, cX6_share, 6, (some .double), [])
abbrev mX6_learn : jMt := (yX6_learn, cX6_learn, 5, (some .int), [])
abbrev mX6_learnOne : jMt := (yX6_learnOne, cX6_learnOne, 3, (some .boolean), [])
abbrev mX3_proposeOn : jMt := (yX3_proposeOn, cX3_proposeOn, 11, (some .int), [])
abbrev mX0_hasPhrase : jMt := (yX0_hasPhrase, cX0_hasPhrase, 5, (some .boolean), [])
abbrev mX0_latestCode : jMt := (yX0_latestCode, cX0_latestCode, 1, (some .int), [])
abbrev mX0_fitFrom : jMt := (yX0_fitFrom, cX0_fitFrom, 3, (some .int), [])
abbrev mX0_reasonAgainst : jMt := (yX0_reasonAgainst, cX0_reasonAgainst, 5, (some .int), [])
abbrev mX0_add : jMt := (yX0_add, cX0_add, 3, none, [])
abbrev mL_below : jMt := (yL_below, cL_below, 2, (some .int), [])
abbrev mL_cell : jMt := (yL_cell, cL_cell, 2, (some .int), [])
abbrev mL_letter : jMt := (yL_letter, cL_letter, 4, (some .int), [])
abbrev mL_off : jMt := (yL_off, cL_off, 6, (some .int), [])
abbrev mL_keep : jMt := (yL_keep, cL_keep, 9, (some .int), [])
abbrev mX6_say : jMt := (yX6_say, cX6_say, 2, (some .int), [])
abbrev mX6_keep : jMt := (yX6_keep, cX6_keep, 1, (some .int), [])
abbrev mX3_add : jMt := (yX3_add, cX3_add, 4, none, [])
abbrev mX3_countPhrases : jMt := (yX3_countPhrases, cX3_countPhrases, 7, none, [])
abbrev mX3_firstFinding : jMt := (yX3_firstFinding, cX3_firstFinding, 4, (some .int), [])
abbrev mL_law : jMt := (yL_law, cL_law, 18, some .boolean, [])
theorem ini_WireBookLaw : Cond.initialized RL ∈ lw_tbl := List.mem_of_getElem? (i := 9) (by decide +kernel)
theorem ini_WireBook : Cond.initialized RX6 ∈ lw_tbl := List.mem_of_getElem? (i := 10) (by decide +kernel)
theorem ini_WireBook_Book : Cond.initialized RX0 ∈ lw_tbl := List.mem_of_getElem? (i := 11) (by decide +kernel)
theorem ini_WireBook_Line : Cond.initialized RX4 ∈ lw_tbl := List.mem_of_getElem? (i := 12) (by decide +kernel)
theorem ini_WireBook_Kept : Cond.initialized RX3 ∈ lw_tbl := List.mem_of_getElem? (i := 13) (by decide +kernel)
theorem ini_java_util_Arrays : Cond.initialized RJ7 ∈ lw_tbl := List.mem_of_getElem? (i := 14) (by decide +kernel)
theorem ini_WireBook_Message : Cond.initialized RX5 ∈ lw_tbl := List.mem_of_getElem? (i := 15) (by decide +kernel)
theorem ini_WireBook_Division : Cond.initialized RX2 ∈ lw_tbl := List.mem_of_getElem? (i := 16) (by decide +kernel)
theorem ini_java_lang_Throwable : Cond.initialized "java/lang/Throwable" ∈ lw_tbl := List.mem_of_getElem? (i := 17) (by decide +kernel)
theorem ini_java_lang_Exception : Cond.initialized "java/lang/Exception" ∈ lw_tbl := List.mem_of_getElem? (i := 18) (by decide +kernel)
theorem ini_java_lang_RuntimeException : Cond.initialized "java/lang/RuntimeException" ∈ lw_tbl := List.mem_of_getElem? (i := 19) (by decide +kernel)
theorem ini_java_lang_IllegalArgumentException : Cond.initialized "java/lang/IllegalArgumentException" ∈ lw_tbl := List.mem_of_getElem? (i := 20) (by decide +kernel)
theorem ini_java_lang_IllegalStateException : Cond.initialized "java/lang/IllegalStateException" ∈ lw_tbl := List.mem_of_getElem? (i := 21) (by decide +kernel)
theorem ini_java_lang_System : Cond.initialized RJ10 ∈ lw_tbl := List.mem_of_getElem? (i := 22) (by decide +kernel)
theorem ini_java_lang_IndexOutOfBoundsException : Cond.initialized "java/lang/IndexOutOfBoundsException" ∈ lw_tbl := List.mem_of_getElem? (i := 23) (by decide +kernel)
theorem ini_WireBook_Code : Cond.initialized RX1 ∈ lw_tbl := List.mem_of_getElem? (i := 24) (by decide +kernel)
theorem ini_java_lang_Math : Cond.initialized RJ9 ∈ lw_tbl := List.mem_of_getElem? (i := 25) (by decide +kernel)
theorem co_X6_init : Cond.code yX6_init cX6_init 2 none ∈ lw_tbl := List.mem_of_getElem? (i := 30) (by decide +kernel)
theorem st_X6_init : jSt mX6_init 0 := ⟨by decide +kernel, rfl, co_X6_init, ini_WireBook, ⟨by decide +kernel, by decide +kernel⟩, by decide +kernel⟩
theorem im_X6_init : Cond.instanceMethod yX6_init ∈ lw_tbl := List.mem_of_getElem? (i := 29) (by decide +kernel)
theorem co_X0_init : Cond.code yX0_init cX0_init 1 none ∈ lw_tbl := List.mem_of_getElem? (i := 39) (by decide +kernel)
theorem st_X0_init : jSt mX0_init 0 := ⟨by decide +kernel, rfl, co_X0_init, ini_WireBook_Book, ⟨by decide +kernel, by decide +kernel⟩, by decide +kernel⟩
theorem im_X0_init : Cond.instanceMethod yX0_init ∈ lw_tbl := List.mem_of_getElem? (i := 38) (by decide +kernel)
theorem co_X4_init : Cond.code yX4_init cX4_init 1 none ∈ lw_tbl := List.mem_of_getElem? (i := 66) (by decide +kernel)
theorem st_X4_init : jSt mX4_init 0 := ⟨by decide +kernel, rfl, co_X4_init, ini_WireBook_Line, ⟨by decide +kernel, by decide +kernel⟩, by decide +kernel⟩
theorem im_X4_init : Cond.instanceMethod yX4_init ∈ lw_tbl := List.mem_of_getElem? (i := 65) (by decide +kernel)
theorem co_X3_init : Cond.code yX3_init cX3_init 1 none ∈ lw_tbl := List.mem_of_getElem? (i := 85) (by decide +kernel)
theorem st_X3_init : jSt mX3_init 0 := ⟨by decide +kernel, rfl, co_X3_init, ini_WireBook_Kept, ⟨by decide +kernel, by decide +kernel⟩, by decide +kernel⟩
theorem im_X3_init : Cond.instanceMethod yX3_init ∈ lw_tbl := List.mem_of_getElem? (i := 84) (by decide +kernel)
theorem co_J7_fill_53178 : Cond.code yJ7_fill_53178 cJ7_fill_53178 4 none ∈ lw_tbl := List.mem_of_getElem? (i := 91) (by decide +kernel)
theorem st_J7_fill_53178 : jSt mJ7_fill_53178 2 := ⟨by decide +kernel, rfl, co_J7_fill_53178, ini_java_util_Arrays, ⟨by decide +kernel, by decide +kernel⟩, by decide +kernel⟩
theorem sm_J7_fill_53178 : Cond.static yJ7_fill_53178 ∈ lw_tbl := List.mem_of_getElem? (i := 90) (by decide +kernel)
theorem co_X5_init : Cond.code yX5_init cX5_init 1 none ∈ lw_tbl := List.mem_of_getElem? (i := 115) (by decide +kernel)
theorem st_X5_init : jSt mX5_init 0 := ⟨by decide +kernel, rfl, co_X5_init, ini_WireBook_Message, ⟨by decide +kernel, by decide +kernel⟩, by decide +kernel⟩
theorem im_X5_init : Cond.instanceMethod yX5_init ∈ lw_tbl := List.mem_of_getElem? (i := 114) (by decide +kernel)
theorem co_X2_init : Cond.code yX2_init cX2_init 1 none ∈ lw_tbl := List.mem_of_getElem? (i := 130) (by decide +kernel)
theorem st_X2_init : jSt mX2_init 0 := ⟨by decide +kernel, rfl, co_X2_init, ini_WireBook_Division, ⟨by decide +kernel, by decide +kernel⟩, by decide +kernel⟩
theorem im_X2_init : Cond.instanceMethod yX2_init ∈ lw_tbl := List.mem_of_getElem? (i := 129) (by decide +kernel)
theorem co_X6_words : Cond.code yX6_words cX6_words 1 (some .int) ∈ lw_tbl := List.mem_of_getElem? (i := 168) (by decide +kernel)
theorem st_X6_words : jSt mX6_words 0 := ⟨by decide +kernel, rfl, co_X6_words, ini_WireBook, ⟨by decide +kernel, by decide +kernel⟩, by decide +kernel⟩
theorem im_X6_words : Cond.instanceMethod yX6_words ∈ lw_tbl := List.mem_of_getElem? (i := 166) (by decide +kernel)
theorem se_X6_words : Cond.selects RX6 yX6_words yX6_words ∈ lw_tbl := List.mem_of_getElem? (i := 167) (by decide +kernel)
theorem co_X6_wordAt : Cond.code yX6_wordAt cX6_wordAt 2 (some .int) ∈ lw_tbl := List.mem_of_getElem? (i := 172) (by decide +kernel)
theorem st_X6_wordAt : jSt mX6_wordAt 1 := ⟨by decide +kernel, rfl, co_X6_wordAt, ini_WireBook, ⟨by decide +kernel, by decide +kernel⟩, by decide +kernel⟩
theorem im_X6_wordAt : Cond.instanceMethod yX6_wordAt ∈ lw_tbl := List.mem_of_getElem? (i := 170) (by decide +kernel)
theorem se_X6_wordAt : Cond.selects RX6 yX6_wordAt yX6_wordAt ∈ lw_tbl := List.mem_of_getElem? (i := 171) (by decide +kernel)
theorem co_X6_recall : Cond.code yX6_recall cX6_recall 2 (some .int) ∈ lw_tbl := List.mem_of_getElem? (i := 244) (by decide +kernel)
theorem st_X6_recall : jSt mX6_recall 1 := ⟨by decide +kernel, rfl, co_X6_recall, ini_WireBook, ⟨by decide +kernel, by decide +kernel⟩, by decide +kernel⟩
theorem im_X6_recall : Cond.instanceMethod yX6_recall ∈ lw_tbl := List.mem_of_getElem? (i := 242) (by decide +kernel)
theorem se_X6_recall : Cond.selects RX6 yX6_recall yX6_recall ∈ lw_tbl := List.mem_of_getElem? (i := 243) (by decide +kernel)
theorem co_X4_clear : Cond.code yX4_clear cX4_clear 1 none ∈ lw_tbl := List.mem_of_getElem? (i := 249) (by decide +kernel)
theorem st_X4_clear : jSt mX4_clear 0 := ⟨by decide +kernel, rfl, co_X4_clear, ini_WireBook_Line, ⟨by decide +kernel, by decide +kernel⟩, by decide +kernel⟩
theorem im_X4_clear : Cond.instanceMethod yX4_clear ∈ lw_tbl := List.mem_of_getElem? (i := 247) (by decide +kernel)
theorem se_X4_clear : Cond.selects RX4 yX4_clear yX4_clear ∈ lw_tbl := List.mem_of_getElem? (i := 248) (by decide +kernel)
theorem co_X3_startOf : Cond.code yX3_startOf cX3_startOf 2 (some .int) ∈ lw_tbl := List.mem_of_getElem? (i := 253) (by decide +kernel)
theorem st_X3_startOf : jSt mX3_startOf 1 := ⟨by decide +kernel, rfl, co_X3_startOf, ini_WireBook_Kept, ⟨by decide +kernel, by decide +kernel⟩, by decide +kernel⟩
theorem im_X3_startOf : Cond.instanceMethod yX3_startOf ∈ lw_tbl := List.mem_of_getElem? (i := 251) (by decide +kernel)
theorem se_X3_startOf : Cond.selects RX3 yX3_startOf yX3_startOf ∈ lw_tbl := List.mem_of_getElem? (i := 252) (by decide +kernel)
theorem co_X4_appendAll : Cond.code yX4_appendAll cX4_appendAll 5 none ∈ lw_tbl := List.mem_of_getElem? (i := 257) (by decide +kernel)
theorem st_X4_appendAll : jSt mX4_appendAll 3 := ⟨by decide +kernel, rfl, co_X4_appendAll, ini_WireBook_Line, ⟨by decide +kernel, by decide +kernel⟩, by decide +kernel⟩
theorem im_X4_appendAll : Cond.instanceMethod yX4_appendAll ∈ lw_tbl := List.mem_of_getElem? (i := 255) (by decide +kernel)
theorem se_X4_appendAll : Cond.selects RX4 yX4_appendAll yX4_appendAll ∈ lw_tbl := List.mem_of_getElem? (i := 256) (by decide +kernel)
theorem co_X4_append : Cond.code yX4_append cX4_append 2 none ∈ lw_tbl := List.mem_of_getElem? (i := 261) (by decide +kernel)
theorem st_X4_append : jSt mX4_append 1 := ⟨by decide +kernel, rfl, co_X4_append, ini_WireBook_Line, ⟨by decide +kernel, by decide +kernel⟩, by decide +kernel⟩
theorem im_X4_append : Cond.instanceMethod yX4_append ∈ lw_tbl := List.mem_of_getElem? (i := 259) (by decide +kernel)
theorem se_X4_append : Cond.selects RX4 yX4_append yX4_append ∈ lw_tbl := List.mem_of_getElem? (i := 260) (by decide +kernel)
theorem co_X6_entries : Cond.code yX6_entries cX6_entries 2 (some .int) ∈ lw_tbl := List.mem_of_getElem? (i := 265) (by decide +kernel)
theorem st_X6_entries : jSt mX6_entries 1 := ⟨by decide +kernel, rfl, co_X6_entries, ini_WireBook, ⟨by decide +kernel, by decide +kernel⟩, by decide +kernel⟩
theorem im_X6_entries : Cond.instanceMethod yX6_entries ∈ lw_tbl := List.mem_of_getElem? (i := 263) (by decide +kernel)
theorem se_X6_entries : Cond.selects RX6 yX6_entries yX6_entries ∈ lw_tbl := List.mem_of_getElem? (i := 264) (by decide +kernel)
theorem co_X6_requireBook : Cond.code yX6_requireBook cX6_requireBook 2 (some (.object "WireBook$Book")) ∈ lw_tbl := List.mem_of_getElem? (i := 269) (by decide +kernel)
theorem st_X6_requireBook : jSt mX6_requireBook 1 := ⟨by decide +kernel, rfl, co_X6_requireBook, ini_WireBook, ⟨by decide +kernel, by decide +kernel⟩, by decide +kernel⟩
theorem im_X6_requireBook : Cond.instanceMethod yX6_requireBook ∈ lw_tbl := List.mem_of_getElem? (i := 268) (by decide +kernel)
theorem se_X6_requireBook : Cond.selects RX6 yX6_requireBook yX6_requireBook ∈ lw_tbl := List.mem_of_getElem? (i := 1) (by decide +kernel)
theorem co_X6_entry : Cond.code yX6_entry cX6_entry 5 (some .int) ∈ lw_tbl := List.mem_of_getElem? (i := 274) (by decide +kernel)
theorem st_X6_entry : jSt mX6_entry 3 := ⟨by decide +kernel, rfl, co_X6_entry, ini_WireBook, ⟨by decide +kernel, by decide +kernel⟩, by decide +kernel⟩
theorem im_X6_entry : Cond.instanceMethod yX6_entry ∈ lw_tbl := List.mem_of_getElem? (i := 272) (by decide +kernel)
theorem se_X6_entry : Cond.selects RX6 yX6_entry yX6_entry ∈ lw_tbl := List.mem_of_getElem? (i := 273) (by decide +kernel)
theorem co_X6_requireEntry : Cond.code yX6_requireEntry cX6_requireEntry 2 none ∈ lw_tbl := List.mem_of_getElem? (i := 277) (by decide +kernel)
theorem st_X6_requireEntry : jSt mX6_requireEntry 2 := ⟨by decide +kernel, rfl, co_X6_requireEntry, ini_WireBook, ⟨by decide +kernel, by decide +kernel⟩, by decide +kernel⟩
theorem sm_X6_requireEntry : Cond.static yX6_requireEntry ∈ lw_tbl := List.mem_of_getElem? (i := 276) (by decide +kernel)
theorem co_X0_startOf : Cond.code yX0_startOf cX0_startOf 1 (some .int) ∈ lw_tbl := List.mem_of_getElem? (i := 282) (by decide +kernel)
theorem st_X0_startOf : jSt mX0_startOf 1 := ⟨by decide +kernel, rfl, co_X0_startOf, ini_WireBook_Book, ⟨by decide +kernel, by decide +kernel⟩, by decide +kernel⟩
theorem sm_X0_startOf : Cond.static yX0_startOf ∈ lw_tbl := List.mem_of_getElem? (i := 281) (by decide +kernel)
theorem co_X6_find : Cond.code yX6_find cX6_find 4 (some .int) ∈ lw_tbl := List.mem_of_getElem? (i := 286) (by decide +kernel)
theorem st_X6_find : jSt mX6_find 2 := ⟨by decide +kernel, rfl, co_X6_find, ini_WireBook, ⟨by decide +kernel, by decide +kernel⟩, by decide +kernel⟩
theorem im_X6_find : Cond.instanceMethod yX6_find ∈ lw_tbl := List.mem_of_getElem? (i := 284) (by decide +kernel)
theorem se_X6_find : Cond.selects RX6 yX6_find yX6_find ∈ lw_tbl := List.mem_of_getElem? (i := 285) (by decide +kernel)
theorem co_X6_requireCode : Cond.code yX6_requireCode cX6_requireCode 1 none ∈ lw_tbl := List.mem_of_getElem? (i := 289) (by decide +kernel)
theorem st_X6_requireCode : jSt mX6_requireCode 1 := ⟨by decide +kernel, rfl, co_X6_requireCode, ini_WireBook, ⟨by decide +kernel, by decide +kernel⟩, by decide +kernel⟩
theorem sm_X6_requireCode : Cond.static yX6_requireCode ∈ lw_tbl := List.mem_of_getElem? (i := 288) (by decide +kernel)
theorem co_X0_entryWith : Cond.code yX0_entryWith cX0_entryWith 3 (some .int) ∈ lw_tbl := List.mem_of_getElem? (i := 310) (by decide +kernel)
theorem st_X0_entryWith : jSt mX0_entryWith 1 := ⟨by decide +kernel, rfl, co_X0_entryWith, ini_WireBook_Book, ⟨by decide +kernel, by decide +kernel⟩, by decide +kernel⟩
theorem im_X0_entryWith : Cond.instanceMethod yX0_entryWith ∈ lw_tbl := List.mem_of_getElem? (i := 308) (by decide +kernel)
theorem se_X0_entryWith : Cond.selects RX0 yX0_entryWith yX0_entryWith ∈ lw_tbl := List.mem_of_getElem? (i := 309) (by decide +kernel)
theorem co_X6_setPrice : Cond.code yX6_setPrice cX6_setPrice 3 (some .int) ∈ lw_tbl := List.mem_of_getElem? (i := 314) (by decide +kernel)
theorem st_X6_setPrice : jSt mX6_setPrice 1 := ⟨by decide +kernel, rfl, co_X6_setPrice, ini_WireBook, ⟨by decide +kernel, by decide +kernel⟩, by decide +kernel⟩
theorem im_X6_setPrice : Cond.instanceMethod yX6_setPrice ∈ lw_tbl := List.mem_of_getElem? (i := 312) (by decide +kernel)
theorem se_X6_setPrice : Cond.selects RX6 yX6_setPrice yX6_setPrice ∈ lw_tbl := List.mem_of_getElem? (i := 313) (by decide +kernel)
theorem co_X6_encode : Cond.code yX6_encode cX6_encode 7 (some .int) ∈ lw_tbl := List.mem_of_getElem? (i := 319) (by decide +kernel)
theorem st_X6_encode : jSt mX6_encode 1 := ⟨by decide +kernel, rfl, co_X6_encode, ini_WireBook, ⟨by decide +kernel, by decide +kernel⟩, by decide +kernel⟩
theorem im_X6_encode : Cond.instanceMethod yX6_encode ∈ lw_tbl := List.mem_of_getElem? (i := 317) (by decide +kernel)
theorem se_X6_encode : Cond.selects RX6 yX6_encode yX6_encode ∈ lw_tbl := List.mem_of_getElem? (i := 318) (by decide +kernel)
theorem co_X2_divide : Cond.code yX2_divide cX2_divide 7 (some .int) ∈ lw_tbl := List.mem_of_getElem? (i := 323) (by decide +kernel)
theorem st_X2_divide : jSt mX2_divide 5 := ⟨by decide +kernel, rfl, co_X2_divide, ini_WireBook_Division, ⟨by decide +kernel, by decide +kernel⟩, by decide +kernel⟩
theorem im_X2_divide : Cond.instanceMethod yX2_divide ∈ lw_tbl := List.mem_of_getElem? (i := 321) (by decide +kernel)
theorem se_X2_divide : Cond.selects RX2 yX2_divide yX2_divide ∈ lw_tbl := List.mem_of_getElem? (i := 322) (by decide +kernel)
theorem co_X2_bestPiece : Cond.code yX2_bestPiece cX2_bestPiece 12 (some .int) ∈ lw_tbl := List.mem_of_getElem? (i := 327) (by decide +kernel)
theorem st_X2_bestPiece : jSt mX2_bestPiece 6 := ⟨by decide +kernel, rfl, co_X2_bestPiece, ini_WireBook_Division, ⟨by decide +kernel, by decide +kernel⟩, by decide +kernel⟩
theorem im_X2_bestPiece : Cond.instanceMethod yX2_bestPiece ∈ lw_tbl := List.mem_of_getElem? (i := 326) (by decide +kernel)
theorem se_X2_bestPiece : Cond.selects RX2 yX2_bestPiece yX2_bestPiece ∈ lw_tbl := List.mem_of_getElem? (i := 2) (by decide +kernel)
theorem co_X6_sameWords : Cond.code yX6_sameWords cX6_sameWords 6 (some .boolean) ∈ lw_tbl := List.mem_of_getElem? (i := 331) (by decide +kernel)
theorem st_X6_sameWords : jSt mX6_sameWords 5 := ⟨by decide +kernel, rfl, co_X6_sameWords, ini_WireBook, ⟨by decide +kernel, by decide +kernel⟩, by decide +kernel⟩
theorem sm_X6_sameWords : Cond.static yX6_sameWords ∈ lw_tbl := List.mem_of_getElem? (i := 330) (by decide +kernel)
theorem co_X0_goesAhead : Cond.code yX0_goesAhead cX0_goesAhead 3 (some .boolean) ∈ lw_tbl := List.mem_of_getElem? (i := 335) (by decide +kernel)
theorem st_X0_goesAhead : jSt mX0_goesAhead 2 := ⟨by decide +kernel, rfl, co_X0_goesAhead, ini_WireBook_Book, ⟨by decide +kernel, by decide +kernel⟩, by decide +kernel⟩
theorem im_X0_goesAhead : Cond.instanceMethod yX0_goesAhead ∈ lw_tbl := List.mem_of_getElem? (i := 333) (by decide +kernel)
theorem se_X0_goesAhead : Cond.selects RX0 yX0_goesAhead yX0_goesAhead ∈ lw_tbl := List.mem_of_getElem? (i := 334) (by decide +kernel)
theorem co_X5_clear : Cond.code yX5_clear cX5_clear 1 none ∈ lw_tbl := List.mem_of_getElem? (i := 339) (by decide +kernel)
theorem st_X5_clear : jSt mX5_clear 0 := ⟨by decide +kernel, rfl, co_X5_clear, ini_WireBook_Message, ⟨by decide +kernel, by decide +kernel⟩, by decide +kernel⟩
theorem im_X5_clear : Cond.instanceMethod yX5_clear ∈ lw_tbl := List.mem_of_getElem? (i := 337) (by decide +kernel)
theorem se_X5_clear : Cond.selects RX5 yX5_clear yX5_clear ∈ lw_tbl := List.mem_of_getElem? (i := 338) (by decide +kernel)
theorem co_X5_plain : Cond.code yX5_plain cX5_plain 1 (some .int) ∈ lw_tbl := List.mem_of_getElem? (i := 342) (by decide +kernel)
theorem st_X5_plain : jSt mX5_plain 1 := ⟨by decide +kernel, rfl, co_X5_plain, ini_WireBook_Message, ⟨by decide +kernel, by decide +kernel⟩, by decide +kernel⟩
theorem sm_X5_plain : Cond.static yX5_plain ∈ lw_tbl := List.mem_of_getElem? (i := 341) (by decide +kernel)
theorem co_X5_append : Cond.code yX5_append cX5_append 2 none ∈ lw_tbl := List.mem_of_getElem? (i := 346) (by decide +kernel)
theorem st_X5_append : jSt mX5_append 1 := ⟨by decide +kernel, rfl, co_X5_append, ini_WireBook_Message, ⟨by decide +kernel, by decide +kernel⟩, by decide +kernel⟩
theorem im_X5_append : Cond.instanceMethod yX5_append ∈ lw_tbl := List.mem_of_getElem? (i := 344) (by decide +kernel)
theorem se_X5_append : Cond.selects RX5 yX5_append yX5_append ∈ lw_tbl := List.mem_of_getElem? (i := 345) (by decide +kernel)
theorem co_X6_groups : Cond.code yX6_groups cX6_groups 1 (some .int) ∈ lw_tbl := List.mem_of_getElem? (i := 350) (by decide +kernel)
theorem st_X6_groups : jSt mX6_groups 0 := ⟨by decide +kernel, rfl, co_X6_groups, ini_WireBook, ⟨by decide +kernel, by decide +kernel⟩, by decide +kernel⟩
theorem im_X6_groups : Cond.instanceMethod yX6_groups ∈ lw_tbl := List.mem_of_getElem? (i := 348) (by decide +kernel)
theorem se_X6_groups : Cond.selects RX6 yX6_groups yX6_groups ∈ lw_tbl := List.mem_of_getElem? (i := 349) (by decide +kernel)
theorem co_X6_group : Cond.code yX6_group cX6_group 2 (some .int) ∈ lw_tbl := List.mem_of_getElem? (i := 354) (by decide +kernel)
theorem st_X6_group : jSt mX6_group 1 := ⟨by decide +kernel, rfl, co_X6_group, ini_WireBook, ⟨by decide +kernel, by decide +kernel⟩, by decide +kernel⟩
theorem im_X6_group : Cond.instanceMethod yX6_group ∈ lw_tbl := List.mem_of_getElem? (i := 352) (by decide +kernel)
theorem se_X6_group : Cond.selects RX6 yX6_group yX6_group ∈ lw_tbl := List.mem_of_getElem? (i := 353) (by decide +kernel)
theorem co_X6_requireGroup : Cond.code yX6_requireGroup cX6_requireGroup 2 none ∈ lw_tbl := List.mem_of_getElem? (i := 358) (by decide +kernel)
theorem st_X6_requireGroup : jSt mX6_requireGroup 1 := ⟨by decide +kernel, rfl, co_X6_requireGroup, ini_WireBook, ⟨by decide +kernel, by decide +kernel⟩, by decide +kernel⟩
theorem im_X6_requireGroup : Cond.instanceMethod yX6_requireGroup ∈ lw_tbl := List.mem_of_getElem? (i := 357) (by decide +kernel)
theorem se_X6_requireGroup : Cond.selects RX6 yX6_requireGroup yX6_requireGroup ∈ lw_tbl := List.mem_of_getElem? (i := 3) (by decide +kernel)
theorem co_X6_garble : Cond.code yX6_garble cX6_garble 5 (some .int) ∈ lw_tbl := List.mem_of_getElem? (i := 363) (by decide +kernel)
theorem st_X6_garble : jSt mX6_garble 3 := ⟨by decide +kernel, rfl, co_X6_garble, ini_WireBook, ⟨by decide +kernel, by decide +kernel⟩, by decide +kernel⟩
theorem im_X6_garble : Cond.instanceMethod yX6_garble ∈ lw_tbl := List.mem_of_getElem? (i := 361) (by decide +kernel)
theorem se_X6_garble : Cond.selects RX6 yX6_garble yX6_garble ∈ lw_tbl := List.mem_of_getElem? (i := 362) (by decide +kernel)
theorem co_X6_requirePlace : Cond.code yX6_requirePlace cX6_requirePlace 2 none ∈ lw_tbl := List.mem_of_getElem? (i := 366) (by decide +kernel)
theorem st_X6_requirePlace : jSt mX6_requirePlace 2 := ⟨by decide +kernel, rfl, co_X6_requirePlace, ini_WireBook, ⟨by decide +kernel, by decide +kernel⟩, by decide +kernel⟩
theorem sm_X6_requirePlace : Cond.static yX6_requirePlace ∈ lw_tbl := List.mem_of_getElem? (i := 365) (by decide +kernel)
theorem co_X6_requireCodeWord : Cond.code yX6_requireCodeWord cX6_requireCodeWord 2 none ∈ lw_tbl := List.mem_of_getElem? (i := 372) (by decide +kernel)
theorem st_X6_requireCodeWord : jSt mX6_requireCodeWord 1 := ⟨by decide +kernel, rfl, co_X6_requireCodeWord, ini_WireBook, ⟨by decide +kernel, by decide +kernel⟩, by decide +kernel⟩
theorem im_X6_requireCodeWord : Cond.instanceMethod yX6_requireCodeWord ∈ lw_tbl := List.mem_of_getElem? (i := 371) (by decide +kernel)
theorem se_X6_requireCodeWord : Cond.selects RX6 yX6_requireCodeWord yX6_requireCodeWord ∈ lw_tbl := List.mem_of_getElem? (i := 4) (by decide +kernel)
theorem co_X5_isPlain : Cond.code yX5_isPlain cX5_isPlain 1 (some .boolean) ∈ lw_tbl := List.mem_of_getElem? (i := 375) (by decide +kernel)
theorem st_X5_isPlain : jSt mX5_isPlain 1 := ⟨by decide +kernel, rfl, co_X5_isPlain, ini_WireBook_Message, ⟨by decide +kernel, by decide +kernel⟩, by decide +kernel⟩
theorem sm_X5_isPlain : Cond.static yX5_isPlain ∈ lw_tbl := List.mem_of_getElem? (i := 374) (by decide +kernel)
theorem co_X1_withLetter : Cond.code yX1_withLetter cX1_withLetter 5 (some .int) ∈ lw_tbl := List.mem_of_getElem? (i := 394) (by decide +kernel)
theorem st_X1_withLetter : jSt mX1_withLetter 3 := ⟨by decide +kernel, rfl, co_X1_withLetter, ini_WireBook_Code, ⟨by decide +kernel, by decide +kernel⟩, by decide +kernel⟩
theorem sm_X1_withLetter : Cond.static yX1_withLetter ∈ lw_tbl := List.mem_of_getElem? (i := 393) (by decide +kernel)
theorem co_X1_letterAt : Cond.code yX1_letterAt cX1_letterAt 4 (some .int) ∈ lw_tbl := List.mem_of_getElem? (i := 397) (by decide +kernel)
theorem st_X1_letterAt : jSt mX1_letterAt 2 := ⟨by decide +kernel, rfl, co_X1_letterAt, ini_WireBook_Code, ⟨by decide +kernel, by decide +kernel⟩, by decide +kernel⟩
theorem sm_X1_letterAt : Cond.static yX1_letterAt ∈ lw_tbl := List.mem_of_getElem? (i := 396) (by decide +kernel)
theorem co_X6_decode : Cond.code yX6_decode cX6_decode 5 (some .int) ∈ lw_tbl := List.mem_of_getElem? (i := 402) (by decide +kernel)
theorem st_X6_decode : jSt mX6_decode 1 := ⟨by decide +kernel, rfl, co_X6_decode, ini_WireBook, ⟨by decide +kernel, by decide +kernel⟩, by decide +kernel⟩
theorem im_X6_decode : Cond.instanceMethod yX6_decode ∈ lw_tbl := List.mem_of_getElem? (i := 400) (by decide +kernel)
theorem se_X6_decode : Cond.selects RX6 yX6_decode yX6_decode ∈ lw_tbl := List.mem_of_getElem? (i := 401) (by decide +kernel)
theorem co_X6_read : Cond.code yX6_read cX6_read 5 (some .int) ∈ lw_tbl := List.mem_of_getElem? (i := 406) (by decide +kernel)
theorem st_X6_read : jSt mX6_read 2 := ⟨by decide +kernel, rfl, co_X6_read, ini_WireBook, ⟨by decide +kernel, by decide +kernel⟩, by decide +kernel⟩
theorem im_X6_read : Cond.instanceMethod yX6_read ∈ lw_tbl := List.mem_of_getElem? (i := 405) (by decide +kernel)
theorem se_X6_read : Cond.selects RX6 yX6_read yX6_read ∈ lw_tbl := List.mem_of_getElem? (i := 5) (by decide +kernel)
theorem co_X5_wordOf : Cond.code yX5_wordOf cX5_wordOf 1 (some .int) ∈ lw_tbl := List.mem_of_getElem? (i := 409) (by decide +kernel)
theorem st_X5_wordOf : jSt mX5_wordOf 1 := ⟨by decide +kernel, rfl, co_X5_wordOf, ini_WireBook_Message, ⟨by decide +kernel, by decide +kernel⟩, by decide +kernel⟩
theorem sm_X5_wordOf : Cond.static yX5_wordOf ∈ lw_tbl := List.mem_of_getElem? (i := 408) (by decide +kernel)
theorem co_X0_onlyEntryLike : Cond.code yX0_onlyEntryLike cX0_onlyEntryLike 4 (some .int) ∈ lw_tbl := List.mem_of_getElem? (i := 414) (by decide +kernel)
theorem st_X0_onlyEntryLike : jSt mX0_onlyEntryLike 1 := ⟨by decide +kernel, rfl, co_X0_onlyEntryLike, ini_WireBook_Book, ⟨by decide +kernel, by decide +kernel⟩, by decide +kernel⟩
theorem im_X0_onlyEntryLike : Cond.instanceMethod yX0_onlyEntryLike ∈ lw_tbl := List.mem_of_getElem? (i := 412) (by decide +kernel)
theorem se_X0_onlyEntryLike : Cond.selects RX0 yX0_onlyEntryLike yX0_onlyEntryLike ∈ lw_tbl := List.mem_of_getElem? (i := 413) (by decide +kernel)
theorem co_X1_likeness : Cond.code yX1_likeness cX1_likeness 7 (some .int) ∈ lw_tbl := List.mem_of_getElem? (i := 417) (by decide +kernel)
theorem st_X1_likeness : jSt mX1_likeness 2 := ⟨by decide +kernel, rfl, co_X1_likeness, ini_WireBook_Code, ⟨by decide +kernel, by decide +kernel⟩, by decide +kernel⟩
theorem sm_X1_likeness : Cond.static yX1_likeness ∈ lw_tbl := List.mem_of_getElem? (i := 416) (by decide +kernel)
theorem co_X6_how : Cond.code yX6_how cX6_how 2 (some .int) ∈ lw_tbl := List.mem_of_getElem? (i := 421) (by decide +kernel)
theorem st_X6_how : jSt mX6_how 1 := ⟨by decide +kernel, rfl, co_X6_how, ini_WireBook, ⟨by decide +kernel, by decide +kernel⟩, by decide +kernel⟩
theorem im_X6_how : Cond.instanceMethod yX6_how ∈ lw_tbl := List.mem_of_getElem? (i := 419) (by decide +kernel)
theorem se_X6_how : Cond.selects RX6 yX6_how yX6_how ∈ lw_tbl := List.mem_of_getElem? (i := 420) (by decide +kernel)
theorem co_X6_cost : Cond.code yX6_cost cX6_cost 1 (some .int) ∈ lw_tbl := List.mem_of_getElem? (i := 426) (by decide +kernel)
theorem st_X6_cost : jSt mX6_cost 0 := ⟨by decide +kernel, rfl, co_X6_cost, ini_WireBook, ⟨by decide +kernel, by decide +kernel⟩, by decide +kernel⟩
theorem im_X6_cost : Cond.instanceMethod yX6_cost ∈ lw_tbl := List.mem_of_getElem? (i := 424) (by decide +kernel)
theorem se_X6_cost : Cond.selects RX6 yX6_cost yX6_cost ∈ lw_tbl := List.mem_of_getElem? (i := 425) (by decide +kernel)
theorem co_X5_costAt : Cond.code yX5_costAt cX5_costAt 4 (some .int) ∈ lw_tbl := List.mem_of_getElem? (i := 430) (by decide +kernel)
theorem st_X5_costAt : jSt mX5_costAt 1 := ⟨by decide +kernel, rfl, co_X5_costAt, ini_WireBook_Message, ⟨by decide +kernel, by decide +kernel⟩, by decide +kernel⟩
theorem im_X5_costAt : Cond.instanceMethod yX5_costAt ∈ lw_tbl := List.mem_of_getElem? (i := 428) (by decide +kernel)
theorem se_X5_costAt : Cond.selects RX5 yX5_costAt yX5_costAt ∈ lw_tbl := List.mem_of_getElem? (i := 429) (by decide +kernel)
theorem co_X6_time : Cond.code yX6_time cX6_time 1 (some .int) ∈ lw_tbl := List.mem_of_getElem? (i := 435) (by decide +kernel)
theorem st_X6_time : jSt mX6_time 0 := ⟨by decide +kernel, rfl, co_X6_time, ini_WireBook, ⟨by decide +kernel, by decide +kernel⟩, by decide +kernel⟩
theorem im_X6_time : Cond.instanceMethod yX6_time ∈ lw_tbl := List.mem_of_getElem? (i := 433) (by decide +kernel)
theorem se_X6_time : Cond.selects RX6 yX6_time yX6_time ∈ lw_tbl := List.mem_of_getElem? (i := 434) (by decide +kernel)
theorem co_X5_units : Cond.code yX5_units cX5_units 3 (some .int) ∈ lw_tbl := List.mem_of_getElem? (i := 439) (by decide +kernel)
theorem st_X5_units : jSt mX5_units 0 := ⟨by decide +kernel, rfl, co_X5_units, ini_WireBook_Message, ⟨by decide +kernel, by decide +kernel⟩, by decide +kernel⟩
theorem im_X5_units : Cond.instanceMethod yX5_units ∈ lw_tbl := List.mem_of_getElem? (i := 437) (by decide +kernel)
theorem se_X5_units : Cond.selects RX5 yX5_units yX5_units ∈ lw_tbl := List.mem_of_getElem? (i := 438) (by decide +kernel)
theorem co_X5_wordUnits : Cond.code yX5_wordUnits cX5_wordUnits 4 (some .int) ∈ lw_tbl := List.mem_of_getElem? (i := 443) (by decide +kernel)
theorem st_X5_wordUnits : jSt mX5_wordUnits 1 := ⟨by decide +kernel, rfl, co_X5_wordUnits, ini_WireBook_Message, ⟨by decide +kernel, by decide +kernel⟩, by decide +kernel⟩
theorem sm_X5_wordUnits : Cond.static yX5_wordUnits ∈ lw_tbl := List.mem_of_getElem? (i := 442) (by decide +kernel)
theorem co_J9_floorMod_7cf53 : Cond.code yJ9_floorMod_7cf53 cJ9_floorMod_7cf53 3 (some .int) ∈ lw_tbl := List.mem_of_getElem? (i := 448) (by decide +kernel)
theorem st_J9_floorMod_7cf53 : jStF mJ9_floorMod_7cf53 2 := ⟨by decide +kernel, rfl, co_J9_floorMod_7cf53, ini_java_lang_Math, ⟨by decide +kernel, by decide +kernel⟩, by decide +kernel⟩
theorem sm_J9_floorMod_7cf53 : Cond.static yJ9_floorMod_7cf53 ∈ lw_tbl := List.mem_of_getElem? (i := 447) (by decide +kernel)
theorem co_X1_units : Cond.code yX1_units cX1_units 4 (some .int) ∈ lw_tbl := List.mem_of_getElem? (i := 451) (by decide +kernel)
theorem st_X1_units : jSt mX1_units 1 := ⟨by decide +kernel, rfl, co_X1_units, ini_WireBook_Code, ⟨by decide +kernel, by decide +kernel⟩, by decide +kernel⟩
theorem sm_X1_units : Cond.static yX1_units ∈ lw_tbl := List.mem_of_getElem? (i := 450) (by decide +kernel)
theorem co_X6_share : Cond.code yX6_share cX6_share 6 (some .double) ∈ lw_tbl := List.mem_of_getElem? (i := 458) (by decide +kernel)
theorem st_X6_share : jSt mX6_share 1 := ⟨by decide +kernel, rfl, co_X6_share, ini_WireBook, ⟨by decide +kernel, by decide +kernel⟩, by decide +kernel⟩
theorem im_X6_share : Cond.instanceMethod yX6_share ∈ lw_tbl := List.mem_of_getElem? (i := 456) (by decide +kernel)
theorem se_X6_share : Cond.selects RX6 yX6_share yX6_share ∈ lw_tbl := List.mem_of_getElem? (i := 457) (by decide +kernel)
theorem co_X6_learn : Cond.code yX6_learn cX6_learn 5 (some .int) ∈ lw_tbl := List.mem_of_getElem? (i := 462) (by decide +kernel)
theorem st_X6_learn : jSt mX6_learn 2 := ⟨by decide +kernel, rfl, co_X6_learn, ini_WireBook, ⟨by decide +kernel, by decide +kernel⟩, by decide +kernel⟩
theorem im_X6_learn : Cond.instanceMethod yX6_learn ∈ lw_tbl := List.mem_of_getElem? (i := 460) (by decide +kernel)
theorem se_X6_learn : Cond.selects RX6 yX6_learn yX6_learn ∈ lw_tbl := List.mem_of_getElem? (i := 461) (by decide +kernel)
theorem co_X6_learnOne : Cond.code yX6_learnOne cX6_learnOne 3 (some .boolean) ∈ lw_tbl := List.mem_of_getElem? (i := 467) (by decide +kernel)
theorem st_X6_learnOne : jSt mX6_learnOne 1 := ⟨by decide +kernel, rfl, co_X6_learnOne, ini_WireBook, ⟨by decide +kernel, by decide +kernel⟩, by decide +kernel⟩
theorem im_X6_learnOne : Cond.instanceMethod yX6_learnOne ∈ lw_tbl := List.mem_of_getElem? (i := 466) (by decide +kernel)
theorem se_X6_learnOne : Cond.selects RX6 yX6_learnOne yX6_learnOne ∈ lw_tbl := List.mem_of_getElem? (i := 6) (by decide +kernel)
theorem co_X3_proposeOn : Cond.code yX3_proposeOn cX3_proposeOn 11 (some .int) ∈ lw_tbl := List.mem_of_getElem? (i := 471) (by decide +kernel)
theorem st_X3_proposeOn : jSt mX3_proposeOn 3 := ⟨by decide +kernel, rfl, co_X3_proposeOn, ini_WireBook_Kept, ⟨by decide +kernel, by decide +kernel⟩, by decide +kernel⟩
theorem im_X3_proposeOn : Cond.instanceMethod yX3_proposeOn ∈ lw_tbl := List.mem_of_getElem? (i := 469) (by decide +kernel)
theorem se_X3_proposeOn : Cond.selects RX3 yX3_proposeOn yX3_proposeOn ∈ lw_tbl := List.mem_of_getElem? (i := 470) (by decide +kernel)
theorem co_X0_hasPhrase : Cond.code yX0_hasPhrase cX0_hasPhrase 5 (some .boolean) ∈ lw_tbl := List.mem_of_getElem? (i := 476) (by decide +kernel)
theorem st_X0_hasPhrase : jSt mX0_hasPhrase 3 := ⟨by decide +kernel, rfl, co_X0_hasPhrase, ini_WireBook_Book, ⟨by decide +kernel, by decide +kernel⟩, by decide +kernel⟩
theorem im_X0_hasPhrase : Cond.instanceMethod yX0_hasPhrase ∈ lw_tbl := List.mem_of_getElem? (i := 474) (by decide +kernel)
theorem se_X0_hasPhrase : Cond.selects RX0 yX0_hasPhrase yX0_hasPhrase ∈ lw_tbl := List.mem_of_getElem? (i := 475) (by decide +kernel)
theorem co_X0_latestCode : Cond.code yX0_latestCode cX0_latestCode 1 (some .int) ∈ lw_tbl := List.mem_of_getElem? (i := 484) (by decide +kernel)
theorem st_X0_latestCode : jSt mX0_latestCode 0 := ⟨by decide +kernel, rfl, co_X0_latestCode, ini_WireBook_Book, ⟨by decide +kernel, by decide +kernel⟩, by decide +kernel⟩
theorem im_X0_latestCode : Cond.instanceMethod yX0_latestCode ∈ lw_tbl := List.mem_of_getElem? (i := 482) (by decide +kernel)
theorem se_X0_latestCode : Cond.selects RX0 yX0_latestCode yX0_latestCode ∈ lw_tbl := List.mem_of_getElem? (i := 483) (by decide +kernel)
theorem co_X0_fitFrom : Cond.code yX0_fitFrom cX0_fitFrom 3 (some .int) ∈ lw_tbl := List.mem_of_getElem? (i := 488) (by decide +kernel)
theorem st_X0_fitFrom : jSt mX0_fitFrom 1 := ⟨by decide +kernel, rfl, co_X0_fitFrom, ini_WireBook_Book, ⟨by decide +kernel, by decide +kernel⟩, by decide +kernel⟩
theorem im_X0_fitFrom : Cond.instanceMethod yX0_fitFrom ∈ lw_tbl := List.mem_of_getElem? (i := 486) (by decide +kernel)
theorem se_X0_fitFrom : Cond.selects RX0 yX0_fitFrom yX0_fitFrom ∈ lw_tbl := List.mem_of_getElem? (i := 487) (by decide +kernel)
theorem co_X0_reasonAgainst : Cond.code yX0_reasonAgainst cX0_reasonAgainst 5 (some .int) ∈ lw_tbl := List.mem_of_getElem? (i := 493) (by decide +kernel)
theorem st_X0_reasonAgainst : jSt mX0_reasonAgainst 1 := ⟨by decide +kernel, rfl, co_X0_reasonAgainst, ini_WireBook_Book, ⟨by decide +kernel, by decide +kernel⟩, by decide +kernel⟩
theorem im_X0_reasonAgainst : Cond.instanceMethod yX0_reasonAgainst ∈ lw_tbl := List.mem_of_getElem? (i := 491) (by decide +kernel)
theorem se_X0_reasonAgainst : Cond.selects RX0 yX0_reasonAgainst yX0_reasonAgainst ∈ lw_tbl := List.mem_of_getElem? (i := 492) (by decide +kernel)
theorem co_X0_add : Cond.code yX0_add cX0_add 3 none ∈ lw_tbl := List.mem_of_getElem? (i := 497) (by decide +kernel)
theorem st_X0_add : jSt mX0_add 2 := ⟨by decide +kernel, rfl, co_X0_add, ini_WireBook_Book, ⟨by decide +kernel, by decide +kernel⟩, by decide +kernel⟩
theorem im_X0_add : Cond.instanceMethod yX0_add ∈ lw_tbl := List.mem_of_getElem? (i := 495) (by decide +kernel)
theorem se_X0_add : Cond.selects RX0 yX0_add yX0_add ∈ lw_tbl := List.mem_of_getElem? (i := 496) (by decide +kernel)
theorem co_L_below : Cond.code yL_below cL_below 2 (some .int) ∈ lw_tbl := List.mem_of_getElem? (i := 503) (by decide +kernel)
theorem st_L_below : jSt mL_below 2 := ⟨by decide +kernel, rfl, co_L_below, ini_WireBookLaw, ⟨by decide +kernel, by decide +kernel⟩, by decide +kernel⟩
theorem sm_L_below : Cond.static yL_below ∈ lw_tbl := List.mem_of_getElem? (i := 502) (by decide +kernel)
theorem co_L_cell : Cond.code yL_cell cL_cell 2 (some .int) ∈ lw_tbl := List.mem_of_getElem? (i := 507) (by decide +kernel)
theorem st_L_cell : jSt mL_cell 2 := ⟨by decide +kernel, rfl, co_L_cell, ini_WireBookLaw, ⟨by decide +kernel, by decide +kernel⟩, by decide +kernel⟩
theorem sm_L_cell : Cond.static yL_cell ∈ lw_tbl := List.mem_of_getElem? (i := 506) (by decide +kernel)
theorem co_L_letter : Cond.code yL_letter cL_letter 4 (some .int) ∈ lw_tbl := List.mem_of_getElem? (i := 511) (by decide +kernel)
theorem st_L_letter : jSt mL_letter 2 := ⟨by decide +kernel, rfl, co_L_letter, ini_WireBookLaw, ⟨by decide +kernel, by decide +kernel⟩, by decide +kernel⟩
theorem sm_L_letter : Cond.static yL_letter ∈ lw_tbl := List.mem_of_getElem? (i := 510) (by decide +kernel)
theorem co_L_off : Cond.code yL_off cL_off 6 (some .int) ∈ lw_tbl := List.mem_of_getElem? (i := 514) (by decide +kernel)
theorem st_L_off : jSt mL_off 2 := ⟨by decide +kernel, rfl, co_L_off, ini_WireBookLaw, ⟨by decide +kernel, by decide +kernel⟩, by decide +kernel⟩
theorem sm_L_off : Cond.static yL_off ∈ lw_tbl := List.mem_of_getElem? (i := 513) (by decide +kernel)
theorem co_L_keep : Cond.code yL_keep cL_keep 9 (some .int) ∈ lw_tbl := List.mem_of_getElem? (i := 517) (by decide +kernel)
theorem st_L_keep : jSt mL_keep 5 := ⟨by decide +kernel, rfl, co_L_keep, ini_WireBookLaw, ⟨by decide +kernel, by decide +kernel⟩, by decide +kernel⟩
theorem sm_L_keep : Cond.static yL_keep ∈ lw_tbl := List.mem_of_getElem? (i := 516) (by decide +kernel)
theorem co_X6_say : Cond.code yX6_say cX6_say 2 (some .int) ∈ lw_tbl := List.mem_of_getElem? (i := 521) (by decide +kernel)
theorem st_X6_say : jSt mX6_say 1 := ⟨by decide +kernel, rfl, co_X6_say, ini_WireBook, ⟨by decide +kernel, by decide +kernel⟩, by decide +kernel⟩
theorem im_X6_say : Cond.instanceMethod yX6_say ∈ lw_tbl := List.mem_of_getElem? (i := 519) (by decide +kernel)
theorem se_X6_say : Cond.selects RX6 yX6_say yX6_say ∈ lw_tbl := List.mem_of_getElem? (i := 520) (by decide +kernel)
theorem co_X6_keep : Cond.code yX6_keep cX6_keep 1 (some .int) ∈ lw_tbl := List.mem_of_getElem? (i := 527) (by decide +kernel)
theorem st_X6_keep : jSt mX6_keep 0 := ⟨by decide +kernel, rfl, co_X6_keep, ini_WireBook, ⟨by decide +kernel, by decide +kernel⟩, by decide +kernel⟩
theorem im_X6_keep : Cond.instanceMethod yX6_keep ∈ lw_tbl := List.mem_of_getElem? (i := 525) (by decide +kernel)
theorem se_X6_keep : Cond.selects RX6 yX6_keep yX6_keep ∈ lw_tbl := List.mem_of_getElem? (i := 526) (by decide +kernel)
theorem co_X3_add : Cond.code yX3_add cX3_add 4 none ∈ lw_tbl := List.mem_of_getElem? (i := 533) (by decide +kernel)
theorem st_X3_add : jSt mX3_add 1 := ⟨by decide +kernel, rfl, co_X3_add, ini_WireBook_Kept, ⟨by decide +kernel, by decide +kernel⟩, by decide +kernel⟩
theorem im_X3_add : Cond.instanceMethod yX3_add ∈ lw_tbl := List.mem_of_getElem? (i := 531) (by decide +kernel)
theorem se_X3_add : Cond.selects RX3 yX3_add yX3_add ∈ lw_tbl := List.mem_of_getElem? (i := 532) (by decide +kernel)
theorem co_X3_countPhrases : Cond.code yX3_countPhrases cX3_countPhrases 7 none ∈ lw_tbl := List.mem_of_getElem? (i := 538) (by decide +kernel)
theorem st_X3_countPhrases : jSt mX3_countPhrases 3 := ⟨by decide +kernel, rfl, co_X3_countPhrases, ini_WireBook_Kept, ⟨by decide +kernel, by decide +kernel⟩, by decide +kernel⟩
theorem im_X3_countPhrases : Cond.instanceMethod yX3_countPhrases ∈ lw_tbl := List.mem_of_getElem? (i := 537) (by decide +kernel)
theorem se_X3_countPhrases : Cond.selects RX3 yX3_countPhrases yX3_countPhrases ∈ lw_tbl := List.mem_of_getElem? (i := 7) (by decide +kernel)
theorem co_X3_firstFinding : Cond.code yX3_firstFinding cX3_firstFinding 4 (some .int) ∈ lw_tbl := List.mem_of_getElem? (i := 542) (by decide +kernel)
theorem st_X3_firstFinding : jSt mX3_firstFinding 2 := ⟨by decide +kernel, rfl, co_X3_firstFinding, ini_WireBook_Kept, ⟨by decide +kernel, by decide +kernel⟩, by decide +kernel⟩
theorem im_X3_firstFinding : Cond.instanceMethod yX3_firstFinding ∈ lw_tbl := List.mem_of_getElem? (i := 541) (by decide +kernel)
theorem se_X3_firstFinding : Cond.selects RX3 yX3_firstFinding yX3_firstFinding ∈ lw_tbl := List.mem_of_getElem? (i := 8) (by decide +kernel)
theorem ml_L_32 : Cond.methodLink RL 32 yX6_init ∈ lw_tbl := List.mem_of_getElem? (i := 28) (by decide +kernel)
theorem ml_X6_1 : Cond.methodLink RX6 1 objectInit ∈ lw_tbl := List.mem_of_getElem? (i := 31) (by decide +kernel)
theorem ml_X6_15 : Cond.methodLinkNest RX6 15 yX0_init "WireBook" ∈ lw_tbl := List.mem_of_getElem? (i := 37) (by decide +kernel)
theorem ml_X0_3 : Cond.methodLink RX0 3 objectInit ∈ lw_tbl := List.mem_of_getElem? (i := 40) (by decide +kernel)
theorem ml_X6_18 : Cond.methodLinkNest RX6 18 yX4_init "WireBook" ∈ lw_tbl := List.mem_of_getElem? (i := 64) (by decide +kernel)
theorem ml_X4_3 : Cond.methodLink RX4 3 objectInit ∈ lw_tbl := List.mem_of_getElem? (i := 67) (by decide +kernel)
theorem ml_X6_25 : Cond.methodLink RX6 25 yX3_init ∈ lw_tbl := List.mem_of_getElem? (i := 83) (by decide +kernel)
theorem ml_X3_5 : Cond.methodLink RX3 5 objectInit ∈ lw_tbl := List.mem_of_getElem? (i := 86) (by decide +kernel)
theorem ml_X3_26 : Cond.methodLink RX3 26 yJ7_fill_53178 ∈ lw_tbl := List.mem_of_getElem? (i := 89) (by decide +kernel)
theorem ml_X6_32 : Cond.methodLinkNest RX6 32 yX5_init "WireBook" ∈ lw_tbl := List.mem_of_getElem? (i := 113) (by decide +kernel)
theorem ml_X5_3 : Cond.methodLink RX5 3 objectInit ∈ lw_tbl := List.mem_of_getElem? (i := 116) (by decide +kernel)
theorem ml_X6_39 : Cond.methodLinkNest RX6 39 yX2_init "WireBook" ∈ lw_tbl := List.mem_of_getElem? (i := 128) (by decide +kernel)
theorem ml_X2_3 : Cond.methodLink RX2 3 objectInit ∈ lw_tbl := List.mem_of_getElem? (i := 131) (by decide +kernel)
theorem ml_L_86 : Cond.methodLink RL 86 yX6_words ∈ lw_tbl := List.mem_of_getElem? (i := 165) (by decide +kernel)
theorem ml_L_89 : Cond.methodLink RL 89 yX6_wordAt ∈ lw_tbl := List.mem_of_getElem? (i := 169) (by decide +kernel)
theorem ml_L_56 : Cond.methodLink RL 56 yX6_recall ∈ lw_tbl := List.mem_of_getElem? (i := 241) (by decide +kernel)
theorem ml_X6_71 : Cond.methodLink RX6 71 yX4_clear ∈ lw_tbl := List.mem_of_getElem? (i := 246) (by decide +kernel)
theorem ml_X6_94 : Cond.methodLink RX6 94 yX3_startOf ∈ lw_tbl := List.mem_of_getElem? (i := 250) (by decide +kernel)
theorem ml_X6_101 : Cond.methodLink RX6 101 yX4_appendAll ∈ lw_tbl := List.mem_of_getElem? (i := 254) (by decide +kernel)
theorem ml_X4_19 : Cond.methodLink RX4 19 yX4_append ∈ lw_tbl := List.mem_of_getElem? (i := 258) (by decide +kernel)
theorem ml_L_46 : Cond.methodLink RL 46 yX6_entries ∈ lw_tbl := List.mem_of_getElem? (i := 262) (by decide +kernel)
theorem ml_X6_118 : Cond.methodLink RX6 118 yX6_requireBook ∈ lw_tbl := List.mem_of_getElem? (i := 266) (by decide +kernel)
theorem ml_L_49 : Cond.methodLink RL 49 yX6_entry ∈ lw_tbl := List.mem_of_getElem? (i := 271) (by decide +kernel)
theorem ml_X6_136 : Cond.methodLink RX6 136 yX6_requireEntry ∈ lw_tbl := List.mem_of_getElem? (i := 275) (by decide +kernel)
theorem ml_X6_152 : Cond.methodLink RX6 152 yX0_startOf ∈ lw_tbl := List.mem_of_getElem? (i := 280) (by decide +kernel)
theorem ml_L_77 : Cond.methodLink RL 77 yX6_find ∈ lw_tbl := List.mem_of_getElem? (i := 283) (by decide +kernel)
theorem ml_X6_105 : Cond.methodLink RX6 105 yX6_requireCode ∈ lw_tbl := List.mem_of_getElem? (i := 287) (by decide +kernel)
theorem ml_X6_153 : Cond.methodLink RX6 153 yX0_entryWith ∈ lw_tbl := List.mem_of_getElem? (i := 307) (by decide +kernel)
theorem ml_L_36 : Cond.methodLink RL 36 yX6_setPrice ∈ lw_tbl := List.mem_of_getElem? (i := 311) (by decide +kernel)
theorem ml_L_59 : Cond.methodLink RL 59 yX6_encode ∈ lw_tbl := List.mem_of_getElem? (i := 316) (by decide +kernel)
theorem ml_X6_158 : Cond.methodLink RX6 158 yX2_divide ∈ lw_tbl := List.mem_of_getElem? (i := 320) (by decide +kernel)
theorem ml_X2_18 : Cond.methodLink RX2 18 yX2_bestPiece ∈ lw_tbl := List.mem_of_getElem? (i := 324) (by decide +kernel)
theorem ml_X2_34 : Cond.methodLink RX2 34 yX0_startOf ∈ lw_tbl := List.mem_of_getElem? (i := 328) (by decide +kernel)
theorem ml_X2_38 : Cond.methodLinkNest RX2 38 yX6_sameWords "WireBook" ∈ lw_tbl := List.mem_of_getElem? (i := 329) (by decide +kernel)
theorem ml_X2_42 : Cond.methodLink RX2 42 yX0_goesAhead ∈ lw_tbl := List.mem_of_getElem? (i := 332) (by decide +kernel)
theorem ml_X6_162 : Cond.methodLink RX6 162 yX5_clear ∈ lw_tbl := List.mem_of_getElem? (i := 336) (by decide +kernel)
theorem ml_X6_166 : Cond.methodLink RX6 166 yX5_plain ∈ lw_tbl := List.mem_of_getElem? (i := 340) (by decide +kernel)
theorem ml_X6_169 : Cond.methodLink RX6 169 yX5_append ∈ lw_tbl := List.mem_of_getElem? (i := 343) (by decide +kernel)
theorem ml_L_65 : Cond.methodLink RL 65 yX6_groups ∈ lw_tbl := List.mem_of_getElem? (i := 347) (by decide +kernel)
theorem ml_L_71 : Cond.methodLink RL 71 yX6_group ∈ lw_tbl := List.mem_of_getElem? (i := 351) (by decide +kernel)
theorem ml_X6_171 : Cond.methodLink RX6 171 yX6_requireGroup ∈ lw_tbl := List.mem_of_getElem? (i := 355) (by decide +kernel)
theorem ml_L_74 : Cond.methodLink RL 74 yX6_garble ∈ lw_tbl := List.mem_of_getElem? (i := 360) (by decide +kernel)
theorem ml_X6_108 : Cond.methodLink RX6 108 yX6_requirePlace ∈ lw_tbl := List.mem_of_getElem? (i := 364) (by decide +kernel)
theorem ml_X6_177 : Cond.methodLink RX6 177 yX6_requireCodeWord ∈ lw_tbl := List.mem_of_getElem? (i := 369) (by decide +kernel)
theorem ml_X6_239 : Cond.methodLink RX6 239 yX5_isPlain ∈ lw_tbl := List.mem_of_getElem? (i := 373) (by decide +kernel)
theorem ml_X6_180 : Cond.methodLink RX6 180 yX1_withLetter ∈ lw_tbl := List.mem_of_getElem? (i := 392) (by decide +kernel)
theorem ml_X1_9 : Cond.methodLink RX1 9 yX1_letterAt ∈ lw_tbl := List.mem_of_getElem? (i := 395) (by decide +kernel)
theorem ml_X6_112 : Cond.methodLink RX6 112 yX1_letterAt ∈ lw_tbl := List.mem_of_getElem? (i := 398) (by decide +kernel)
theorem ml_L_80 : Cond.methodLink RL 80 yX6_decode ∈ lw_tbl := List.mem_of_getElem? (i := 399) (by decide +kernel)
theorem ml_X6_190 : Cond.methodLink RX6 190 yX6_read ∈ lw_tbl := List.mem_of_getElem? (i := 403) (by decide +kernel)
theorem ml_X6_245 : Cond.methodLink RX6 245 yX5_wordOf ∈ lw_tbl := List.mem_of_getElem? (i := 407) (by decide +kernel)
theorem ml_X6_67 : Cond.methodLink RX6 67 yX4_append ∈ lw_tbl := List.mem_of_getElem? (i := 410) (by decide +kernel)
theorem ml_X6_248 : Cond.methodLink RX6 248 yX0_onlyEntryLike ∈ lw_tbl := List.mem_of_getElem? (i := 411) (by decide +kernel)
theorem ml_X0_41 : Cond.methodLink RX0 41 yX1_likeness ∈ lw_tbl := List.mem_of_getElem? (i := 415) (by decide +kernel)
theorem ml_L_83 : Cond.methodLink RL 83 yX6_how ∈ lw_tbl := List.mem_of_getElem? (i := 418) (by decide +kernel)
theorem ml_L_62 : Cond.methodLink RL 62 yX6_cost ∈ lw_tbl := List.mem_of_getElem? (i := 423) (by decide +kernel)
theorem ml_X6_196 : Cond.methodLink RX6 196 yX5_costAt ∈ lw_tbl := List.mem_of_getElem? (i := 427) (by decide +kernel)
theorem ml_X5_19 : Cond.methodLink RX5 19 yX5_isPlain ∈ lw_tbl := List.mem_of_getElem? (i := 431) (by decide +kernel)
theorem ml_L_68 : Cond.methodLink RL 68 yX6_time ∈ lw_tbl := List.mem_of_getElem? (i := 432) (by decide +kernel)
theorem ml_X6_199 : Cond.methodLink RX6 199 yX5_units ∈ lw_tbl := List.mem_of_getElem? (i := 436) (by decide +kernel)
theorem ml_X5_23 : Cond.methodLink RX5 23 yX5_wordOf ∈ lw_tbl := List.mem_of_getElem? (i := 440) (by decide +kernel)
theorem ml_X5_27 : Cond.methodLink RX5 27 yX5_wordUnits ∈ lw_tbl := List.mem_of_getElem? (i := 441) (by decide +kernel)
theorem ml_X5_38 : Cond.methodLink RX5 38 yJ9_floorMod_7cf53 ∈ lw_tbl := List.mem_of_getElem? (i := 446) (by decide +kernel)
theorem ml_X5_30 : Cond.methodLink RX5 30 yX1_units ∈ lw_tbl := List.mem_of_getElem? (i := 449) (by decide +kernel)
theorem ml_X1_23 : Cond.methodLink RX1 23 yJ9_floorMod_7cf53 ∈ lw_tbl := List.mem_of_getElem? (i := 454) (by decide +kernel)
theorem ml_L_39 : Cond.methodLink RL 39 yX6_share ∈ lw_tbl := List.mem_of_getElem? (i := 455) (by decide +kernel)
theorem ml_L_43 : Cond.methodLink RL 43 yX6_learn ∈ lw_tbl := List.mem_of_getElem? (i := 459) (by decide +kernel)
theorem ml_X6_209 : Cond.methodLink RX6 209 yX6_learnOne ∈ lw_tbl := List.mem_of_getElem? (i := 464) (by decide +kernel)
theorem ml_X6_203 : Cond.methodLink RX6 203 yX3_proposeOn ∈ lw_tbl := List.mem_of_getElem? (i := 468) (by decide +kernel)
theorem ml_X3_36 : Cond.methodLink RX3 36 yX3_startOf ∈ lw_tbl := List.mem_of_getElem? (i := 472) (by decide +kernel)
theorem ml_X3_62 : Cond.methodLink RX3 62 yX0_hasPhrase ∈ lw_tbl := List.mem_of_getElem? (i := 473) (by decide +kernel)
theorem ml_X0_31 : Cond.methodLink RX0 31 yX0_startOf ∈ lw_tbl := List.mem_of_getElem? (i := 477) (by decide +kernel)
theorem ml_X0_51 : Cond.methodLinkNest RX0 51 yX6_sameWords "WireBook" ∈ lw_tbl := List.mem_of_getElem? (i := 478) (by decide +kernel)
theorem ml_X3_68 : Cond.methodLink RX3 68 yX4_clear ∈ lw_tbl := List.mem_of_getElem? (i := 479) (by decide +kernel)
theorem ml_X3_71 : Cond.methodLink RX3 71 yX4_appendAll ∈ lw_tbl := List.mem_of_getElem? (i := 480) (by decide +kernel)
theorem ml_X6_251 : Cond.methodLink RX6 251 yX0_latestCode ∈ lw_tbl := List.mem_of_getElem? (i := 481) (by decide +kernel)
theorem ml_X6_125 : Cond.methodLink RX6 125 yX0_fitFrom ∈ lw_tbl := List.mem_of_getElem? (i := 485) (by decide +kernel)
theorem ml_X0_48 : Cond.methodLink RX0 48 yX0_reasonAgainst ∈ lw_tbl := List.mem_of_getElem? (i := 490) (by decide +kernel)
theorem ml_X6_132 : Cond.methodLink RX6 132 yX0_add ∈ lw_tbl := List.mem_of_getElem? (i := 494) (by decide +kernel)
theorem ml_X0_35 : Cond.methodLink RX0 35 arraycopyName ∈ lw_tbl := List.mem_of_getElem? (i := 498) (by decide +kernel)
theorem ml_L_19 : Cond.methodLink RL 19 yL_below ∈ lw_tbl := List.mem_of_getElem? (i := 501) (by decide +kernel)
theorem ml_L_15 : Cond.methodLink RL 15 yL_cell ∈ lw_tbl := List.mem_of_getElem? (i := 505) (by decide +kernel)
theorem ml_L_9 : Cond.methodLink RL 9 yL_letter ∈ lw_tbl := List.mem_of_getElem? (i := 509) (by decide +kernel)
theorem ml_L_53 : Cond.methodLink RL 53 yL_off ∈ lw_tbl := List.mem_of_getElem? (i := 512) (by decide +kernel)
theorem ml_L_33 : Cond.methodLink RL 33 yL_keep ∈ lw_tbl := List.mem_of_getElem? (i := 515) (by decide +kernel)
theorem ml_L_22 : Cond.methodLink RL 22 yX6_say ∈ lw_tbl := List.mem_of_getElem? (i := 518) (by decide +kernel)
theorem ml_L_28 : Cond.methodLink RL 28 yX6_keep ∈ lw_tbl := List.mem_of_getElem? (i := 524) (by decide +kernel)
theorem ml_X6_87 : Cond.methodLink RX6 87 yX3_add ∈ lw_tbl := List.mem_of_getElem? (i := 530) (by decide +kernel)
theorem ml_X3_44 : Cond.methodLink RX3 44 arraycopyName ∈ lw_tbl := List.mem_of_getElem? (i := 534) (by decide +kernel)
theorem ml_X3_50 : Cond.methodLink RX3 50 yX3_countPhrases ∈ lw_tbl := List.mem_of_getElem? (i := 535) (by decide +kernel)
theorem ml_X3_54 : Cond.methodLink RX3 54 yX3_firstFinding ∈ lw_tbl := List.mem_of_getElem? (i := 539) (by decide +kernel)
theorem ml_X3_58 : Cond.methodLinkNest RX3 58 yX6_sameWords "WireBook" ∈ lw_tbl := List.mem_of_getElem? (i := 543) (by decide +kernel)
theorem im_obj : Cond.instanceMethod objectInit ∈ lw_tbl := List.mem_of_getElem? (i := 32) (by decide +kernel)
theorem co_obj : Cond.code objectInit ⟨#[0xb1]⟩ 1 none ∈ lw_tbl := List.mem_of_getElem? (i := 33) (by decide +kernel)
theorem sm_acopy : Cond.static arraycopyName ∈ lw_tbl := List.mem_of_getElem? (i := 499) (by decide +kernel)
theorem na_acopy : Cond.native arraycopyName ∈ lw_tbl := List.mem_of_getElem? (i := 500) (by decide +kernel)
theorem cl_L_23 : Cond.classLink RL 23 RX6 ∈ lw_tbl := List.mem_of_getElem? (i := 26) (by decide +kernel)
theorem cl_X6_9 : Cond.classLink RX6 9 RX0 ∈ lw_tbl := List.mem_of_getElem? (i := 34) (by decide +kernel)
theorem cl_X6_16 : Cond.classLink RX6 16 RX4 ∈ lw_tbl := List.mem_of_getElem? (i := 62) (by decide +kernel)
theorem cl_X6_23 : Cond.classLink RX6 23 RX3 ∈ lw_tbl := List.mem_of_getElem? (i := 81) (by decide +kernel)
theorem cl_X3_18 : Cond.classLink RX3 18 "[[I" ∈ lw_tbl := List.mem_of_getElem? (i := 87) (by decide +kernel)
theorem cl_X6_30 : Cond.classLink RX6 30 RX5 ∈ lw_tbl := List.mem_of_getElem? (i := 111) (by decide +kernel)
theorem cl_X6_37 : Cond.classLink RX6 37 RX2 ∈ lw_tbl := List.mem_of_getElem? (i := 126) (by decide +kernel)
theorem cl_X6_74 : Cond.classLink RX6 74 "java/lang/IndexOutOfBoundsException" ∈ lw_tbl := List.mem_of_getElem? (i := 173) (by decide +kernel)
theorem cl_X6_52 : Cond.classLink RX6 52 "java/lang/IllegalArgumentException" ∈ lw_tbl := List.mem_of_getElem? (i := 291) (by decide +kernel)
theorem cl_X6_62 : Cond.classLink RX6 62 "java/lang/IllegalStateException" ∈ lw_tbl := List.mem_of_getElem? (i := 376) (by decide +kernel)
theorem ac_int : Cond.arrayClass .int ∈ lw_tbl := List.mem_of_getElem? (i := 61) (by decide +kernel)
theorem ac_byte : Cond.arrayClass .byte ∈ lw_tbl := List.mem_of_getElem? (i := 240) (by decide +kernel)
theorem it_X6 : Cond.instantiable RX6 8 ∈ lw_tbl := List.mem_of_getElem? (i := 27) (by decide +kernel)
theorem it_X0 : Cond.instantiable RX0 4 ∈ lw_tbl := List.mem_of_getElem? (i := 36) (by decide +kernel)
theorem it_X4 : Cond.instantiable RX4 2 ∈ lw_tbl := List.mem_of_getElem? (i := 63) (by decide +kernel)
theorem it_X3 : Cond.instantiable RX3 5 ∈ lw_tbl := List.mem_of_getElem? (i := 82) (by decide +kernel)
theorem it_X5 : Cond.instantiable RX5 2 ∈ lw_tbl := List.mem_of_getElem? (i := 112) (by decide +kernel)
theorem it_X2 : Cond.instantiable RX2 2 ∈ lw_tbl := List.mem_of_getElem? (i := 127) (by decide +kernel)
theorem kc_X6_230 : Cond.constant RX6 230 (11881375) ∈ lw_tbl := List.mem_of_getElem? (i := 290) (by decide +kernel)
theorem kc_X0_47 : Cond.constant RX0 47 (11881375) ∈ lw_tbl := List.mem_of_getElem? (i := 489) (by decide +kernel)
theorem kc_L_7 : Cond.constant RL 7 (2147483647) ∈ lw_tbl := List.mem_of_getElem? (i := 504) (by decide +kernel)
theorem kc_L_8 : Cond.constant RL 8 (790386105) ∈ lw_tbl := List.mem_of_getElem? (i := 508) (by decide +kernel)
theorem cs_iob : Cond.castable "java/lang/IndexOutOfBoundsException" "java/lang/IndexOutOfBoundsException" ∈ lw_tbl := List.mem_of_getElem? (i := 175) (by decide +kernel)
theorem cs_iae : Cond.castable "java/lang/IllegalArgumentException" "java/lang/IllegalArgumentException" ∈ lw_tbl := List.mem_of_getElem? (i := 293) (by decide +kernel)
theorem cs_ise : Cond.castable "java/lang/IllegalStateException" "java/lang/IllegalStateException" ∈ lw_tbl := List.mem_of_getElem? (i := 378) (by decide +kernel)
theorem inw_X0 : ∀ w ∈ u_ws RX0 TX0 4, w ∈ lw_tbl ∧ goodWord w = true := by decide +kernel
theorem in_X0 : ∀ w ∈ u_ws RX0 TX0 4, w ∈ jBig := fun w h => jw_in (inw_X0 w h).1 (inw_X0 w h).2
theorem inw_X2 : ∀ w ∈ u_ws RX2 TX2 2, w ∈ lw_tbl ∧ goodWord w = true := by decide +kernel
theorem in_X2 : ∀ w ∈ u_ws RX2 TX2 2, w ∈ jBig := fun w h => jw_in (inw_X2 w h).1 (inw_X2 w h).2
theorem inw_X3 : ∀ w ∈ u_ws RX3 TX3 5, w ∈ lw_tbl ∧ goodWord w = true := by decide +kernel
theorem in_X3 : ∀ w ∈ u_ws RX3 TX3 5, w ∈ jBig := fun w h => jw_in (inw_X3 w h).1 (inw_X3 w h).2
theorem inw_X4 : ∀ w ∈ u_ws RX4 TX4 2, w ∈ lw_tbl ∧ goodWord w = true := by decide +kernel
theorem in_X4 : ∀ w ∈ u_ws RX4 TX4 2, w ∈ jBig := fun w h => jw_in (inw_X4 w h).1 (inw_X4 w h).2
theorem inw_X5 : ∀ w ∈ u_ws RX5 TX5 2, w ∈ lw_tbl ∧ goodWord w = true := by decide +kernel
theorem in_X5 : ∀ w ∈ u_ws RX5 TX5 2, w ∈ jBig := fun w h => jw_in (inw_X5 w h).1 (inw_X5 w h).2
theorem inw_X6 : ∀ w ∈ u_ws RX6 TX6 8, w ∈ lw_tbl ∧ goodWord w = true := by decide +kernel
theorem in_X6 : ∀ w ∈ u_ws RX6 TX6 8, w ∈ jBig := fun w h => jw_in (inw_X6 w h).1 (inw_X6 w h).2
theorem fl_X0_9 : Cond.fieldLink RX0 9 (TX0 0).1 (TX0 0).2.1 (TX0 0).2.2.1 ∈ lw_tbl := List.mem_of_getElem? (i := 41) (by decide +kernel)
theorem gf_X0_9 {X : jX} {M : jMt} {rm : Room} {pc : Nat} {lc st : List Value} {k n : Nat} {σ : jS} {Q : jOut → jS → Prop} {i : Nat} {a0 a1 a2 a3 : Value} (hM : M.1.cls = RX0) (d : decode M.2.1 pc = .ok (.getfield 9, 3)) (he : σ.2 i = jO 0 [a0, a1, a2, a3]) (kk : J X M rm (pc + 3) lc (a0 :: st) k n σ Q) : J X M rm pc lc (.ref i :: st) k n σ Q := J.getf (T := TX0) (kf := 0) d he rfl in_X0 (by decide) (by rw [hM]; exact fl_X0_9) rfl kk
theorem pf_X0_9 {X : jX} {M : jMt} {rm : Room} {pc : Nat} {lc st : List Value} {k n : Nat} {σ : jS} {Q : jOut → jS → Prop} {i : Nat} {a0 a1 a2 a3 : Value} {x : Nat} (hM : M.1.cls = RX0) (hM2 : M.1.name = "<init>") (d : decode M.2.1 pc = .ok (.putfield 9, 3)) (he : σ.2 i = jO 0 [a0, a1, a2, a3]) (kk : J X M rm (pc + 3) lc st k n (jset σ i (jO 0 [.ref x, a1, a2, a3])) Q) : J X M rm pc lc ((.ref x) :: .ref i :: st) k n σ Q := J.putfF (T := TX0) (kf := 0) tyX0 tyX0_ok nmX0 d he rfl in_X0 (by decide) (by rw [hM]; exact fl_X0_9) rfl hM2 (by rw [hM]; rfl) rfl (Or.inr ⟨x, rfl, rfl⟩) (by simp) kk
theorem fl_X6_143 : Cond.fieldLinkNest RX6 143 (TX0 0).1 (TX0 0).2.1 (TX0 0).2.2.1 "WireBook" ∈ lw_tbl := List.mem_of_getElem? (i := 42) (by decide +kernel)
theorem gf_X6_143 {X : jX} {M : jMt} {rm : Room} {pc : Nat} {lc st : List Value} {k n : Nat} {σ : jS} {Q : jOut → jS → Prop} {i : Nat} {a0 a1 a2 a3 : Value} (hM : M.1.cls = RX6) (d : decode M.2.1 pc = .ok (.getfield 143, 3)) (he : σ.2 i = jO 0 [a0, a1, a2, a3]) (kk : J X M rm (pc + 3) lc (a0 :: st) k n σ Q) : J X M rm pc lc (.ref i :: st) k n σ Q := J.getfN (T := TX0) (kf := 0) d he rfl in_X0 (by decide) (by rw [hM]; exact fl_X6_143) rfl kk
theorem fl_X0_15 : Cond.fieldLink RX0 15 (TX0 1).1 (TX0 1).2.1 (TX0 1).2.2.1 ∈ lw_tbl := List.mem_of_getElem? (i := 43) (by decide +kernel)
theorem gf_X0_15 {X : jX} {M : jMt} {rm : Room} {pc : Nat} {lc st : List Value} {k n : Nat} {σ : jS} {Q : jOut → jS → Prop} {i : Nat} {a0 a1 a2 a3 : Value} (hM : M.1.cls = RX0) (d : decode M.2.1 pc = .ok (.getfield 15, 3)) (he : σ.2 i = jO 0 [a0, a1, a2, a3]) (kk : J X M rm (pc + 3) lc (a1 :: st) k n σ Q) : J X M rm pc lc (.ref i :: st) k n σ Q := J.getf (T := TX0) (kf := 1) d he rfl in_X0 (by decide) (by rw [hM]; exact fl_X0_15) rfl kk
theorem pf_X0_15 {X : jX} {M : jMt} {rm : Room} {pc : Nat} {lc st : List Value} {k n : Nat} {σ : jS} {Q : jOut → jS → Prop} {i : Nat} {a0 a1 a2 a3 : Value} {x : Nat} (hM : M.1.cls = RX0) (hM2 : M.1.name = "<init>") (d : decode M.2.1 pc = .ok (.putfield 15, 3)) (he : σ.2 i = jO 0 [a0, a1, a2, a3]) (kk : J X M rm (pc + 3) lc st k n (jset σ i (jO 0 [a0, .ref x, a2, a3])) Q) : J X M rm pc lc ((.ref x) :: .ref i :: st) k n σ Q := J.putfF (T := TX0) (kf := 1) tyX0 tyX0_ok nmX0 d he rfl in_X0 (by decide) (by rw [hM]; exact fl_X0_15) rfl hM2 (by rw [hM]; rfl) rfl (Or.inr ⟨x, rfl, rfl⟩) (by simp) kk
theorem fl_X2_22 : Cond.fieldLinkNest RX2 22 (TX0 1).1 (TX0 1).2.1 (TX0 1).2.2.1 "WireBook" ∈ lw_tbl := List.mem_of_getElem? (i := 44) (by decide +kernel)
theorem gf_X2_22 {X : jX} {M : jMt} {rm : Room} {pc : Nat} {lc st : List Value} {k n : Nat} {σ : jS} {Q : jOut → jS → Prop} {i : Nat} {a0 a1 a2 a3 : Value} (hM : M.1.cls = RX2) (d : decode M.2.1 pc = .ok (.getfield 22, 3)) (he : σ.2 i = jO 0 [a0, a1, a2, a3]) (kk : J X M rm (pc + 3) lc (a1 :: st) k n σ Q) : J X M rm pc lc (.ref i :: st) k n σ Q := J.getfN (T := TX0) (kf := 1) d he rfl in_X0 (by decide) (by rw [hM]; exact fl_X2_22) rfl kk
theorem fl_X6_146 : Cond.fieldLinkNest RX6 146 (TX0 1).1 (TX0 1).2.1 (TX0 1).2.2.1 "WireBook" ∈ lw_tbl := List.mem_of_getElem? (i := 45) (by decide +kernel)
theorem gf_X6_146 {X : jX} {M : jMt} {rm : Room} {pc : Nat} {lc st : List Value} {k n : Nat} {σ : jS} {Q : jOut → jS → Prop} {i : Nat} {a0 a1 a2 a3 : Value} (hM : M.1.cls = RX6) (d : decode M.2.1 pc = .ok (.getfield 146, 3)) (he : σ.2 i = jO 0 [a0, a1, a2, a3]) (kk : J X M rm (pc + 3) lc (a1 :: st) k n σ Q) : J X M rm pc lc (.ref i :: st) k n σ Q := J.getfN (T := TX0) (kf := 1) d he rfl in_X0 (by decide) (by rw [hM]; exact fl_X6_146) rfl kk
theorem fl_X0_18 : Cond.fieldLink RX0 18 (TX0 2).1 (TX0 2).2.1 (TX0 2).2.2.1 ∈ lw_tbl := List.mem_of_getElem? (i := 46) (by decide +kernel)
theorem gf_X0_18 {X : jX} {M : jMt} {rm : Room} {pc : Nat} {lc st : List Value} {k n : Nat} {σ : jS} {Q : jOut → jS → Prop} {i : Nat} {a0 a1 a2 a3 : Value} (hM : M.1.cls = RX0) (d : decode M.2.1 pc = .ok (.getfield 18, 3)) (he : σ.2 i = jO 0 [a0, a1, a2, a3]) (kk : J X M rm (pc + 3) lc (a2 :: st) k n σ Q) : J X M rm pc lc (.ref i :: st) k n σ Q := J.getf (T := TX0) (kf := 2) d he rfl in_X0 (by decide) (by rw [hM]; exact fl_X0_18) rfl kk
theorem pf_X0_18 {X : jX} {M : jMt} {rm : Room} {pc : Nat} {lc st : List Value} {k n : Nat} {σ : jS} {Q : jOut → jS → Prop} {i : Nat} {a0 a1 a2 a3 : Value} {x : Nat} (hM : M.1.cls = RX0) (hM2 : M.1.name = "<init>") (d : decode M.2.1 pc = .ok (.putfield 18, 3)) (he : σ.2 i = jO 0 [a0, a1, a2, a3]) (kk : J X M rm (pc + 3) lc st k n (jset σ i (jO 0 [a0, a1, .ref x, a3])) Q) : J X M rm pc lc ((.ref x) :: .ref i :: st) k n σ Q := J.putfF (T := TX0) (kf := 2) tyX0 tyX0_ok nmX0 d he rfl in_X0 (by decide) (by rw [hM]; exact fl_X0_18) rfl hM2 (by rw [hM]; rfl) rfl (Or.inr ⟨x, rfl, rfl⟩) (by simp) kk
theorem fl_X2_31 : Cond.fieldLinkNest RX2 31 (TX0 2).1 (TX0 2).2.1 (TX0 2).2.2.1 "WireBook" ∈ lw_tbl := List.mem_of_getElem? (i := 47) (by decide +kernel)
theorem gf_X2_31 {X : jX} {M : jMt} {rm : Room} {pc : Nat} {lc st : List Value} {k n : Nat} {σ : jS} {Q : jOut → jS → Prop} {i : Nat} {a0 a1 a2 a3 : Value} (hM : M.1.cls = RX2) (d : decode M.2.1 pc = .ok (.getfield 31, 3)) (he : σ.2 i = jO 0 [a0, a1, a2, a3]) (kk : J X M rm (pc + 3) lc (a2 :: st) k n σ Q) : J X M rm pc lc (.ref i :: st) k n σ Q := J.getfN (T := TX0) (kf := 2) d he rfl in_X0 (by decide) (by rw [hM]; exact fl_X2_31) rfl kk
theorem fl_X6_149 : Cond.fieldLinkNest RX6 149 (TX0 2).1 (TX0 2).2.1 (TX0 2).2.2.1 "WireBook" ∈ lw_tbl := List.mem_of_getElem? (i := 48) (by decide +kernel)
theorem gf_X6_149 {X : jX} {M : jMt} {rm : Room} {pc : Nat} {lc st : List Value} {k n : Nat} {σ : jS} {Q : jOut → jS → Prop} {i : Nat} {a0 a1 a2 a3 : Value} (hM : M.1.cls = RX6) (d : decode M.2.1 pc = .ok (.getfield 149, 3)) (he : σ.2 i = jO 0 [a0, a1, a2, a3]) (kk : J X M rm (pc + 3) lc (a2 :: st) k n σ Q) : J X M rm pc lc (.ref i :: st) k n σ Q := J.getfN (T := TX0) (kf := 2) d he rfl in_X0 (by decide) (by rw [hM]; exact fl_X6_149) rfl kk
theorem fl_X0_21 : Cond.fieldLink RX0 21 (TX0 3).1 (TX0 3).2.1 (TX0 3).2.2.1 ∈ lw_tbl := List.mem_of_getElem? (i := 49) (by decide +kernel)
theorem gf_X0_21 {X : jX} {M : jMt} {rm : Room} {pc : Nat} {lc st : List Value} {k n : Nat} {σ : jS} {Q : jOut → jS → Prop} {i : Nat} {a0 a1 a2 a3 : Value} (hM : M.1.cls = RX0) (d : decode M.2.1 pc = .ok (.getfield 21, 3)) (he : σ.2 i = jO 0 [a0, a1, a2, a3]) (kk : J X M rm (pc + 3) lc (a3 :: st) k n σ Q) : J X M rm pc lc (.ref i :: st) k n σ Q := J.getf (T := TX0) (kf := 3) d he rfl in_X0 (by decide) (by rw [hM]; exact fl_X0_21) rfl kk
theorem pf_X0_21 {X : jX} {M : jMt} {rm : Room} {pc : Nat} {lc st : List Value} {k n : Nat} {σ : jS} {Q : jOut → jS → Prop} {i : Nat} {a0 a1 a2 a3 : Value} {x : Int32} (hM : M.1.cls = RX0) (d : decode M.2.1 pc = .ok (.putfield 21, 3)) (he : σ.2 i = jO 0 [a0, a1, a2, a3]) (kk : J X M rm (pc + 3) lc st k n (jset σ i (jO 0 [a0, a1, a2, .int x])) Q) : J X M rm pc lc ((.int x) :: .ref i :: st) k n σ Q := J.putf (T := TX0) (kf := 3) tyX0 tyX0_ok nmX0 d he rfl in_X0 (by decide) (by rw [hM]; exact fl_X0_21) rfl rfl (Or.inl ⟨x, rfl, rfl⟩) (by simp) kk
theorem fl_X2_27 : Cond.fieldLinkNest RX2 27 (TX0 3).1 (TX0 3).2.1 (TX0 3).2.2.1 "WireBook" ∈ lw_tbl := List.mem_of_getElem? (i := 50) (by decide +kernel)
theorem gf_X2_27 {X : jX} {M : jMt} {rm : Room} {pc : Nat} {lc st : List Value} {k n : Nat} {σ : jS} {Q : jOut → jS → Prop} {i : Nat} {a0 a1 a2 a3 : Value} (hM : M.1.cls = RX2) (d : decode M.2.1 pc = .ok (.getfield 27, 3)) (he : σ.2 i = jO 0 [a0, a1, a2, a3]) (kk : J X M rm (pc + 3) lc (a3 :: st) k n σ Q) : J X M rm pc lc (.ref i :: st) k n σ Q := J.getfN (T := TX0) (kf := 3) d he rfl in_X0 (by decide) (by rw [hM]; exact fl_X2_27) rfl kk
theorem fl_X6_135 : Cond.fieldLinkNest RX6 135 (TX0 3).1 (TX0 3).2.1 (TX0 3).2.2.1 "WireBook" ∈ lw_tbl := List.mem_of_getElem? (i := 51) (by decide +kernel)
theorem gf_X6_135 {X : jX} {M : jMt} {rm : Room} {pc : Nat} {lc st : List Value} {k n : Nat} {σ : jS} {Q : jOut → jS → Prop} {i : Nat} {a0 a1 a2 a3 : Value} (hM : M.1.cls = RX6) (d : decode M.2.1 pc = .ok (.getfield 135, 3)) (he : σ.2 i = jO 0 [a0, a1, a2, a3]) (kk : J X M rm (pc + 3) lc (a3 :: st) k n σ Q) : J X M rm pc lc (.ref i :: st) k n σ Q := J.getfN (T := TX0) (kf := 3) d he rfl in_X0 (by decide) (by rw [hM]; exact fl_X6_135) rfl kk
theorem fl_X4_9 : Cond.fieldLink RX4 9 (TX4 0).1 (TX4 0).2.1 (TX4 0).2.2.1 ∈ lw_tbl := List.mem_of_getElem? (i := 68) (by decide +kernel)
theorem gf_X4_9 {X : jX} {M : jMt} {rm : Room} {pc : Nat} {lc st : List Value} {k n : Nat} {σ : jS} {Q : jOut → jS → Prop} {i : Nat} {a0 a1 : Value} (hM : M.1.cls = RX4) (d : decode M.2.1 pc = .ok (.getfield 9, 3)) (he : σ.2 i = jO 3 [a0, a1]) (kk : J X M rm (pc + 3) lc (a0 :: st) k n σ Q) : J X M rm pc lc (.ref i :: st) k n σ Q := J.getf (T := TX4) (kf := 0) d he rfl in_X4 (by decide) (by rw [hM]; exact fl_X4_9) rfl kk
theorem pf_X4_9 {X : jX} {M : jMt} {rm : Room} {pc : Nat} {lc st : List Value} {k n : Nat} {σ : jS} {Q : jOut → jS → Prop} {i : Nat} {a0 a1 : Value} {x : Nat} (hM : M.1.cls = RX4) (hM2 : M.1.name = "<init>") (d : decode M.2.1 pc = .ok (.putfield 9, 3)) (he : σ.2 i = jO 3 [a0, a1]) (kk : J X M rm (pc + 3) lc st k n (jset σ i (jO 3 [.ref x, a1])) Q) : J X M rm pc lc ((.ref x) :: .ref i :: st) k n σ Q := J.putfF (T := TX4) (kf := 0) tyX4 tyX4_ok nmX4 d he rfl in_X4 (by decide) (by rw [hM]; exact fl_X4_9) rfl hM2 (by rw [hM]; rfl) rfl (Or.inr ⟨x, rfl, rfl⟩) (by simp) kk
theorem fl_X3_40 : Cond.fieldLinkNest RX3 40 (TX4 0).1 (TX4 0).2.1 (TX4 0).2.2.1 "WireBook" ∈ lw_tbl := List.mem_of_getElem? (i := 69) (by decide +kernel)
theorem gf_X3_40 {X : jX} {M : jMt} {rm : Room} {pc : Nat} {lc st : List Value} {k n : Nat} {σ : jS} {Q : jOut → jS → Prop} {i : Nat} {a0 a1 : Value} (hM : M.1.cls = RX3) (d : decode M.2.1 pc = .ok (.getfield 40, 3)) (he : σ.2 i = jO 3 [a0, a1]) (kk : J X M rm (pc + 3) lc (a0 :: st) k n σ Q) : J X M rm pc lc (.ref i :: st) k n σ Q := J.getfN (T := TX4) (kf := 0) d he rfl in_X4 (by decide) (by rw [hM]; exact fl_X3_40) rfl kk
theorem fl_X0_28 : Cond.fieldLinkNest RX0 28 (TX4 0).1 (TX4 0).2.1 (TX4 0).2.2.1 "WireBook" ∈ lw_tbl := List.mem_of_getElem? (i := 70) (by decide +kernel)
theorem gf_X0_28 {X : jX} {M : jMt} {rm : Room} {pc : Nat} {lc st : List Value} {k n : Nat} {σ : jS} {Q : jOut → jS → Prop} {i : Nat} {a0 a1 : Value} (hM : M.1.cls = RX0) (d : decode M.2.1 pc = .ok (.getfield 28, 3)) (he : σ.2 i = jO 3 [a0, a1]) (kk : J X M rm (pc + 3) lc (a0 :: st) k n σ Q) : J X M rm pc lc (.ref i :: st) k n σ Q := J.getfN (T := TX4) (kf := 0) d he rfl in_X4 (by decide) (by rw [hM]; exact fl_X0_28) rfl kk
theorem fl_X6_79 : Cond.fieldLinkNest RX6 79 (TX4 0).1 (TX4 0).2.1 (TX4 0).2.2.1 "WireBook" ∈ lw_tbl := List.mem_of_getElem? (i := 71) (by decide +kernel)
theorem gf_X6_79 {X : jX} {M : jMt} {rm : Room} {pc : Nat} {lc st : List Value} {k n : Nat} {σ : jS} {Q : jOut → jS → Prop} {i : Nat} {a0 a1 : Value} (hM : M.1.cls = RX6) (d : decode M.2.1 pc = .ok (.getfield 79, 3)) (he : σ.2 i = jO 3 [a0, a1]) (kk : J X M rm (pc + 3) lc (a0 :: st) k n σ Q) : J X M rm pc lc (.ref i :: st) k n σ Q := J.getfN (T := TX4) (kf := 0) d he rfl in_X4 (by decide) (by rw [hM]; exact fl_X6_79) rfl kk
theorem fl_X4_15 : Cond.fieldLink RX4 15 (TX4 1).1 (TX4 1).2.1 (TX4 1).2.2.1 ∈ lw_tbl := List.mem_of_getElem? (i := 72) (by decide +kernel)
theorem gf_X4_15 {X : jX} {M : jMt} {rm : Room} {pc : Nat} {lc st : List Value} {k n : Nat} {σ : jS} {Q : jOut → jS → Prop} {i : Nat} {a0 a1 : Value} (hM : M.1.cls = RX4) (d : decode M.2.1 pc = .ok (.getfield 15, 3)) (he : σ.2 i = jO 3 [a0, a1]) (kk : J X M rm (pc + 3) lc (a1 :: st) k n σ Q) : J X M rm pc lc (.ref i :: st) k n σ Q := J.getf (T := TX4) (kf := 1) d he rfl in_X4 (by decide) (by rw [hM]; exact fl_X4_15) rfl kk
theorem pf_X4_15 {X : jX} {M : jMt} {rm : Room} {pc : Nat} {lc st : List Value} {k n : Nat} {σ : jS} {Q : jOut → jS → Prop} {i : Nat} {a0 a1 : Value} {x : Int32} (hM : M.1.cls = RX4) (d : decode M.2.1 pc = .ok (.putfield 15, 3)) (he : σ.2 i = jO 3 [a0, a1]) (kk : J X M rm (pc + 3) lc st k n (jset σ i (jO 3 [a0, .int x])) Q) : J X M rm pc lc ((.int x) :: .ref i :: st) k n σ Q := J.putf (T := TX4) (kf := 1) tyX4 tyX4_ok nmX4 d he rfl in_X4 (by decide) (by rw [hM]; exact fl_X4_15) rfl rfl (Or.inl ⟨x, rfl, rfl⟩) (by simp) kk
theorem fl_X6_59 : Cond.fieldLinkNest RX6 59 (TX4 1).1 (TX4 1).2.1 (TX4 1).2.2.1 "WireBook" ∈ lw_tbl := List.mem_of_getElem? (i := 73) (by decide +kernel)
theorem gf_X6_59 {X : jX} {M : jMt} {rm : Room} {pc : Nat} {lc st : List Value} {k n : Nat} {σ : jS} {Q : jOut → jS → Prop} {i : Nat} {a0 a1 : Value} (hM : M.1.cls = RX6) (d : decode M.2.1 pc = .ok (.getfield 59, 3)) (he : σ.2 i = jO 3 [a0, a1]) (kk : J X M rm (pc + 3) lc (a1 :: st) k n σ Q) : J X M rm pc lc (.ref i :: st) k n σ Q := J.getfN (T := TX4) (kf := 1) d he rfl in_X4 (by decide) (by rw [hM]; exact fl_X6_59) rfl kk
theorem fl_X0_25 : Cond.fieldLinkNest RX0 25 (TX4 1).1 (TX4 1).2.1 (TX4 1).2.2.1 "WireBook" ∈ lw_tbl := List.mem_of_getElem? (i := 74) (by decide +kernel)
theorem gf_X0_25 {X : jX} {M : jMt} {rm : Room} {pc : Nat} {lc st : List Value} {k n : Nat} {σ : jS} {Q : jOut → jS → Prop} {i : Nat} {a0 a1 : Value} (hM : M.1.cls = RX0) (d : decode M.2.1 pc = .ok (.getfield 25, 3)) (he : σ.2 i = jO 3 [a0, a1]) (kk : J X M rm (pc + 3) lc (a1 :: st) k n σ Q) : J X M rm pc lc (.ref i :: st) k n σ Q := J.getfN (T := TX4) (kf := 1) d he rfl in_X4 (by decide) (by rw [hM]; exact fl_X0_25) rfl kk
theorem fl_X3_43 : Cond.fieldLinkNest RX3 43 (TX4 1).1 (TX4 1).2.1 (TX4 1).2.2.1 "WireBook" ∈ lw_tbl := List.mem_of_getElem? (i := 75) (by decide +kernel)
theorem gf_X3_43 {X : jX} {M : jMt} {rm : Room} {pc : Nat} {lc st : List Value} {k n : Nat} {σ : jS} {Q : jOut → jS → Prop} {i : Nat} {a0 a1 : Value} (hM : M.1.cls = RX3) (d : decode M.2.1 pc = .ok (.getfield 43, 3)) (he : σ.2 i = jO 3 [a0, a1]) (kk : J X M rm (pc + 3) lc (a1 :: st) k n σ Q) : J X M rm pc lc (.ref i :: st) k n σ Q := J.getfN (T := TX4) (kf := 1) d he rfl in_X4 (by decide) (by rw [hM]; exact fl_X3_43) rfl kk
theorem fl_X3_11 : Cond.fieldLink RX3 11 (TX3 0).1 (TX3 0).2.1 (TX3 0).2.2.1 ∈ lw_tbl := List.mem_of_getElem? (i := 92) (by decide +kernel)
theorem gf_X3_11 {X : jX} {M : jMt} {rm : Room} {pc : Nat} {lc st : List Value} {k n : Nat} {σ : jS} {Q : jOut → jS → Prop} {i : Nat} {a0 a1 a2 a3 a4 : Value} (hM : M.1.cls = RX3) (d : decode M.2.1 pc = .ok (.getfield 11, 3)) (he : σ.2 i = jO 2 [a0, a1, a2, a3, a4]) (kk : J X M rm (pc + 3) lc (a0 :: st) k n σ Q) : J X M rm pc lc (.ref i :: st) k n σ Q := J.getf (T := TX3) (kf := 0) d he rfl in_X3 (by decide) (by rw [hM]; exact fl_X3_11) rfl kk
theorem pf_X3_11 {X : jX} {M : jMt} {rm : Room} {pc : Nat} {lc st : List Value} {k n : Nat} {σ : jS} {Q : jOut → jS → Prop} {i : Nat} {a0 a1 a2 a3 a4 : Value} {x : Nat} (hM : M.1.cls = RX3) (hM2 : M.1.name = "<init>") (d : decode M.2.1 pc = .ok (.putfield 11, 3)) (he : σ.2 i = jO 2 [a0, a1, a2, a3, a4]) (kk : J X M rm (pc + 3) lc st k n (jset σ i (jO 2 [.ref x, a1, a2, a3, a4])) Q) : J X M rm pc lc ((.ref x) :: .ref i :: st) k n σ Q := J.putfF (T := TX3) (kf := 0) tyX3 tyX3_ok nmX3 d he rfl in_X3 (by decide) (by rw [hM]; exact fl_X3_11) rfl hM2 (by rw [hM]; rfl) rfl (Or.inr ⟨x, rfl, rfl⟩) (by simp) kk
theorem fl_X6_93 : Cond.fieldLinkNest RX6 93 (TX3 0).1 (TX3 0).2.1 (TX3 0).2.2.1 "WireBook" ∈ lw_tbl := List.mem_of_getElem? (i := 93) (by decide +kernel)
theorem gf_X6_93 {X : jX} {M : jMt} {rm : Room} {pc : Nat} {lc st : List Value} {k n : Nat} {σ : jS} {Q : jOut → jS → Prop} {i : Nat} {a0 a1 a2 a3 a4 : Value} (hM : M.1.cls = RX6) (d : decode M.2.1 pc = .ok (.getfield 93, 3)) (he : σ.2 i = jO 2 [a0, a1, a2, a3, a4]) (kk : J X M rm (pc + 3) lc (a0 :: st) k n σ Q) : J X M rm pc lc (.ref i :: st) k n σ Q := J.getfN (T := TX3) (kf := 0) d he rfl in_X3 (by decide) (by rw [hM]; exact fl_X6_93) rfl kk
theorem fl_X3_15 : Cond.fieldLink RX3 15 (TX3 1).1 (TX3 1).2.1 (TX3 1).2.2.1 ∈ lw_tbl := List.mem_of_getElem? (i := 94) (by decide +kernel)
theorem gf_X3_15 {X : jX} {M : jMt} {rm : Room} {pc : Nat} {lc st : List Value} {k n : Nat} {σ : jS} {Q : jOut → jS → Prop} {i : Nat} {a0 a1 a2 a3 a4 : Value} (hM : M.1.cls = RX3) (d : decode M.2.1 pc = .ok (.getfield 15, 3)) (he : σ.2 i = jO 2 [a0, a1, a2, a3, a4]) (kk : J X M rm (pc + 3) lc (a1 :: st) k n σ Q) : J X M rm pc lc (.ref i :: st) k n σ Q := J.getf (T := TX3) (kf := 1) d he rfl in_X3 (by decide) (by rw [hM]; exact fl_X3_15) rfl kk
theorem pf_X3_15 {X : jX} {M : jMt} {rm : Room} {pc : Nat} {lc st : List Value} {k n : Nat} {σ : jS} {Q : jOut → jS → Prop} {i : Nat} {a0 a1 a2 a3 a4 : Value} {x : Nat} (hM : M.1.cls = RX3) (hM2 : M.1.name = "<init>") (d : decode M.2.1 pc = .ok (.putfield 15, 3)) (he : σ.2 i = jO 2 [a0, a1, a2, a3, a4]) (kk : J X M rm (pc + 3) lc st k n (jset σ i (jO 2 [a0, .ref x, a2, a3, a4])) Q) : J X M rm pc lc ((.ref x) :: .ref i :: st) k n σ Q := J.putfF (T := TX3) (kf := 1) tyX3 tyX3_ok nmX3 d he rfl in_X3 (by decide) (by rw [hM]; exact fl_X3_15) rfl hM2 (by rw [hM]; rfl) rfl (Or.inr ⟨x, rfl, rfl⟩) (by simp) kk
theorem fl_X6_98 : Cond.fieldLinkNest RX6 98 (TX3 1).1 (TX3 1).2.1 (TX3 1).2.2.1 "WireBook" ∈ lw_tbl := List.mem_of_getElem? (i := 95) (by decide +kernel)
theorem gf_X6_98 {X : jX} {M : jMt} {rm : Room} {pc : Nat} {lc st : List Value} {k n : Nat} {σ : jS} {Q : jOut → jS → Prop} {i : Nat} {a0 a1 a2 a3 a4 : Value} (hM : M.1.cls = RX6) (d : decode M.2.1 pc = .ok (.getfield 98, 3)) (he : σ.2 i = jO 2 [a0, a1, a2, a3, a4]) (kk : J X M rm (pc + 3) lc (a1 :: st) k n σ Q) : J X M rm pc lc (.ref i :: st) k n σ Q := J.getfN (T := TX3) (kf := 1) d he rfl in_X3 (by decide) (by rw [hM]; exact fl_X6_98) rfl kk
theorem fl_X3_20 : Cond.fieldLink RX3 20 (TX3 2).1 (TX3 2).2.1 (TX3 2).2.2.1 ∈ lw_tbl := List.mem_of_getElem? (i := 96) (by decide +kernel)
theorem gf_X3_20 {X : jX} {M : jMt} {rm : Room} {pc : Nat} {lc st : List Value} {k n : Nat} {σ : jS} {Q : jOut → jS → Prop} {i : Nat} {a0 a1 a2 a3 a4 : Value} (hM : M.1.cls = RX3) (d : decode M.2.1 pc = .ok (.getfield 20, 3)) (he : σ.2 i = jO 2 [a0, a1, a2, a3, a4]) (kk : J X M rm (pc + 3) lc (a2 :: st) k n σ Q) : J X M rm pc lc (.ref i :: st) k n σ Q := J.getf (T := TX3) (kf := 2) d he rfl in_X3 (by decide) (by rw [hM]; exact fl_X3_20) rfl kk
theorem pf_X3_20 {X : jX} {M : jMt} {rm : Room} {pc : Nat} {lc st : List Value} {k n : Nat} {σ : jS} {Q : jOut → jS → Prop} {i : Nat} {a0 a1 a2 a3 a4 : Value} {x : Nat} (hM : M.1.cls = RX3) (hM2 : M.1.name = "<init>") (d : decode M.2.1 pc = .ok (.putfield 20, 3)) (he : σ.2 i = jO 2 [a0, a1, a2, a3, a4]) (kk : J X M rm (pc + 3) lc st k n (jset σ i (jO 2 [a0, a1, .ref x, a3, a4])) Q) : J X M rm pc lc ((.ref x) :: .ref i :: st) k n σ Q := J.putfF (T := TX3) (kf := 2) tyX3 tyX3_ok nmX3 d he rfl in_X3 (by decide) (by rw [hM]; exact fl_X3_20) rfl hM2 (by rw [hM]; rfl) rfl (Or.inr ⟨x, rfl, rfl⟩) (by simp) kk
theorem fl_X3_23 : Cond.fieldLink RX3 23 (TX3 3).1 (TX3 3).2.1 (TX3 3).2.2.1 ∈ lw_tbl := List.mem_of_getElem? (i := 97) (by decide +kernel)
theorem gf_X3_23 {X : jX} {M : jMt} {rm : Room} {pc : Nat} {lc st : List Value} {k n : Nat} {σ : jS} {Q : jOut → jS → Prop} {i : Nat} {a0 a1 a2 a3 a4 : Value} (hM : M.1.cls = RX3) (d : decode M.2.1 pc = .ok (.getfield 23, 3)) (he : σ.2 i = jO 2 [a0, a1, a2, a3, a4]) (kk : J X M rm (pc + 3) lc (a3 :: st) k n σ Q) : J X M rm pc lc (.ref i :: st) k n σ Q := J.getf (T := TX3) (kf := 3) d he rfl in_X3 (by decide) (by rw [hM]; exact fl_X3_23) rfl kk
theorem pf_X3_23 {X : jX} {M : jMt} {rm : Room} {pc : Nat} {lc st : List Value} {k n : Nat} {σ : jS} {Q : jOut → jS → Prop} {i : Nat} {a0 a1 a2 a3 a4 : Value} {x : Nat} (hM : M.1.cls = RX3) (hM2 : M.1.name = "<init>") (d : decode M.2.1 pc = .ok (.putfield 23, 3)) (he : σ.2 i = jO 2 [a0, a1, a2, a3, a4]) (kk : J X M rm (pc + 3) lc st k n (jset σ i (jO 2 [a0, a1, a2, .ref x, a4])) Q) : J X M rm pc lc ((.ref x) :: .ref i :: st) k n σ Q := J.putfF (T := TX3) (kf := 3) tyX3 tyX3_ok nmX3 d he rfl in_X3 (by decide) (by rw [hM]; exact fl_X3_23) rfl hM2 (by rw [hM]; rfl) rfl (Or.inr ⟨x, rfl, rfl⟩) (by simp) kk
theorem fl_X3_32 : Cond.fieldLink RX3 32 (TX3 4).1 (TX3 4).2.1 (TX3 4).2.2.1 ∈ lw_tbl := List.mem_of_getElem? (i := 98) (by decide +kernel)
theorem gf_X3_32 {X : jX} {M : jMt} {rm : Room} {pc : Nat} {lc st : List Value} {k n : Nat} {σ : jS} {Q : jOut → jS → Prop} {i : Nat} {a0 a1 a2 a3 a4 : Value} (hM : M.1.cls = RX3) (d : decode M.2.1 pc = .ok (.getfield 32, 3)) (he : σ.2 i = jO 2 [a0, a1, a2, a3, a4]) (kk : J X M rm (pc + 3) lc (a4 :: st) k n σ Q) : J X M rm pc lc (.ref i :: st) k n σ Q := J.getf (T := TX3) (kf := 4) d he rfl in_X3 (by decide) (by rw [hM]; exact fl_X3_32) rfl kk
theorem pf_X3_32 {X : jX} {M : jMt} {rm : Room} {pc : Nat} {lc st : List Value} {k n : Nat} {σ : jS} {Q : jOut → jS → Prop} {i : Nat} {a0 a1 a2 a3 a4 : Value} {x : Int32} (hM : M.1.cls = RX3) (d : decode M.2.1 pc = .ok (.putfield 32, 3)) (he : σ.2 i = jO 2 [a0, a1, a2, a3, a4]) (kk : J X M rm (pc + 3) lc st k n (jset σ i (jO 2 [a0, a1, a2, a3, .int x])) Q) : J X M rm pc lc ((.int x) :: .ref i :: st) k n σ Q := J.putf (T := TX3) (kf := 4) tyX3 tyX3_ok nmX3 d he rfl in_X3 (by decide) (by rw [hM]; exact fl_X3_32) rfl rfl (Or.inl ⟨x, rfl, rfl⟩) (by simp) kk
theorem fl_X6_84 : Cond.fieldLinkNest RX6 84 (TX3 4).1 (TX3 4).2.1 (TX3 4).2.2.1 "WireBook" ∈ lw_tbl := List.mem_of_getElem? (i := 99) (by decide +kernel)
theorem gf_X6_84 {X : jX} {M : jMt} {rm : Room} {pc : Nat} {lc st : List Value} {k n : Nat} {σ : jS} {Q : jOut → jS → Prop} {i : Nat} {a0 a1 a2 a3 a4 : Value} (hM : M.1.cls = RX6) (d : decode M.2.1 pc = .ok (.getfield 84, 3)) (he : σ.2 i = jO 2 [a0, a1, a2, a3, a4]) (kk : J X M rm (pc + 3) lc (a4 :: st) k n σ Q) : J X M rm pc lc (.ref i :: st) k n σ Q := J.getfN (T := TX3) (kf := 4) d he rfl in_X3 (by decide) (by rw [hM]; exact fl_X6_84) rfl kk
theorem fl_X5_9 : Cond.fieldLink RX5 9 (TX5 0).1 (TX5 0).2.1 (TX5 0).2.2.1 ∈ lw_tbl := List.mem_of_getElem? (i := 117) (by decide +kernel)
theorem gf_X5_9 {X : jX} {M : jMt} {rm : Room} {pc : Nat} {lc st : List Value} {k n : Nat} {σ : jS} {Q : jOut → jS → Prop} {i : Nat} {a0 a1 : Value} (hM : M.1.cls = RX5) (d : decode M.2.1 pc = .ok (.getfield 9, 3)) (he : σ.2 i = jO 4 [a0, a1]) (kk : J X M rm (pc + 3) lc (a0 :: st) k n σ Q) : J X M rm pc lc (.ref i :: st) k n σ Q := J.getf (T := TX5) (kf := 0) d he rfl in_X5 (by decide) (by rw [hM]; exact fl_X5_9) rfl kk
theorem pf_X5_9 {X : jX} {M : jMt} {rm : Room} {pc : Nat} {lc st : List Value} {k n : Nat} {σ : jS} {Q : jOut → jS → Prop} {i : Nat} {a0 a1 : Value} {x : Nat} (hM : M.1.cls = RX5) (hM2 : M.1.name = "<init>") (d : decode M.2.1 pc = .ok (.putfield 9, 3)) (he : σ.2 i = jO 4 [a0, a1]) (kk : J X M rm (pc + 3) lc st k n (jset σ i (jO 4 [.ref x, a1])) Q) : J X M rm pc lc ((.ref x) :: .ref i :: st) k n σ Q := J.putfF (T := TX5) (kf := 0) tyX5 tyX5_ok nmX5 d he rfl in_X5 (by decide) (by rw [hM]; exact fl_X5_9) rfl hM2 (by rw [hM]; rfl) rfl (Or.inr ⟨x, rfl, rfl⟩) (by simp) kk
theorem fl_X6_174 : Cond.fieldLinkNest RX6 174 (TX5 0).1 (TX5 0).2.1 (TX5 0).2.2.1 "WireBook" ∈ lw_tbl := List.mem_of_getElem? (i := 118) (by decide +kernel)
theorem gf_X6_174 {X : jX} {M : jMt} {rm : Room} {pc : Nat} {lc st : List Value} {k n : Nat} {σ : jS} {Q : jOut → jS → Prop} {i : Nat} {a0 a1 : Value} (hM : M.1.cls = RX6) (d : decode M.2.1 pc = .ok (.getfield 174, 3)) (he : σ.2 i = jO 4 [a0, a1]) (kk : J X M rm (pc + 3) lc (a0 :: st) k n σ Q) : J X M rm pc lc (.ref i :: st) k n σ Q := J.getfN (T := TX5) (kf := 0) d he rfl in_X5 (by decide) (by rw [hM]; exact fl_X6_174) rfl kk
theorem fl_X5_15 : Cond.fieldLink RX5 15 (TX5 1).1 (TX5 1).2.1 (TX5 1).2.2.1 ∈ lw_tbl := List.mem_of_getElem? (i := 119) (by decide +kernel)
theorem gf_X5_15 {X : jX} {M : jMt} {rm : Room} {pc : Nat} {lc st : List Value} {k n : Nat} {σ : jS} {Q : jOut → jS → Prop} {i : Nat} {a0 a1 : Value} (hM : M.1.cls = RX5) (d : decode M.2.1 pc = .ok (.getfield 15, 3)) (he : σ.2 i = jO 4 [a0, a1]) (kk : J X M rm (pc + 3) lc (a1 :: st) k n σ Q) : J X M rm pc lc (.ref i :: st) k n σ Q := J.getf (T := TX5) (kf := 1) d he rfl in_X5 (by decide) (by rw [hM]; exact fl_X5_15) rfl kk
theorem pf_X5_15 {X : jX} {M : jMt} {rm : Room} {pc : Nat} {lc st : List Value} {k n : Nat} {σ : jS} {Q : jOut → jS → Prop} {i : Nat} {a0 a1 : Value} {x : Int32} (hM : M.1.cls = RX5) (d : decode M.2.1 pc = .ok (.putfield 15, 3)) (he : σ.2 i = jO 4 [a0, a1]) (kk : J X M rm (pc + 3) lc st k n (jset σ i (jO 4 [a0, .int x])) Q) : J X M rm pc lc ((.int x) :: .ref i :: st) k n σ Q := J.putf (T := TX5) (kf := 1) tyX5 tyX5_ok nmX5 d he rfl in_X5 (by decide) (by rw [hM]; exact fl_X5_15) rfl rfl (Or.inl ⟨x, rfl, rfl⟩) (by simp) kk
theorem fl_X6_170 : Cond.fieldLinkNest RX6 170 (TX5 1).1 (TX5 1).2.1 (TX5 1).2.2.1 "WireBook" ∈ lw_tbl := List.mem_of_getElem? (i := 120) (by decide +kernel)
theorem gf_X6_170 {X : jX} {M : jMt} {rm : Room} {pc : Nat} {lc st : List Value} {k n : Nat} {σ : jS} {Q : jOut → jS → Prop} {i : Nat} {a0 a1 : Value} (hM : M.1.cls = RX6) (d : decode M.2.1 pc = .ok (.getfield 170, 3)) (he : σ.2 i = jO 4 [a0, a1]) (kk : J X M rm (pc + 3) lc (a1 :: st) k n σ Q) : J X M rm pc lc (.ref i :: st) k n σ Q := J.getfN (T := TX5) (kf := 1) d he rfl in_X5 (by decide) (by rw [hM]; exact fl_X6_170) rfl kk
theorem fl_X2_9 : Cond.fieldLink RX2 9 (TX2 0).1 (TX2 0).2.1 (TX2 0).2.2.1 ∈ lw_tbl := List.mem_of_getElem? (i := 132) (by decide +kernel)
theorem gf_X2_9 {X : jX} {M : jMt} {rm : Room} {pc : Nat} {lc st : List Value} {k n : Nat} {σ : jS} {Q : jOut → jS → Prop} {i : Nat} {a0 a1 : Value} (hM : M.1.cls = RX2) (d : decode M.2.1 pc = .ok (.getfield 9, 3)) (he : σ.2 i = jO 1 [a0, a1]) (kk : J X M rm (pc + 3) lc (a0 :: st) k n σ Q) : J X M rm pc lc (.ref i :: st) k n σ Q := J.getf (T := TX2) (kf := 0) d he rfl in_X2 (by decide) (by rw [hM]; exact fl_X2_9) rfl kk
theorem pf_X2_9 {X : jX} {M : jMt} {rm : Room} {pc : Nat} {lc st : List Value} {k n : Nat} {σ : jS} {Q : jOut → jS → Prop} {i : Nat} {a0 a1 : Value} {x : Nat} (hM : M.1.cls = RX2) (hM2 : M.1.name = "<init>") (d : decode M.2.1 pc = .ok (.putfield 9, 3)) (he : σ.2 i = jO 1 [a0, a1]) (kk : J X M rm (pc + 3) lc st k n (jset σ i (jO 1 [.ref x, a1])) Q) : J X M rm pc lc ((.ref x) :: .ref i :: st) k n σ Q := J.putfF (T := TX2) (kf := 0) tyX2 tyX2_ok nmX2 d he rfl in_X2 (by decide) (by rw [hM]; exact fl_X2_9) rfl hM2 (by rw [hM]; rfl) rfl (Or.inr ⟨x, rfl, rfl⟩) (by simp) kk
theorem fl_X2_15 : Cond.fieldLink RX2 15 (TX2 1).1 (TX2 1).2.1 (TX2 1).2.2.1 ∈ lw_tbl := List.mem_of_getElem? (i := 133) (by decide +kernel)
theorem gf_X2_15 {X : jX} {M : jMt} {rm : Room} {pc : Nat} {lc st : List Value} {k n : Nat} {σ : jS} {Q : jOut → jS → Prop} {i : Nat} {a0 a1 : Value} (hM : M.1.cls = RX2) (d : decode M.2.1 pc = .ok (.getfield 15, 3)) (he : σ.2 i = jO 1 [a0, a1]) (kk : J X M rm (pc + 3) lc (a1 :: st) k n σ Q) : J X M rm pc lc (.ref i :: st) k n σ Q := J.getf (T := TX2) (kf := 1) d he rfl in_X2 (by decide) (by rw [hM]; exact fl_X2_15) rfl kk
theorem pf_X2_15 {X : jX} {M : jMt} {rm : Room} {pc : Nat} {lc st : List Value} {k n : Nat} {σ : jS} {Q : jOut → jS → Prop} {i : Nat} {a0 a1 : Value} {x : Nat} (hM : M.1.cls = RX2) (hM2 : M.1.name = "<init>") (d : decode M.2.1 pc = .ok (.putfield 15, 3)) (he : σ.2 i = jO 1 [a0, a1]) (kk : J X M rm (pc + 3) lc st k n (jset σ i (jO 1 [a0, .ref x])) Q) : J X M rm pc lc ((.ref x) :: .ref i :: st) k n σ Q := J.putfF (T := TX2) (kf := 1) tyX2 tyX2_ok nmX2 d he rfl in_X2 (by decide) (by rw [hM]; exact fl_X2_15) rfl hM2 (by rw [hM]; rfl) rfl (Or.inr ⟨x, rfl, rfl⟩) (by simp) kk
theorem fl_X6_163 : Cond.fieldLinkNest RX6 163 (TX2 1).1 (TX2 1).2.1 (TX2 1).2.2.1 "WireBook" ∈ lw_tbl := List.mem_of_getElem? (i := 134) (by decide +kernel)
theorem gf_X6_163 {X : jX} {M : jMt} {rm : Room} {pc : Nat} {lc st : List Value} {k n : Nat} {σ : jS} {Q : jOut → jS → Prop} {i : Nat} {a0 a1 : Value} (hM : M.1.cls = RX6) (d : decode M.2.1 pc = .ok (.getfield 163, 3)) (he : σ.2 i = jO 1 [a0, a1]) (kk : J X M rm (pc + 3) lc (a1 :: st) k n σ Q) : J X M rm pc lc (.ref i :: st) k n σ Q := J.getfN (T := TX2) (kf := 1) d he rfl in_X2 (by decide) (by rw [hM]; exact fl_X6_163) rfl kk
theorem fl_X6_11 : Cond.fieldLink RX6 11 (TX6 0).1 (TX6 0).2.1 (TX6 0).2.2.1 ∈ lw_tbl := List.mem_of_getElem? (i := 140) (by decide +kernel)
theorem gf_X6_11 {X : jX} {M : jMt} {rm : Room} {pc : Nat} {lc st : List Value} {k n : Nat} {σ : jS} {Q : jOut → jS → Prop} {i : Nat} {a0 a1 a2 a3 a4 a5 a6 a7 : Value} (hM : M.1.cls = RX6) (d : decode M.2.1 pc = .ok (.getfield 11, 3)) (he : σ.2 i = jO 5 [a0, a1, a2, a3, a4, a5, a6, a7]) (kk : J X M rm (pc + 3) lc (a0 :: st) k n σ Q) : J X M rm pc lc (.ref i :: st) k n σ Q := J.getf (T := TX6) (kf := 0) d he rfl in_X6 (by decide) (by rw [hM]; exact fl_X6_11) rfl kk
theorem pf_X6_11 {X : jX} {M : jMt} {rm : Room} {pc : Nat} {lc st : List Value} {k n : Nat} {σ : jS} {Q : jOut → jS → Prop} {i : Nat} {a0 a1 a2 a3 a4 a5 a6 a7 : Value} {x : Nat} (hM : M.1.cls = RX6) (hM2 : M.1.name = "<init>") (d : decode M.2.1 pc = .ok (.putfield 11, 3)) (he : σ.2 i = jO 5 [a0, a1, a2, a3, a4, a5, a6, a7]) (kk : J X M rm (pc + 3) lc st k n (jset σ i (jO 5 [.ref x, a1, a2, a3, a4, a5, a6, a7])) Q) : J X M rm pc lc ((.ref x) :: .ref i :: st) k n σ Q := J.putfF (T := TX6) (kf := 0) tyX6 tyX6_ok nmX6 d he rfl in_X6 (by decide) (by rw [hM]; exact fl_X6_11) rfl hM2 (by rw [hM]; rfl) rfl (Or.inr ⟨x, rfl, rfl⟩) (by simp) kk
theorem fl_X6_19 : Cond.fieldLink RX6 19 (TX6 1).1 (TX6 1).2.1 (TX6 1).2.2.1 ∈ lw_tbl := List.mem_of_getElem? (i := 141) (by decide +kernel)
theorem gf_X6_19 {X : jX} {M : jMt} {rm : Room} {pc : Nat} {lc st : List Value} {k n : Nat} {σ : jS} {Q : jOut → jS → Prop} {i : Nat} {a0 a1 a2 a3 a4 a5 a6 a7 : Value} (hM : M.1.cls = RX6) (d : decode M.2.1 pc = .ok (.getfield 19, 3)) (he : σ.2 i = jO 5 [a0, a1, a2, a3, a4, a5, a6, a7]) (kk : J X M rm (pc + 3) lc (a1 :: st) k n σ Q) : J X M rm pc lc (.ref i :: st) k n σ Q := J.getf (T := TX6) (kf := 1) d he rfl in_X6 (by decide) (by rw [hM]; exact fl_X6_19) rfl kk
theorem pf_X6_19 {X : jX} {M : jMt} {rm : Room} {pc : Nat} {lc st : List Value} {k n : Nat} {σ : jS} {Q : jOut → jS → Prop} {i : Nat} {a0 a1 a2 a3 a4 a5 a6 a7 : Value} {x : Nat} (hM : M.1.cls = RX6) (hM2 : M.1.name = "<init>") (d : decode M.2.1 pc = .ok (.putfield 19, 3)) (he : σ.2 i = jO 5 [a0, a1, a2, a3, a4, a5, a6, a7]) (kk : J X M rm (pc + 3) lc st k n (jset σ i (jO 5 [a0, .ref x, a2, a3, a4, a5, a6, a7])) Q) : J X M rm pc lc ((.ref x) :: .ref i :: st) k n σ Q := J.putfF (T := TX6) (kf := 1) tyX6 tyX6_ok nmX6 d he rfl in_X6 (by decide) (by rw [hM]; exact fl_X6_19) rfl hM2 (by rw [hM]; rfl) rfl (Or.inr ⟨x, rfl, rfl⟩) (by simp) kk
theorem fl_X6_26 : Cond.fieldLink RX6 26 (TX6 2).1 (TX6 2).2.1 (TX6 2).2.2.1 ∈ lw_tbl := List.mem_of_getElem? (i := 142) (by decide +kernel)
theorem gf_X6_26 {X : jX} {M : jMt} {rm : Room} {pc : Nat} {lc st : List Value} {k n : Nat} {σ : jS} {Q : jOut → jS → Prop} {i : Nat} {a0 a1 a2 a3 a4 a5 a6 a7 : Value} (hM : M.1.cls = RX6) (d : decode M.2.1 pc = .ok (.getfield 26, 3)) (he : σ.2 i = jO 5 [a0, a1, a2, a3, a4, a5, a6, a7]) (kk : J X M rm (pc + 3) lc (a2 :: st) k n σ Q) : J X M rm pc lc (.ref i :: st) k n σ Q := J.getf (T := TX6) (kf := 2) d he rfl in_X6 (by decide) (by rw [hM]; exact fl_X6_26) rfl kk
theorem pf_X6_26 {X : jX} {M : jMt} {rm : Room} {pc : Nat} {lc st : List Value} {k n : Nat} {σ : jS} {Q : jOut → jS → Prop} {i : Nat} {a0 a1 a2 a3 a4 a5 a6 a7 : Value} {x : Nat} (hM : M.1.cls = RX6) (hM2 : M.1.name = "<init>") (d : decode M.2.1 pc = .ok (.putfield 26, 3)) (he : σ.2 i = jO 5 [a0, a1, a2, a3, a4, a5, a6, a7]) (kk : J X M rm (pc + 3) lc st k n (jset σ i (jO 5 [a0, a1, .ref x, a3, a4, a5, a6, a7])) Q) : J X M rm pc lc ((.ref x) :: .ref i :: st) k n σ Q := J.putfF (T := TX6) (kf := 2) tyX6 tyX6_ok nmX6 d he rfl in_X6 (by decide) (by rw [hM]; exact fl_X6_26) rfl hM2 (by rw [hM]; rfl) rfl (Or.inr ⟨x, rfl, rfl⟩) (by simp) kk
theorem fl_X6_33 : Cond.fieldLink RX6 33 (TX6 3).1 (TX6 3).2.1 (TX6 3).2.2.1 ∈ lw_tbl := List.mem_of_getElem? (i := 143) (by decide +kernel)
theorem gf_X6_33 {X : jX} {M : jMt} {rm : Room} {pc : Nat} {lc st : List Value} {k n : Nat} {σ : jS} {Q : jOut → jS → Prop} {i : Nat} {a0 a1 a2 a3 a4 a5 a6 a7 : Value} (hM : M.1.cls = RX6) (d : decode M.2.1 pc = .ok (.getfield 33, 3)) (he : σ.2 i = jO 5 [a0, a1, a2, a3, a4, a5, a6, a7]) (kk : J X M rm (pc + 3) lc (a3 :: st) k n σ Q) : J X M rm pc lc (.ref i :: st) k n σ Q := J.getf (T := TX6) (kf := 3) d he rfl in_X6 (by decide) (by rw [hM]; exact fl_X6_33) rfl kk
theorem pf_X6_33 {X : jX} {M : jMt} {rm : Room} {pc : Nat} {lc st : List Value} {k n : Nat} {σ : jS} {Q : jOut → jS → Prop} {i : Nat} {a0 a1 a2 a3 a4 a5 a6 a7 : Value} {x : Nat} (hM : M.1.cls = RX6) (hM2 : M.1.name = "<init>") (d : decode M.2.1 pc = .ok (.putfield 33, 3)) (he : σ.2 i = jO 5 [a0, a1, a2, a3, a4, a5, a6, a7]) (kk : J X M rm (pc + 3) lc st k n (jset σ i (jO 5 [a0, a1, a2, .ref x, a4, a5, a6, a7])) Q) : J X M rm pc lc ((.ref x) :: .ref i :: st) k n σ Q := J.putfF (T := TX6) (kf := 3) tyX6 tyX6_ok nmX6 d he rfl in_X6 (by decide) (by rw [hM]; exact fl_X6_33) rfl hM2 (by rw [hM]; rfl) rfl (Or.inr ⟨x, rfl, rfl⟩) (by simp) kk
theorem fl_X6_40 : Cond.fieldLink RX6 40 (TX6 4).1 (TX6 4).2.1 (TX6 4).2.2.1 ∈ lw_tbl := List.mem_of_getElem? (i := 144) (by decide +kernel)
theorem gf_X6_40 {X : jX} {M : jMt} {rm : Room} {pc : Nat} {lc st : List Value} {k n : Nat} {σ : jS} {Q : jOut → jS → Prop} {i : Nat} {a0 a1 a2 a3 a4 a5 a6 a7 : Value} (hM : M.1.cls = RX6) (d : decode M.2.1 pc = .ok (.getfield 40, 3)) (he : σ.2 i = jO 5 [a0, a1, a2, a3, a4, a5, a6, a7]) (kk : J X M rm (pc + 3) lc (a4 :: st) k n σ Q) : J X M rm pc lc (.ref i :: st) k n σ Q := J.getf (T := TX6) (kf := 4) d he rfl in_X6 (by decide) (by rw [hM]; exact fl_X6_40) rfl kk
theorem pf_X6_40 {X : jX} {M : jMt} {rm : Room} {pc : Nat} {lc st : List Value} {k n : Nat} {σ : jS} {Q : jOut → jS → Prop} {i : Nat} {a0 a1 a2 a3 a4 a5 a6 a7 : Value} {x : Nat} (hM : M.1.cls = RX6) (hM2 : M.1.name = "<init>") (d : decode M.2.1 pc = .ok (.putfield 40, 3)) (he : σ.2 i = jO 5 [a0, a1, a2, a3, a4, a5, a6, a7]) (kk : J X M rm (pc + 3) lc st k n (jset σ i (jO 5 [a0, a1, a2, a3, .ref x, a5, a6, a7])) Q) : J X M rm pc lc ((.ref x) :: .ref i :: st) k n σ Q := J.putfF (T := TX6) (kf := 4) tyX6 tyX6_ok nmX6 d he rfl in_X6 (by decide) (by rw [hM]; exact fl_X6_40) rfl hM2 (by rw [hM]; rfl) rfl (Or.inr ⟨x, rfl, rfl⟩) (by simp) kk
theorem fl_X6_44 : Cond.fieldLink RX6 44 (TX6 5).1 (TX6 5).2.1 (TX6 5).2.2.1 ∈ lw_tbl := List.mem_of_getElem? (i := 145) (by decide +kernel)
theorem gf_X6_44 {X : jX} {M : jMt} {rm : Room} {pc : Nat} {lc st : List Value} {k n : Nat} {σ : jS} {Q : jOut → jS → Prop} {i : Nat} {a0 a1 a2 a3 a4 a5 a6 a7 : Value} (hM : M.1.cls = RX6) (d : decode M.2.1 pc = .ok (.getfield 44, 3)) (he : σ.2 i = jO 5 [a0, a1, a2, a3, a4, a5, a6, a7]) (kk : J X M rm (pc + 3) lc (a5 :: st) k n σ Q) : J X M rm pc lc (.ref i :: st) k n σ Q := J.getf (T := TX6) (kf := 5) d he rfl in_X6 (by decide) (by rw [hM]; exact fl_X6_44) rfl kk
theorem pf_X6_44 {X : jX} {M : jMt} {rm : Room} {pc : Nat} {lc st : List Value} {k n : Nat} {σ : jS} {Q : jOut → jS → Prop} {i : Nat} {a0 a1 a2 a3 a4 a5 a6 a7 : Value} {x : Nat} (hM : M.1.cls = RX6) (hM2 : M.1.name = "<init>") (d : decode M.2.1 pc = .ok (.putfield 44, 3)) (he : σ.2 i = jO 5 [a0, a1, a2, a3, a4, a5, a6, a7]) (kk : J X M rm (pc + 3) lc st k n (jset σ i (jO 5 [a0, a1, a2, a3, a4, .ref x, a6, a7])) Q) : J X M rm pc lc ((.ref x) :: .ref i :: st) k n σ Q := J.putfF (T := TX6) (kf := 5) tyX6 tyX6_ok nmX6 d he rfl in_X6 (by decide) (by rw [hM]; exact fl_X6_44) rfl hM2 (by rw [hM]; rfl) rfl (Or.inr ⟨x, rfl, rfl⟩) (by simp) kk
theorem fl_X6_187 : Cond.fieldLink RX6 187 (TX6 6).1 (TX6 6).2.1 (TX6 6).2.2.1 ∈ lw_tbl := List.mem_of_getElem? (i := 146) (by decide +kernel)
theorem gf_X6_187 {X : jX} {M : jMt} {rm : Room} {pc : Nat} {lc st : List Value} {k n : Nat} {σ : jS} {Q : jOut → jS → Prop} {i : Nat} {a0 a1 a2 a3 a4 a5 a6 a7 : Value} (hM : M.1.cls = RX6) (d : decode M.2.1 pc = .ok (.getfield 187, 3)) (he : σ.2 i = jO 5 [a0, a1, a2, a3, a4, a5, a6, a7]) (kk : J X M rm (pc + 3) lc (a6 :: st) k n σ Q) : J X M rm pc lc (.ref i :: st) k n σ Q := J.getf (T := TX6) (kf := 6) d he rfl in_X6 (by decide) (by rw [hM]; exact fl_X6_187) rfl kk
theorem pf_X6_187 {X : jX} {M : jMt} {rm : Room} {pc : Nat} {lc st : List Value} {k n : Nat} {σ : jS} {Q : jOut → jS → Prop} {i : Nat} {a0 a1 a2 a3 a4 a5 a6 a7 : Value} {x : Int32} (hM : M.1.cls = RX6) (d : decode M.2.1 pc = .ok (.putfield 187, 3)) (he : σ.2 i = jO 5 [a0, a1, a2, a3, a4, a5, a6, a7]) (kk : J X M rm (pc + 3) lc st k n (jset σ i (jO 5 [a0, a1, a2, a3, a4, a5, .int x, a7])) Q) : J X M rm pc lc ((.int x) :: .ref i :: st) k n σ Q := J.putf (T := TX6) (kf := 6) tyX6 tyX6_ok nmX6 d he rfl in_X6 (by decide) (by rw [hM]; exact fl_X6_187) rfl rfl (Or.inl ⟨x, rfl, rfl⟩) (by simp) kk
theorem fl_X6_48 : Cond.fieldLink RX6 48 (TX6 7).1 (TX6 7).2.1 (TX6 7).2.2.1 ∈ lw_tbl := List.mem_of_getElem? (i := 147) (by decide +kernel)
theorem gf_X6_48 {X : jX} {M : jMt} {rm : Room} {pc : Nat} {lc st : List Value} {k n : Nat} {σ : jS} {Q : jOut → jS → Prop} {i : Nat} {a0 a1 a2 a3 a4 a5 a6 a7 : Value} (hM : M.1.cls = RX6) (d : decode M.2.1 pc = .ok (.getfield 48, 3)) (he : σ.2 i = jO 5 [a0, a1, a2, a3, a4, a5, a6, a7]) (kk : J X M rm (pc + 3) lc (a7 :: st) k n σ Q) : J X M rm pc lc (.ref i :: st) k n σ Q := J.getf (T := TX6) (kf := 7) d he rfl in_X6 (by decide) (by rw [hM]; exact fl_X6_48) rfl kk
theorem pf_X6_48 {X : jX} {M : jMt} {rm : Room} {pc : Nat} {lc st : List Value} {k n : Nat} {σ : jS} {Q : jOut → jS → Prop} {i : Nat} {a0 a1 a2 a3 a4 a5 a6 a7 : Value} {x : Int32} (hM : M.1.cls = RX6) (d : decode M.2.1 pc = .ok (.putfield 48, 3)) (he : σ.2 i = jO 5 [a0, a1, a2, a3, a4, a5, a6, a7]) (kk : J X M rm (pc + 3) lc st k n (jset σ i (jO 5 [a0, a1, a2, a3, a4, a5, a6, .int x])) Q) : J X M rm pc lc ((.int x) :: .ref i :: st) k n σ Q := J.putf (T := TX6) (kf := 7) tyX6 tyX6_ok nmX6 d he rfl in_X6 (by decide) (by rw [hM]; exact fl_X6_48) rfl rfl (Or.inl ⟨x, rfl, rfl⟩) (by simp) kk
