abbrev mX6_init : jMt := (yX6_init, cX6_init, 2, none, [])
abbrev mX0_init : jMt := (yX0_init, cX0_init, 1, none, [])
abbrev mX4_init : jMt := (yX4_init, cX4_init, 1, none, [])
abbrev mX3_init : jMt := (yX3_init, cX3_init, 1, none, [])
abbrev mJ7_fill_53178 : jMt := (yJ7_fill_53178, cJ7_fill_53178, 4, none, [])
abbrev mX5_init : jMt := (yX5_init, cX5_init, 1, none, [])
abbrev mX2_init : jMt := (yX2_init, cX2_init, 1, none, [])
abbrev mX6_empty : jMt := (yX6_empty, cX6_empty, 2, (some .int), [])
abbrev mX4_clear : jMt := (yX4_clear, cX4_clear, 1, none, [])
abbrev mX6_words : jMt := (yX6_words, cX6_words, 1, (some .int), [])
abbrev mX6_groups : jMt := (yX6_groups, cX6_groups, 1, (some .int), [])
abbrev mX6_cost : jMt := (yX6_cost, cX6_cost, 1, (some .int), [])
abbrev mX5_costAt : jMt := (yX5_costAt, cX5_costAt, 4, (some .int), [])
abbrev mX5_isPlain : jMt := (yX5_isPlain, cX5_isPlain, 1, (some .boolean), [])
abbrev mX6_time : jMt := (yX6_time, cX6_time, 1, (some .int), [])
abbrev mX5_units : jMt := (yX5_units, cX5_units, 3, (some .int), [])
abbrev mX5_wordOf : jMt := (yX5_wordOf, cX5_wordOf, 1, (some .int), [])
abbrev mX5_wordUnits : jMt := (yX5_wordUnits, cX5_wordUnits, 4, (some .int), [])
abbrev mJ9_floorMod_7cf53 : jMt := (yJ9_floorMod_7cf53, cJ9_floorMod_7cf53, 3, (some .int), [])
abbrev mX1_units : jMt := (yX1_units, cX1_units, 4, (some .int), [])
abbrev mX6_digest : jMt := (yX6_digest, cX6_digest, 4, (some .long), [])
abbrev mX6_mix : jMt := (yX6_mix, cX6_mix, 3, (some .long), [])
abbrev mX6_mixRow : jMt := (yX6_mixRow, cX6_mixRow, 8, (some .long), [])
abbrev mX0_mixInto : jMt := (yX0_mixInto, cX0_mixInto, 6, (some .long), [])
abbrev mX0_startOf : jMt := (yX0_startOf, cX0_startOf, 1, (some .int), [])
abbrev mX3_mixInto : jMt := (yX3_mixInto, cX3_mixInto, 6, (some .long), [])
abbrev mX3_startOf : jMt := (yX3_startOf, cX3_startOf, 2, (some .int), [])
abbrev mL_say : jMt := (yL_say, cL_say, 4, (some .int), [(0, 9, 12, 13), (0, 9, 15, 15)])
abbrev mX6_say : jMt := (yX6_say, cX6_say, 2, (some .int), [])
abbrev mX4_append : jMt := (yX4_append, cX4_append, 2, none, [])
abbrev mL_wordAt : jMt := (yL_wordAt, cL_wordAt, 4, (some .int), [(0, 9, 12, 20)])
abbrev mX6_wordAt : jMt := (yX6_wordAt, cX6_wordAt, 2, (some .int), [])
abbrev mL_keep : jMt := (yL_keep, cL_keep, 3, (some .int), [(0, 8, 11, 15)])
abbrev mX6_keep : jMt := (yX6_keep, cX6_keep, 1, (some .int), [])
abbrev mX3_add : jMt := (yX3_add, cX3_add, 4, none, [])
abbrev mX3_countPhrases : jMt := (yX3_countPhrases, cX3_countPhrases, 7, none, [])
abbrev mX3_firstFinding : jMt := (yX3_firstFinding, cX3_firstFinding, 4, (some .int), [])
abbrev mX6_sameWords : jMt := (yX6_sameWords, cX6_sameWords, 6, (some .boolean), [])
abbrev mL_recall : jMt := (yL_recall, cL_recall, 4, (some .int), [(0, 9, 12, 20)])
abbrev mX6_recall : jMt := (yX6_recall, cX6_recall, 2, (some .int), [])
abbrev mX4_appendAll : jMt := (yX4_appendAll, cX4_appendAll, 5, none, [])
abbrev mL_letter : jMt := (yL_letter, cL_letter, 5, (some .int), [(0, 10, 13, 13), (0, 10, 17, 20)])
abbrev mX6_letter : jMt := (yX6_letter, cX6_letter, 3, (some .int), [])
abbrev mX6_requireCode : jMt := (yX6_requireCode, cX6_requireCode, 1, none, [])
abbrev mX6_requirePlace : jMt := (yX6_requirePlace, cX6_requirePlace, 2, none, [])
abbrev mX1_letterAt : jMt := (yX1_letterAt, cX1_letterAt, 4, (some .int), [])
abbrev mL_reason : jMt := (yL_reason, cL_reason, 5, (some .int), [(0, 10, 13, 20), (0, 10, 17, 13)])
abbrev mX6_reason : jMt := (yX6_reason, cX6_reason, 4, (some .int), [])
abbrev mX6_requireBook : jMt := (yX6_requireBook, cX6_requireBook, 2, (some (.object "WireBook$Book")), [])
abbrev mX0_reasonAgainst : jMt := (yX0_reasonAgainst, cX0_reasonAgainst, 5, (some .int), [])
abbrev mX1_likeness : jMt := (yX1_likeness, cX1_likeness, 7, (some .int), [])
abbrev mL_firstFit : jMt := (yL_firstFit, cL_firstFit, 5, (some .int), [(0, 10, 13, 20), (0, 10, 17, 13)])
abbrev mX6_firstFit : jMt := (yX6_firstFit, cX6_firstFit, 4, (some .int), [])
abbrev mX0_fitFrom : jMt := (yX0_fitFrom, cX0_fitFrom, 3, (some .int), [])
abbrev mL_define : jMt := (yL_define, cL_define, 5, (some .int), [(0, 10, 13, 20), (0, 10, 17, 13), (0, 10, 21, 15)])
abbrev mX6_define : jMt := (yX6_define, cX6_define, 4, (some .int), [])
abbrev mX0_add : jMt := (yX0_add, cX0_add, 3, none, [])
abbrev mL_drop : jMt := (yL_drop, cL_drop, 5, (some .int), [(0, 10, 13, 20)])
abbrev mX6_drop : jMt := (yX6_drop, cX6_drop, 4, (some .int), [])
abbrev mX6_requireEntry : jMt := (yX6_requireEntry, cX6_requireEntry, 2, none, [])
abbrev mX0_remove : jMt := (yX0_remove, cX0_remove, 4, none, [])
abbrev mL_entries : jMt := (yL_entries, cL_entries, 4, (some .int), [(0, 9, 12, 20)])
abbrev mX6_entries : jMt := (yX6_entries, cX6_entries, 2, (some .int), [])
abbrev mL_entry : jMt := (yL_entry, cL_entry, 6, (some .int), [(0, 12, 15, 20)])
abbrev mX6_entry : jMt := (yX6_entry, cX6_entry, 5, (some .int), [])
abbrev mL_find : jMt := (yL_find, cL_find, 5, (some .int), [(0, 10, 13, 20), (0, 10, 17, 13)])
abbrev mX6_find : jMt := (yX6_find, cX6_find, 4, (some .int), [])
abbrev mX0_entryWith : jMt := (yX0_entryWith, cX0_entryWith, 3, (some .int), [])
abbrev mL_setPrice : jMt := (yL_setPrice, cL_setPrice, 4, (some .int), [(0, 9, 12, 13)])
abbrev mX6_setPrice : jMt := (yX6_setPrice, cX6_setPrice, 3, (some .int), [])
abbrev mL_encode : jMt := (yL_encode, cL_encode, 4, (some .int), [(0, 9, 12, 20)])
abbrev mX6_encode : jMt := (yX6_encode, cX6_encode, 7, (some .int), [])
abbrev mX2_divide : jMt := (yX2_divide, cX2_divide, 7, (some .int), [])
abbrev mX2_bestPiece : jMt := (yX2_bestPiece, cX2_bestPiece, 12, (some .int), [])
abbrev mX0_goesAhead : jMt := (yX0_goesAhead, cX0_goesAhead, 3, (some .boolean), [])
abbrev mX5_clear : jMt := (yX5_clear, cX5_clear, 1, none, [])
abbrev mX5_plain : jMt := (yX5_plain, cX5_plain, 1, (some .int), [])
abbrev mX5_append : jMt := (yX5_append, cX5_append, 2, none, [])
abbrev mL_group : jMt := (yL_group, cL_group, 4, (some .int), [(0, 9, 12, 20)])
abbrev mX6_group : jMt := (yX6_group, cX6_group, 2, (some .int), [])
abbrev mX6_requireGroup : jMt := (yX6_requireGroup, cX6_requireGroup, 2, none, [])
abbrev mL_garble : jMt := (yL_garble, cL_garble, 6, (some .int), [(0, 12, 15, 20), (0, 12, 19, 13), (0, 12, 23, 15)])
abbrev mX6_garble : jMt := (yX6_garble, cX6_garble, 5, (some .int), [])
abbrev mX6_requireCodeWord : jMt := (yX6_requireCodeWord, cX6_requireCodeWord, 2, none, [])
abbrev mX1_withLetter : jMt := (yX1_withLetter, cX1_withLetter, 5, (some .int), [])
abbrev mL_swap : jMt := (yL_swap, cL_swap, 5, (some .int), [(0, 10, 13, 20), (0, 10, 17, 15)])
abbrev mX6_swap : jMt := (yX6_swap, cX6_swap, 3, (some .int), [])
abbrev mX1_swapped : jMt := (yX1_swapped, cX1_swapped, 4, (some .int), [])
abbrev mL_decode : jMt := (yL_decode, cL_decode, 4, (some .int), [(0, 9, 12, 20)])
abbrev mX6_decode : jMt := (yX6_decode, cX6_decode, 5, (some .int), [])
abbrev mX6_read : jMt := (yX6_read, cX6_read, 5, (some .int), [])
abbrev mX0_onlyEntryLike : jMt := (yX0_onlyEntryLike, cX0_onlyEntryLike, 4, (some .int), [])
abbrev mL_how : jMt := (yL_how, cL_how, 4, (some .int), [(0, 9, 12, 20)])
abbrev mX6_how : jMt := (yX6_how, cX6_how, 2, (some .int), [])
abbrev mL_share : jMt := (yL_share, cL_share, 4, (some .int), [(0, 8, 11, 20)])
abbrev mX6_share : jMt := (yX6_share, cX6_share, 6, (some .double), [])
abbrev mL_propose : jMt := (yL_propose, cL_propose, 4, (some .int), [(0, 9, 12, 20)])
abbrev mX6_propose : jMt := (yX6_propose, cX6_propose, 2, (some .int), [])
abbrev mX3_proposeOn : jMt := (yX3_proposeOn, cX3_proposeOn, 11, (some .int), [])
abbrev mX0_hasPhrase : jMt := (yX0_hasPhrase, cX0_hasPhrase, 5, (some .boolean), [])
abbrev mL_learn : jMt := (yL_learn, cL_learn, 5, (some .int), [(0, 10, 13, 20), (0, 10, 17, 13)])
abbrev mX6_learn : jMt := (yX6_learn, cX6_learn, 5, (some .int), [])
abbrev mX6_learnOne : jMt := (yX6_learnOne, cX6_learnOne, 3, (some .boolean), [])
abbrev mX0_latestCode : jMt := (yX0_latestCode, cX0_latestCode, 1, (some .int), [])
abbrev mX7_init : jMt := (yX7_init, cX7_init, 1, none, [])
abbrev mX7_thrown : jMt := (yX7_thrown, cX7_thrown, 1, (some .int), [])
abbrev mX7_say : jMt := (yX7_say, cX7_say, 2, (some .int), [])
abbrev mX7_isIn : jMt := (yX7_isIn, cX7_isIn, 3, (some .boolean), [])
abbrev mX7_no : jMt := (yX7_no, cX7_no, 2, (some .int), [])
abbrev mX7_empty : jMt := (yX7_empty, cX7_empty, 2, (some .int), [])
abbrev mX7_words : jMt := (yX7_words, cX7_words, 1, (some .int), [])
abbrev mX7_wordAt : jMt := (yX7_wordAt, cX7_wordAt, 2, (some .int), [])
abbrev mX7_keep : jMt := (yX7_keep, cX7_keep, 1, (some .int), [])
abbrev mX7_recall : jMt := (yX7_recall, cX7_recall, 2, (some .int), [])
abbrev mX7_letter : jMt := (yX7_letter, cX7_letter, 3, (some .int), [])
abbrev mX7_isCode : jMt := (yX7_isCode, cX7_isCode, 1, (some .boolean), [])
abbrev mX7_letterOf : jMt := (yX7_letterOf, cX7_letterOf, 2, (some .int), [])
abbrev mX7_power : jMt := (yX7_power, cX7_power, 3, (some .int), [])
abbrev mX7_reason : jMt := (yX7_reason, cX7_reason, 3, (some .int), [])
abbrev mX7_isBook : jMt := (yX7_isBook, cX7_isBook, 1, (some .boolean), [])
abbrev mX7_reasonFor : jMt := (yX7_reasonFor, cX7_reasonFor, 7, (some .int), [])
abbrev mX7_isOneOff : jMt := (yX7_isOneOff, cX7_isOneOff, 4, (some .boolean), [])
abbrev mX7_isSwapped : jMt := (yX7_isSwapped, cX7_isSwapped, 4, (some .boolean), [])
abbrev mX7_swapped : jMt := (yX7_swapped, cX7_swapped, 3, (some .int), [])
abbrev mX7_firstFit : jMt := (yX7_firstFit, cX7_firstFit, 3, (some .int), [])
abbrev mX7_fitFrom : jMt := (yX7_fitFrom, cX7_fitFrom, 4, (some .int), [])
abbrev mX7_define : jMt := (yX7_define, cX7_define, 3, (some .int), [])
abbrev mX7_add : jMt := (yX7_add, cX7_add, 7, none, [])
abbrev mX7_drop : jMt := (yX7_drop, cX7_drop, 5, (some .int), [])
abbrev mX7_isEntry : jMt := (yX7_isEntry, cX7_isEntry, 3, (some .boolean), [])
abbrev mX7_entries : jMt := (yX7_entries, cX7_entries, 2, (some .int), [])
abbrev mX7_entry : jMt := (yX7_entry, cX7_entry, 5, (some .int), [])
abbrev mX7_find : jMt := (yX7_find, cX7_find, 3, (some .int), [])
abbrev mX7_entryOf : jMt := (yX7_entryOf, cX7_entryOf, 5, (some .int), [])
abbrev mX7_setPrice : jMt := (yX7_setPrice, cX7_setPrice, 3, (some .int), [])
abbrev mX7_encode : jMt := (yX7_encode, cX7_encode, 5, (some .int), [])
abbrev mX7_divide : jMt := (yX7_divide, cX7_divide, 8, (some .int), [])
abbrev mX7_stands : jMt := (yX7_stands, cX7_stands, 7, (some .boolean), [])
abbrev mJ9_min_7cf53 : jMt := (yJ9_min_7cf53, cJ9_min_7cf53, 2, (some .int), [])
abbrev mX7_groups : jMt := (yX7_groups, cX7_groups, 1, (some .int), [])
abbrev mX7_group : jMt := (yX7_group, cX7_group, 2, (some .int), [])
abbrev mX7_isGroup : jMt := (yX7_isGroup, cX7_isGroup, 2, (some .boolean), [])
abbrev mX7_garble : jMt := (yX7_garble, cX7_garble, 5, (some .int), [])
abbrev mX7_swap : jMt := (yX7_swap, cX7_swap, 3, (some .int), [])
abbrev mX7_decode : jMt := (yX7_decode, cX7_decode, 8, (some .int), [])
abbrev mX7_write : jMt := (yX7_write, cX7_write, 2, none, [])
abbrev mX7_meant : jMt := (yX7_meant, cX7_meant, 7, (some .int), [])
abbrev mX7_how : jMt := (yX7_how, cX7_how, 2, (some .int), [])
abbrev mX7_cost : jMt := (yX7_cost, cX7_cost, 3, (some .int), [])
abbrev mX7_time : jMt := (yX7_time, cX7_time, 3, (some .int), [])
abbrev mX7_unitsOf : jMt := (yX7_unitsOf, cX7_unitsOf, 4, (some .int), [])
abbrev mX7_share : jMt := (yX7_share, cX7_share, 5, (some .double), [])
abbrev mX7_propose : jMt := (yX7_propose, cX7_propose, 3, (some .int), [])
abbrev mX7_proposal : jMt := (yX7_proposal, cX7_proposal, 9, (some .int), [])
abbrev mX7_timesOf : jMt := (yX7_timesOf, cX7_timesOf, 7, (some .int), [])
abbrev mX7_isSame : jMt := (yX7_isSame, cX7_isSame, 6, (some .boolean), [])
abbrev mX7_isInBook : jMt := (yX7_isInBook, cX7_isInBook, 6, (some .boolean), [])
abbrev mX7_learn : jMt := (yX7_learn, cX7_learn, 5, (some .int), [])
abbrev mX7_digest : jMt := (yX7_digest, cX7_digest, 6, (some .long), [])
abbrev mL_law : jMt := (yL_law, cL_law, 9, some .boolean, [])
theorem ini_WireBookLaw : Cond.initialized RL ∈ lw_tbl := List.mem_of_getElem? (i := 24) (by decide +kernel)
theorem ini_WireBook : Cond.initialized RX6 ∈ lw_tbl := List.mem_of_getElem? (i := 25) (by decide +kernel)
theorem ini_WireBook_Book : Cond.initialized RX0 ∈ lw_tbl := List.mem_of_getElem? (i := 26) (by decide +kernel)
theorem ini_WireBook_Line : Cond.initialized RX4 ∈ lw_tbl := List.mem_of_getElem? (i := 27) (by decide +kernel)
theorem ini_WireBook_Kept : Cond.initialized RX3 ∈ lw_tbl := List.mem_of_getElem? (i := 28) (by decide +kernel)
theorem ini_java_util_Arrays : Cond.initialized RJ7 ∈ lw_tbl := List.mem_of_getElem? (i := 29) (by decide +kernel)
theorem ini_WireBook_Message : Cond.initialized RX5 ∈ lw_tbl := List.mem_of_getElem? (i := 30) (by decide +kernel)
theorem ini_WireBook_Division : Cond.initialized RX2 ∈ lw_tbl := List.mem_of_getElem? (i := 31) (by decide +kernel)
theorem ini_WireBookModel : Cond.initialized RX7 ∈ lw_tbl := List.mem_of_getElem? (i := 32) (by decide +kernel)
theorem ini_java_lang_Throwable : Cond.initialized "java/lang/Throwable" ∈ lw_tbl := List.mem_of_getElem? (i := 33) (by decide +kernel)
theorem ini_java_lang_Exception : Cond.initialized "java/lang/Exception" ∈ lw_tbl := List.mem_of_getElem? (i := 34) (by decide +kernel)
theorem ini_java_lang_RuntimeException : Cond.initialized "java/lang/RuntimeException" ∈ lw_tbl := List.mem_of_getElem? (i := 35) (by decide +kernel)
theorem ini_java_lang_IllegalArgumentException : Cond.initialized "java/lang/IllegalArgumentException" ∈ lw_tbl := List.mem_of_getElem? (i := 36) (by decide +kernel)
theorem ini_java_lang_IllegalStateException : Cond.initialized "java/lang/IllegalStateException" ∈ lw_tbl := List.mem_of_getElem? (i := 37) (by decide +kernel)
theorem ini_java_lang_IndexOutOfBoundsException : Cond.initialized "java/lang/IndexOutOfBoundsException" ∈ lw_tbl := List.mem_of_getElem? (i := 38) (by decide +kernel)
theorem ini_java_lang_System : Cond.initialized RJ10 ∈ lw_tbl := List.mem_of_getElem? (i := 39) (by decide +kernel)
theorem ini_WireBook_Code : Cond.initialized RX1 ∈ lw_tbl := List.mem_of_getElem? (i := 40) (by decide +kernel)
theorem ini_java_lang_Math : Cond.initialized RJ9 ∈ lw_tbl := List.mem_of_getElem? (i := 41) (by decide +kernel)
theorem co_X6_init : Cond.code yX6_init cX6_init 2 none ∈ lw_tbl := List.mem_of_getElem? (i := 46) (by decide +kernel)
theorem st_X6_init : jSt mX6_init 0 := ⟨by decide +kernel, rfl, co_X6_init, ini_WireBook, ⟨by decide +kernel, by decide +kernel⟩, by decide +kernel⟩
theorem im_X6_init : Cond.instanceMethod yX6_init ∈ lw_tbl := List.mem_of_getElem? (i := 45) (by decide +kernel)
theorem co_X0_init : Cond.code yX0_init cX0_init 1 none ∈ lw_tbl := List.mem_of_getElem? (i := 55) (by decide +kernel)
theorem st_X0_init : jSt mX0_init 0 := ⟨by decide +kernel, rfl, co_X0_init, ini_WireBook_Book, ⟨by decide +kernel, by decide +kernel⟩, by decide +kernel⟩
theorem im_X0_init : Cond.instanceMethod yX0_init ∈ lw_tbl := List.mem_of_getElem? (i := 54) (by decide +kernel)
theorem co_X4_init : Cond.code yX4_init cX4_init 1 none ∈ lw_tbl := List.mem_of_getElem? (i := 82) (by decide +kernel)
theorem st_X4_init : jSt mX4_init 0 := ⟨by decide +kernel, rfl, co_X4_init, ini_WireBook_Line, ⟨by decide +kernel, by decide +kernel⟩, by decide +kernel⟩
theorem im_X4_init : Cond.instanceMethod yX4_init ∈ lw_tbl := List.mem_of_getElem? (i := 81) (by decide +kernel)
theorem co_X3_init : Cond.code yX3_init cX3_init 1 none ∈ lw_tbl := List.mem_of_getElem? (i := 101) (by decide +kernel)
theorem st_X3_init : jSt mX3_init 0 := ⟨by decide +kernel, rfl, co_X3_init, ini_WireBook_Kept, ⟨by decide +kernel, by decide +kernel⟩, by decide +kernel⟩
theorem im_X3_init : Cond.instanceMethod yX3_init ∈ lw_tbl := List.mem_of_getElem? (i := 100) (by decide +kernel)
theorem co_J7_fill_53178 : Cond.code yJ7_fill_53178 cJ7_fill_53178 4 none ∈ lw_tbl := List.mem_of_getElem? (i := 107) (by decide +kernel)
theorem st_J7_fill_53178 : jSt mJ7_fill_53178 2 := ⟨by decide +kernel, rfl, co_J7_fill_53178, ini_java_util_Arrays, ⟨by decide +kernel, by decide +kernel⟩, by decide +kernel⟩
theorem sm_J7_fill_53178 : Cond.static yJ7_fill_53178 ∈ lw_tbl := List.mem_of_getElem? (i := 106) (by decide +kernel)
theorem co_X5_init : Cond.code yX5_init cX5_init 1 none ∈ lw_tbl := List.mem_of_getElem? (i := 131) (by decide +kernel)
theorem st_X5_init : jSt mX5_init 0 := ⟨by decide +kernel, rfl, co_X5_init, ini_WireBook_Message, ⟨by decide +kernel, by decide +kernel⟩, by decide +kernel⟩
theorem im_X5_init : Cond.instanceMethod yX5_init ∈ lw_tbl := List.mem_of_getElem? (i := 130) (by decide +kernel)
theorem co_X2_init : Cond.code yX2_init cX2_init 1 none ∈ lw_tbl := List.mem_of_getElem? (i := 146) (by decide +kernel)
theorem st_X2_init : jSt mX2_init 0 := ⟨by decide +kernel, rfl, co_X2_init, ini_WireBook_Division, ⟨by decide +kernel, by decide +kernel⟩, by decide +kernel⟩
theorem im_X2_init : Cond.instanceMethod yX2_init ∈ lw_tbl := List.mem_of_getElem? (i := 145) (by decide +kernel)
theorem co_X6_empty : Cond.code yX6_empty cX6_empty 2 (some .int) ∈ lw_tbl := List.mem_of_getElem? (i := 184) (by decide +kernel)
theorem st_X6_empty : jSt mX6_empty 0 := ⟨by decide +kernel, rfl, co_X6_empty, ini_WireBook, ⟨by decide +kernel, by decide +kernel⟩, by decide +kernel⟩
theorem im_X6_empty : Cond.instanceMethod yX6_empty ∈ lw_tbl := List.mem_of_getElem? (i := 182) (by decide +kernel)
theorem se_X6_empty : Cond.selects RX6 yX6_empty yX6_empty ∈ lw_tbl := List.mem_of_getElem? (i := 183) (by decide +kernel)
theorem co_X4_clear : Cond.code yX4_clear cX4_clear 1 none ∈ lw_tbl := List.mem_of_getElem? (i := 188) (by decide +kernel)
theorem st_X4_clear : jSt mX4_clear 0 := ⟨by decide +kernel, rfl, co_X4_clear, ini_WireBook_Line, ⟨by decide +kernel, by decide +kernel⟩, by decide +kernel⟩
theorem im_X4_clear : Cond.instanceMethod yX4_clear ∈ lw_tbl := List.mem_of_getElem? (i := 186) (by decide +kernel)
theorem se_X4_clear : Cond.selects RX4 yX4_clear yX4_clear ∈ lw_tbl := List.mem_of_getElem? (i := 187) (by decide +kernel)
theorem co_X6_words : Cond.code yX6_words cX6_words 1 (some .int) ∈ lw_tbl := List.mem_of_getElem? (i := 192) (by decide +kernel)
theorem st_X6_words : jSt mX6_words 0 := ⟨by decide +kernel, rfl, co_X6_words, ini_WireBook, ⟨by decide +kernel, by decide +kernel⟩, by decide +kernel⟩
theorem im_X6_words : Cond.instanceMethod yX6_words ∈ lw_tbl := List.mem_of_getElem? (i := 190) (by decide +kernel)
theorem se_X6_words : Cond.selects RX6 yX6_words yX6_words ∈ lw_tbl := List.mem_of_getElem? (i := 191) (by decide +kernel)
theorem co_X6_groups : Cond.code yX6_groups cX6_groups 1 (some .int) ∈ lw_tbl := List.mem_of_getElem? (i := 196) (by decide +kernel)
theorem st_X6_groups : jSt mX6_groups 0 := ⟨by decide +kernel, rfl, co_X6_groups, ini_WireBook, ⟨by decide +kernel, by decide +kernel⟩, by decide +kernel⟩
theorem im_X6_groups : Cond.instanceMethod yX6_groups ∈ lw_tbl := List.mem_of_getElem? (i := 194) (by decide +kernel)
theorem se_X6_groups : Cond.selects RX6 yX6_groups yX6_groups ∈ lw_tbl := List.mem_of_getElem? (i := 195) (by decide +kernel)
theorem co_X6_cost : Cond.code yX6_cost cX6_cost 1 (some .int) ∈ lw_tbl := List.mem_of_getElem? (i := 200) (by decide +kernel)
theorem st_X6_cost : jSt mX6_cost 0 := ⟨by decide +kernel, rfl, co_X6_cost, ini_WireBook, ⟨by decide +kernel, by decide +kernel⟩, by decide +kernel⟩
theorem im_X6_cost : Cond.instanceMethod yX6_cost ∈ lw_tbl := List.mem_of_getElem? (i := 198) (by decide +kernel)
theorem se_X6_cost : Cond.selects RX6 yX6_cost yX6_cost ∈ lw_tbl := List.mem_of_getElem? (i := 199) (by decide +kernel)
theorem co_X5_costAt : Cond.code yX5_costAt cX5_costAt 4 (some .int) ∈ lw_tbl := List.mem_of_getElem? (i := 204) (by decide +kernel)
theorem st_X5_costAt : jSt mX5_costAt 1 := ⟨by decide +kernel, rfl, co_X5_costAt, ini_WireBook_Message, ⟨by decide +kernel, by decide +kernel⟩, by decide +kernel⟩
theorem im_X5_costAt : Cond.instanceMethod yX5_costAt ∈ lw_tbl := List.mem_of_getElem? (i := 202) (by decide +kernel)
theorem se_X5_costAt : Cond.selects RX5 yX5_costAt yX5_costAt ∈ lw_tbl := List.mem_of_getElem? (i := 203) (by decide +kernel)
theorem co_X5_isPlain : Cond.code yX5_isPlain cX5_isPlain 1 (some .boolean) ∈ lw_tbl := List.mem_of_getElem? (i := 207) (by decide +kernel)
theorem st_X5_isPlain : jSt mX5_isPlain 1 := ⟨by decide +kernel, rfl, co_X5_isPlain, ini_WireBook_Message, ⟨by decide +kernel, by decide +kernel⟩, by decide +kernel⟩
theorem sm_X5_isPlain : Cond.static yX5_isPlain ∈ lw_tbl := List.mem_of_getElem? (i := 206) (by decide +kernel)
theorem co_X6_time : Cond.code yX6_time cX6_time 1 (some .int) ∈ lw_tbl := List.mem_of_getElem? (i := 211) (by decide +kernel)
theorem st_X6_time : jSt mX6_time 0 := ⟨by decide +kernel, rfl, co_X6_time, ini_WireBook, ⟨by decide +kernel, by decide +kernel⟩, by decide +kernel⟩
theorem im_X6_time : Cond.instanceMethod yX6_time ∈ lw_tbl := List.mem_of_getElem? (i := 209) (by decide +kernel)
theorem se_X6_time : Cond.selects RX6 yX6_time yX6_time ∈ lw_tbl := List.mem_of_getElem? (i := 210) (by decide +kernel)
theorem co_X5_units : Cond.code yX5_units cX5_units 3 (some .int) ∈ lw_tbl := List.mem_of_getElem? (i := 215) (by decide +kernel)
theorem st_X5_units : jSt mX5_units 0 := ⟨by decide +kernel, rfl, co_X5_units, ini_WireBook_Message, ⟨by decide +kernel, by decide +kernel⟩, by decide +kernel⟩
theorem im_X5_units : Cond.instanceMethod yX5_units ∈ lw_tbl := List.mem_of_getElem? (i := 213) (by decide +kernel)
theorem se_X5_units : Cond.selects RX5 yX5_units yX5_units ∈ lw_tbl := List.mem_of_getElem? (i := 214) (by decide +kernel)
theorem co_X5_wordOf : Cond.code yX5_wordOf cX5_wordOf 1 (some .int) ∈ lw_tbl := List.mem_of_getElem? (i := 218) (by decide +kernel)
theorem st_X5_wordOf : jSt mX5_wordOf 1 := ⟨by decide +kernel, rfl, co_X5_wordOf, ini_WireBook_Message, ⟨by decide +kernel, by decide +kernel⟩, by decide +kernel⟩
theorem sm_X5_wordOf : Cond.static yX5_wordOf ∈ lw_tbl := List.mem_of_getElem? (i := 217) (by decide +kernel)
theorem co_X5_wordUnits : Cond.code yX5_wordUnits cX5_wordUnits 4 (some .int) ∈ lw_tbl := List.mem_of_getElem? (i := 221) (by decide +kernel)
theorem st_X5_wordUnits : jSt mX5_wordUnits 1 := ⟨by decide +kernel, rfl, co_X5_wordUnits, ini_WireBook_Message, ⟨by decide +kernel, by decide +kernel⟩, by decide +kernel⟩
theorem sm_X5_wordUnits : Cond.static yX5_wordUnits ∈ lw_tbl := List.mem_of_getElem? (i := 220) (by decide +kernel)
theorem co_J9_floorMod_7cf53 : Cond.code yJ9_floorMod_7cf53 cJ9_floorMod_7cf53 3 (some .int) ∈ lw_tbl := List.mem_of_getElem? (i := 226) (by decide +kernel)
theorem st_J9_floorMod_7cf53 : jStF mJ9_floorMod_7cf53 2 := ⟨by decide +kernel, rfl, co_J9_floorMod_7cf53, ini_java_lang_Math, ⟨by decide +kernel, by decide +kernel⟩, by decide +kernel⟩
theorem sm_J9_floorMod_7cf53 : Cond.static yJ9_floorMod_7cf53 ∈ lw_tbl := List.mem_of_getElem? (i := 225) (by decide +kernel)
theorem co_X1_units : Cond.code yX1_units cX1_units 4 (some .int) ∈ lw_tbl := List.mem_of_getElem? (i := 229) (by decide +kernel)
theorem st_X1_units : jSt mX1_units 1 := ⟨by decide +kernel, rfl, co_X1_units, ini_WireBook_Code, ⟨by decide +kernel, by decide +kernel⟩, by decide +kernel⟩
theorem sm_X1_units : Cond.static yX1_units ∈ lw_tbl := List.mem_of_getElem? (i := 228) (by decide +kernel)
theorem co_X6_digest : Cond.code yX6_digest cX6_digest 4 (some .long) ∈ lw_tbl := List.mem_of_getElem? (i := 236) (by decide +kernel)
theorem st_X6_digest : jSt mX6_digest 0 := ⟨by decide +kernel, rfl, co_X6_digest, ini_WireBook, ⟨by decide +kernel, by decide +kernel⟩, by decide +kernel⟩
theorem im_X6_digest : Cond.instanceMethod yX6_digest ∈ lw_tbl := List.mem_of_getElem? (i := 234) (by decide +kernel)
theorem se_X6_digest : Cond.selects RX6 yX6_digest yX6_digest ∈ lw_tbl := List.mem_of_getElem? (i := 235) (by decide +kernel)
theorem co_X6_mix : Cond.code yX6_mix cX6_mix 3 (some .long) ∈ lw_tbl := List.mem_of_getElem? (i := 240) (by decide +kernel)
theorem st_X6_mix : jSt mX6_mix 2 := ⟨by decide +kernel, rfl, co_X6_mix, ini_WireBook, ⟨by decide +kernel, by decide +kernel⟩, by decide +kernel⟩
theorem sm_X6_mix : Cond.static yX6_mix ∈ lw_tbl := List.mem_of_getElem? (i := 239) (by decide +kernel)
theorem co_X6_mixRow : Cond.code yX6_mixRow cX6_mixRow 8 (some .long) ∈ lw_tbl := List.mem_of_getElem? (i := 244) (by decide +kernel)
theorem st_X6_mixRow : jSt mX6_mixRow 4 := ⟨by decide +kernel, rfl, co_X6_mixRow, ini_WireBook, ⟨by decide +kernel, by decide +kernel⟩, by decide +kernel⟩
theorem sm_X6_mixRow : Cond.static yX6_mixRow ∈ lw_tbl := List.mem_of_getElem? (i := 243) (by decide +kernel)
theorem co_X0_mixInto : Cond.code yX0_mixInto cX0_mixInto 6 (some .long) ∈ lw_tbl := List.mem_of_getElem? (i := 248) (by decide +kernel)
theorem st_X0_mixInto : jSt mX0_mixInto 1 := ⟨by decide +kernel, rfl, co_X0_mixInto, ini_WireBook_Book, ⟨by decide +kernel, by decide +kernel⟩, by decide +kernel⟩
theorem im_X0_mixInto : Cond.instanceMethod yX0_mixInto ∈ lw_tbl := List.mem_of_getElem? (i := 246) (by decide +kernel)
theorem se_X0_mixInto : Cond.selects RX0 yX0_mixInto yX0_mixInto ∈ lw_tbl := List.mem_of_getElem? (i := 247) (by decide +kernel)
theorem co_X0_startOf : Cond.code yX0_startOf cX0_startOf 1 (some .int) ∈ lw_tbl := List.mem_of_getElem? (i := 252) (by decide +kernel)
theorem st_X0_startOf : jSt mX0_startOf 1 := ⟨by decide +kernel, rfl, co_X0_startOf, ini_WireBook_Book, ⟨by decide +kernel, by decide +kernel⟩, by decide +kernel⟩
theorem sm_X0_startOf : Cond.static yX0_startOf ∈ lw_tbl := List.mem_of_getElem? (i := 251) (by decide +kernel)
theorem co_X3_mixInto : Cond.code yX3_mixInto cX3_mixInto 6 (some .long) ∈ lw_tbl := List.mem_of_getElem? (i := 257) (by decide +kernel)
theorem st_X3_mixInto : jSt mX3_mixInto 1 := ⟨by decide +kernel, rfl, co_X3_mixInto, ini_WireBook_Kept, ⟨by decide +kernel, by decide +kernel⟩, by decide +kernel⟩
theorem im_X3_mixInto : Cond.instanceMethod yX3_mixInto ∈ lw_tbl := List.mem_of_getElem? (i := 255) (by decide +kernel)
theorem se_X3_mixInto : Cond.selects RX3 yX3_mixInto yX3_mixInto ∈ lw_tbl := List.mem_of_getElem? (i := 256) (by decide +kernel)
theorem co_X3_startOf : Cond.code yX3_startOf cX3_startOf 2 (some .int) ∈ lw_tbl := List.mem_of_getElem? (i := 262) (by decide +kernel)
theorem st_X3_startOf : jSt mX3_startOf 1 := ⟨by decide +kernel, rfl, co_X3_startOf, ini_WireBook_Kept, ⟨by decide +kernel, by decide +kernel⟩, by decide +kernel⟩
theorem im_X3_startOf : Cond.instanceMethod yX3_startOf ∈ lw_tbl := List.mem_of_getElem? (i := 260) (by decide +kernel)
theorem se_X3_startOf : Cond.selects RX3 yX3_startOf yX3_startOf ∈ lw_tbl := List.mem_of_getElem? (i := 261) (by decide +kernel)
theorem co_L_say : Cond.codeWith yL_say cL_say 4 (some .int) [(0, 9, 12, 13), (0, 9, 15, 15)] ∈ lw_tbl := List.mem_of_getElem? (i := 266) (by decide +kernel)
theorem st_L_say : jStX mL_say 3 := ⟨by decide +kernel, co_L_say, ini_WireBookLaw, ⟨by decide +kernel, by decide +kernel⟩, by decide +kernel⟩
theorem sm_L_say : Cond.static yL_say ∈ lw_tbl := List.mem_of_getElem? (i := 265) (by decide +kernel)
theorem co_X6_say : Cond.code yX6_say cX6_say 2 (some .int) ∈ lw_tbl := List.mem_of_getElem? (i := 272) (by decide +kernel)
theorem st_X6_say : jSt mX6_say 1 := ⟨by decide +kernel, rfl, co_X6_say, ini_WireBook, ⟨by decide +kernel, by decide +kernel⟩, by decide +kernel⟩
theorem im_X6_say : Cond.instanceMethod yX6_say ∈ lw_tbl := List.mem_of_getElem? (i := 270) (by decide +kernel)
theorem se_X6_say : Cond.selects RX6 yX6_say yX6_say ∈ lw_tbl := List.mem_of_getElem? (i := 271) (by decide +kernel)
theorem co_X4_append : Cond.code yX4_append cX4_append 2 none ∈ lw_tbl := List.mem_of_getElem? (i := 360) (by decide +kernel)
theorem st_X4_append : jSt mX4_append 1 := ⟨by decide +kernel, rfl, co_X4_append, ini_WireBook_Line, ⟨by decide +kernel, by decide +kernel⟩, by decide +kernel⟩
theorem im_X4_append : Cond.instanceMethod yX4_append ∈ lw_tbl := List.mem_of_getElem? (i := 358) (by decide +kernel)
theorem se_X4_append : Cond.selects RX4 yX4_append yX4_append ∈ lw_tbl := List.mem_of_getElem? (i := 359) (by decide +kernel)
theorem co_L_wordAt : Cond.codeWith yL_wordAt cL_wordAt 4 (some .int) [(0, 9, 12, 20)] ∈ lw_tbl := List.mem_of_getElem? (i := 363) (by decide +kernel)
theorem st_L_wordAt : jStX mL_wordAt 3 := ⟨by decide +kernel, co_L_wordAt, ini_WireBookLaw, ⟨by decide +kernel, by decide +kernel⟩, by decide +kernel⟩
theorem sm_L_wordAt : Cond.static yL_wordAt ∈ lw_tbl := List.mem_of_getElem? (i := 362) (by decide +kernel)
theorem co_X6_wordAt : Cond.code yX6_wordAt cX6_wordAt 2 (some .int) ∈ lw_tbl := List.mem_of_getElem? (i := 368) (by decide +kernel)
theorem st_X6_wordAt : jSt mX6_wordAt 1 := ⟨by decide +kernel, rfl, co_X6_wordAt, ini_WireBook, ⟨by decide +kernel, by decide +kernel⟩, by decide +kernel⟩
theorem im_X6_wordAt : Cond.instanceMethod yX6_wordAt ∈ lw_tbl := List.mem_of_getElem? (i := 366) (by decide +kernel)
theorem se_X6_wordAt : Cond.selects RX6 yX6_wordAt yX6_wordAt ∈ lw_tbl := List.mem_of_getElem? (i := 367) (by decide +kernel)
theorem co_L_keep : Cond.codeWith yL_keep cL_keep 3 (some .int) [(0, 8, 11, 15)] ∈ lw_tbl := List.mem_of_getElem? (i := 387) (by decide +kernel)
theorem st_L_keep : jStX mL_keep 2 := ⟨by decide +kernel, co_L_keep, ini_WireBookLaw, ⟨by decide +kernel, by decide +kernel⟩, by decide +kernel⟩
theorem sm_L_keep : Cond.static yL_keep ∈ lw_tbl := List.mem_of_getElem? (i := 386) (by decide +kernel)
theorem co_X6_keep : Cond.code yX6_keep cX6_keep 1 (some .int) ∈ lw_tbl := List.mem_of_getElem? (i := 391) (by decide +kernel)
theorem st_X6_keep : jSt mX6_keep 0 := ⟨by decide +kernel, rfl, co_X6_keep, ini_WireBook, ⟨by decide +kernel, by decide +kernel⟩, by decide +kernel⟩
theorem im_X6_keep : Cond.instanceMethod yX6_keep ∈ lw_tbl := List.mem_of_getElem? (i := 389) (by decide +kernel)
theorem se_X6_keep : Cond.selects RX6 yX6_keep yX6_keep ∈ lw_tbl := List.mem_of_getElem? (i := 390) (by decide +kernel)
theorem co_X3_add : Cond.code yX3_add cX3_add 4 none ∈ lw_tbl := List.mem_of_getElem? (i := 397) (by decide +kernel)
theorem st_X3_add : jSt mX3_add 1 := ⟨by decide +kernel, rfl, co_X3_add, ini_WireBook_Kept, ⟨by decide +kernel, by decide +kernel⟩, by decide +kernel⟩
theorem im_X3_add : Cond.instanceMethod yX3_add ∈ lw_tbl := List.mem_of_getElem? (i := 395) (by decide +kernel)
theorem se_X3_add : Cond.selects RX3 yX3_add yX3_add ∈ lw_tbl := List.mem_of_getElem? (i := 396) (by decide +kernel)
theorem co_X3_countPhrases : Cond.code yX3_countPhrases cX3_countPhrases 7 none ∈ lw_tbl := List.mem_of_getElem? (i := 404) (by decide +kernel)
theorem st_X3_countPhrases : jSt mX3_countPhrases 3 := ⟨by decide +kernel, rfl, co_X3_countPhrases, ini_WireBook_Kept, ⟨by decide +kernel, by decide +kernel⟩, by decide +kernel⟩
theorem im_X3_countPhrases : Cond.instanceMethod yX3_countPhrases ∈ lw_tbl := List.mem_of_getElem? (i := 403) (by decide +kernel)
theorem se_X3_countPhrases : Cond.selects RX3 yX3_countPhrases yX3_countPhrases ∈ lw_tbl := List.mem_of_getElem? (i := 1) (by decide +kernel)
theorem co_X3_firstFinding : Cond.code yX3_firstFinding cX3_firstFinding 4 (some .int) ∈ lw_tbl := List.mem_of_getElem? (i := 408) (by decide +kernel)
theorem st_X3_firstFinding : jSt mX3_firstFinding 2 := ⟨by decide +kernel, rfl, co_X3_firstFinding, ini_WireBook_Kept, ⟨by decide +kernel, by decide +kernel⟩, by decide +kernel⟩
theorem im_X3_firstFinding : Cond.instanceMethod yX3_firstFinding ∈ lw_tbl := List.mem_of_getElem? (i := 407) (by decide +kernel)
theorem se_X3_firstFinding : Cond.selects RX3 yX3_firstFinding yX3_firstFinding ∈ lw_tbl := List.mem_of_getElem? (i := 2) (by decide +kernel)
theorem co_X6_sameWords : Cond.code yX6_sameWords cX6_sameWords 6 (some .boolean) ∈ lw_tbl := List.mem_of_getElem? (i := 411) (by decide +kernel)
theorem st_X6_sameWords : jSt mX6_sameWords 5 := ⟨by decide +kernel, rfl, co_X6_sameWords, ini_WireBook, ⟨by decide +kernel, by decide +kernel⟩, by decide +kernel⟩
theorem sm_X6_sameWords : Cond.static yX6_sameWords ∈ lw_tbl := List.mem_of_getElem? (i := 410) (by decide +kernel)
theorem co_L_recall : Cond.codeWith yL_recall cL_recall 4 (some .int) [(0, 9, 12, 20)] ∈ lw_tbl := List.mem_of_getElem? (i := 414) (by decide +kernel)
theorem st_L_recall : jStX mL_recall 3 := ⟨by decide +kernel, co_L_recall, ini_WireBookLaw, ⟨by decide +kernel, by decide +kernel⟩, by decide +kernel⟩
theorem sm_L_recall : Cond.static yL_recall ∈ lw_tbl := List.mem_of_getElem? (i := 413) (by decide +kernel)
theorem co_X6_recall : Cond.code yX6_recall cX6_recall 2 (some .int) ∈ lw_tbl := List.mem_of_getElem? (i := 418) (by decide +kernel)
theorem st_X6_recall : jSt mX6_recall 1 := ⟨by decide +kernel, rfl, co_X6_recall, ini_WireBook, ⟨by decide +kernel, by decide +kernel⟩, by decide +kernel⟩
theorem im_X6_recall : Cond.instanceMethod yX6_recall ∈ lw_tbl := List.mem_of_getElem? (i := 416) (by decide +kernel)
theorem se_X6_recall : Cond.selects RX6 yX6_recall yX6_recall ∈ lw_tbl := List.mem_of_getElem? (i := 417) (by decide +kernel)
theorem co_X4_appendAll : Cond.code yX4_appendAll cX4_appendAll 5 none ∈ lw_tbl := List.mem_of_getElem? (i := 424) (by decide +kernel)
theorem st_X4_appendAll : jSt mX4_appendAll 3 := ⟨by decide +kernel, rfl, co_X4_appendAll, ini_WireBook_Line, ⟨by decide +kernel, by decide +kernel⟩, by decide +kernel⟩
theorem im_X4_appendAll : Cond.instanceMethod yX4_appendAll ∈ lw_tbl := List.mem_of_getElem? (i := 422) (by decide +kernel)
theorem se_X4_appendAll : Cond.selects RX4 yX4_appendAll yX4_appendAll ∈ lw_tbl := List.mem_of_getElem? (i := 423) (by decide +kernel)
theorem co_L_letter : Cond.codeWith yL_letter cL_letter 5 (some .int) [(0, 10, 13, 13), (0, 10, 17, 20)] ∈ lw_tbl := List.mem_of_getElem? (i := 428) (by decide +kernel)
theorem st_L_letter : jStX mL_letter 4 := ⟨by decide +kernel, co_L_letter, ini_WireBookLaw, ⟨by decide +kernel, by decide +kernel⟩, by decide +kernel⟩
theorem sm_L_letter : Cond.static yL_letter ∈ lw_tbl := List.mem_of_getElem? (i := 427) (by decide +kernel)
theorem co_X6_letter : Cond.code yX6_letter cX6_letter 3 (some .int) ∈ lw_tbl := List.mem_of_getElem? (i := 432) (by decide +kernel)
theorem st_X6_letter : jSt mX6_letter 2 := ⟨by decide +kernel, rfl, co_X6_letter, ini_WireBook, ⟨by decide +kernel, by decide +kernel⟩, by decide +kernel⟩
theorem im_X6_letter : Cond.instanceMethod yX6_letter ∈ lw_tbl := List.mem_of_getElem? (i := 430) (by decide +kernel)
theorem se_X6_letter : Cond.selects RX6 yX6_letter yX6_letter ∈ lw_tbl := List.mem_of_getElem? (i := 431) (by decide +kernel)
theorem co_X6_requireCode : Cond.code yX6_requireCode cX6_requireCode 1 none ∈ lw_tbl := List.mem_of_getElem? (i := 435) (by decide +kernel)
theorem st_X6_requireCode : jSt mX6_requireCode 1 := ⟨by decide +kernel, rfl, co_X6_requireCode, ini_WireBook, ⟨by decide +kernel, by decide +kernel⟩, by decide +kernel⟩
theorem sm_X6_requireCode : Cond.static yX6_requireCode ∈ lw_tbl := List.mem_of_getElem? (i := 434) (by decide +kernel)
theorem co_X6_requirePlace : Cond.code yX6_requirePlace cX6_requirePlace 2 none ∈ lw_tbl := List.mem_of_getElem? (i := 440) (by decide +kernel)
theorem st_X6_requirePlace : jSt mX6_requirePlace 2 := ⟨by decide +kernel, rfl, co_X6_requirePlace, ini_WireBook, ⟨by decide +kernel, by decide +kernel⟩, by decide +kernel⟩
theorem sm_X6_requirePlace : Cond.static yX6_requirePlace ∈ lw_tbl := List.mem_of_getElem? (i := 439) (by decide +kernel)
theorem co_X1_letterAt : Cond.code yX1_letterAt cX1_letterAt 4 (some .int) ∈ lw_tbl := List.mem_of_getElem? (i := 444) (by decide +kernel)
theorem st_X1_letterAt : jSt mX1_letterAt 2 := ⟨by decide +kernel, rfl, co_X1_letterAt, ini_WireBook_Code, ⟨by decide +kernel, by decide +kernel⟩, by decide +kernel⟩
theorem sm_X1_letterAt : Cond.static yX1_letterAt ∈ lw_tbl := List.mem_of_getElem? (i := 443) (by decide +kernel)
theorem co_L_reason : Cond.codeWith yL_reason cL_reason 5 (some .int) [(0, 10, 13, 20), (0, 10, 17, 13)] ∈ lw_tbl := List.mem_of_getElem? (i := 447) (by decide +kernel)
theorem st_L_reason : jStX mL_reason 4 := ⟨by decide +kernel, co_L_reason, ini_WireBookLaw, ⟨by decide +kernel, by decide +kernel⟩, by decide +kernel⟩
theorem sm_L_reason : Cond.static yL_reason ∈ lw_tbl := List.mem_of_getElem? (i := 446) (by decide +kernel)
theorem co_X6_reason : Cond.code yX6_reason cX6_reason 4 (some .int) ∈ lw_tbl := List.mem_of_getElem? (i := 451) (by decide +kernel)
theorem st_X6_reason : jSt mX6_reason 2 := ⟨by decide +kernel, rfl, co_X6_reason, ini_WireBook, ⟨by decide +kernel, by decide +kernel⟩, by decide +kernel⟩
theorem im_X6_reason : Cond.instanceMethod yX6_reason ∈ lw_tbl := List.mem_of_getElem? (i := 449) (by decide +kernel)
theorem se_X6_reason : Cond.selects RX6 yX6_reason yX6_reason ∈ lw_tbl := List.mem_of_getElem? (i := 450) (by decide +kernel)
theorem co_X6_requireBook : Cond.code yX6_requireBook cX6_requireBook 2 (some (.object "WireBook$Book")) ∈ lw_tbl := List.mem_of_getElem? (i := 455) (by decide +kernel)
theorem st_X6_requireBook : jSt mX6_requireBook 1 := ⟨by decide +kernel, rfl, co_X6_requireBook, ini_WireBook, ⟨by decide +kernel, by decide +kernel⟩, by decide +kernel⟩
theorem im_X6_requireBook : Cond.instanceMethod yX6_requireBook ∈ lw_tbl := List.mem_of_getElem? (i := 454) (by decide +kernel)
theorem se_X6_requireBook : Cond.selects RX6 yX6_requireBook yX6_requireBook ∈ lw_tbl := List.mem_of_getElem? (i := 3) (by decide +kernel)
theorem co_X0_reasonAgainst : Cond.code yX0_reasonAgainst cX0_reasonAgainst 5 (some .int) ∈ lw_tbl := List.mem_of_getElem? (i := 460) (by decide +kernel)
theorem st_X0_reasonAgainst : jSt mX0_reasonAgainst 1 := ⟨by decide +kernel, rfl, co_X0_reasonAgainst, ini_WireBook_Book, ⟨by decide +kernel, by decide +kernel⟩, by decide +kernel⟩
theorem im_X0_reasonAgainst : Cond.instanceMethod yX0_reasonAgainst ∈ lw_tbl := List.mem_of_getElem? (i := 458) (by decide +kernel)
theorem se_X0_reasonAgainst : Cond.selects RX0 yX0_reasonAgainst yX0_reasonAgainst ∈ lw_tbl := List.mem_of_getElem? (i := 459) (by decide +kernel)
theorem co_X1_likeness : Cond.code yX1_likeness cX1_likeness 7 (some .int) ∈ lw_tbl := List.mem_of_getElem? (i := 463) (by decide +kernel)
theorem st_X1_likeness : jSt mX1_likeness 2 := ⟨by decide +kernel, rfl, co_X1_likeness, ini_WireBook_Code, ⟨by decide +kernel, by decide +kernel⟩, by decide +kernel⟩
theorem sm_X1_likeness : Cond.static yX1_likeness ∈ lw_tbl := List.mem_of_getElem? (i := 462) (by decide +kernel)
theorem co_L_firstFit : Cond.codeWith yL_firstFit cL_firstFit 5 (some .int) [(0, 10, 13, 20), (0, 10, 17, 13)] ∈ lw_tbl := List.mem_of_getElem? (i := 466) (by decide +kernel)
theorem st_L_firstFit : jStX mL_firstFit 4 := ⟨by decide +kernel, co_L_firstFit, ini_WireBookLaw, ⟨by decide +kernel, by decide +kernel⟩, by decide +kernel⟩
theorem sm_L_firstFit : Cond.static yL_firstFit ∈ lw_tbl := List.mem_of_getElem? (i := 465) (by decide +kernel)
theorem co_X6_firstFit : Cond.code yX6_firstFit cX6_firstFit 4 (some .int) ∈ lw_tbl := List.mem_of_getElem? (i := 470) (by decide +kernel)
theorem st_X6_firstFit : jSt mX6_firstFit 2 := ⟨by decide +kernel, rfl, co_X6_firstFit, ini_WireBook, ⟨by decide +kernel, by decide +kernel⟩, by decide +kernel⟩
theorem im_X6_firstFit : Cond.instanceMethod yX6_firstFit ∈ lw_tbl := List.mem_of_getElem? (i := 468) (by decide +kernel)
theorem se_X6_firstFit : Cond.selects RX6 yX6_firstFit yX6_firstFit ∈ lw_tbl := List.mem_of_getElem? (i := 469) (by decide +kernel)
theorem co_X0_fitFrom : Cond.code yX0_fitFrom cX0_fitFrom 3 (some .int) ∈ lw_tbl := List.mem_of_getElem? (i := 474) (by decide +kernel)
theorem st_X0_fitFrom : jSt mX0_fitFrom 1 := ⟨by decide +kernel, rfl, co_X0_fitFrom, ini_WireBook_Book, ⟨by decide +kernel, by decide +kernel⟩, by decide +kernel⟩
theorem im_X0_fitFrom : Cond.instanceMethod yX0_fitFrom ∈ lw_tbl := List.mem_of_getElem? (i := 472) (by decide +kernel)
theorem se_X0_fitFrom : Cond.selects RX0 yX0_fitFrom yX0_fitFrom ∈ lw_tbl := List.mem_of_getElem? (i := 473) (by decide +kernel)
theorem co_L_define : Cond.codeWith yL_define cL_define 5 (some .int) [(0, 10, 13, 20), (0, 10, 17, 13), (0, 10, 21, 15)] ∈ lw_tbl := List.mem_of_getElem? (i := 479) (by decide +kernel)
theorem st_L_define : jStX mL_define 4 := ⟨by decide +kernel, co_L_define, ini_WireBookLaw, ⟨by decide +kernel, by decide +kernel⟩, by decide +kernel⟩
theorem sm_L_define : Cond.static yL_define ∈ lw_tbl := List.mem_of_getElem? (i := 478) (by decide +kernel)
theorem co_X6_define : Cond.code yX6_define cX6_define 4 (some .int) ∈ lw_tbl := List.mem_of_getElem? (i := 483) (by decide +kernel)
theorem st_X6_define : jSt mX6_define 2 := ⟨by decide +kernel, rfl, co_X6_define, ini_WireBook, ⟨by decide +kernel, by decide +kernel⟩, by decide +kernel⟩
theorem im_X6_define : Cond.instanceMethod yX6_define ∈ lw_tbl := List.mem_of_getElem? (i := 481) (by decide +kernel)
theorem se_X6_define : Cond.selects RX6 yX6_define yX6_define ∈ lw_tbl := List.mem_of_getElem? (i := 482) (by decide +kernel)
theorem co_X0_add : Cond.code yX0_add cX0_add 3 none ∈ lw_tbl := List.mem_of_getElem? (i := 489) (by decide +kernel)
theorem st_X0_add : jSt mX0_add 2 := ⟨by decide +kernel, rfl, co_X0_add, ini_WireBook_Book, ⟨by decide +kernel, by decide +kernel⟩, by decide +kernel⟩
theorem im_X0_add : Cond.instanceMethod yX0_add ∈ lw_tbl := List.mem_of_getElem? (i := 487) (by decide +kernel)
theorem se_X0_add : Cond.selects RX0 yX0_add yX0_add ∈ lw_tbl := List.mem_of_getElem? (i := 488) (by decide +kernel)
theorem co_L_drop : Cond.codeWith yL_drop cL_drop 5 (some .int) [(0, 10, 13, 20)] ∈ lw_tbl := List.mem_of_getElem? (i := 493) (by decide +kernel)
theorem st_L_drop : jStX mL_drop 4 := ⟨by decide +kernel, co_L_drop, ini_WireBookLaw, ⟨by decide +kernel, by decide +kernel⟩, by decide +kernel⟩
theorem sm_L_drop : Cond.static yL_drop ∈ lw_tbl := List.mem_of_getElem? (i := 492) (by decide +kernel)
theorem co_X6_drop : Cond.code yX6_drop cX6_drop 4 (some .int) ∈ lw_tbl := List.mem_of_getElem? (i := 497) (by decide +kernel)
theorem st_X6_drop : jSt mX6_drop 2 := ⟨by decide +kernel, rfl, co_X6_drop, ini_WireBook, ⟨by decide +kernel, by decide +kernel⟩, by decide +kernel⟩
theorem im_X6_drop : Cond.instanceMethod yX6_drop ∈ lw_tbl := List.mem_of_getElem? (i := 495) (by decide +kernel)
theorem se_X6_drop : Cond.selects RX6 yX6_drop yX6_drop ∈ lw_tbl := List.mem_of_getElem? (i := 496) (by decide +kernel)
theorem co_X6_requireEntry : Cond.code yX6_requireEntry cX6_requireEntry 2 none ∈ lw_tbl := List.mem_of_getElem? (i := 500) (by decide +kernel)
theorem st_X6_requireEntry : jSt mX6_requireEntry 2 := ⟨by decide +kernel, rfl, co_X6_requireEntry, ini_WireBook, ⟨by decide +kernel, by decide +kernel⟩, by decide +kernel⟩
theorem sm_X6_requireEntry : Cond.static yX6_requireEntry ∈ lw_tbl := List.mem_of_getElem? (i := 499) (by decide +kernel)
theorem co_X0_remove : Cond.code yX0_remove cX0_remove 4 none ∈ lw_tbl := List.mem_of_getElem? (i := 505) (by decide +kernel)
theorem st_X0_remove : jSt mX0_remove 1 := ⟨by decide +kernel, rfl, co_X0_remove, ini_WireBook_Book, ⟨by decide +kernel, by decide +kernel⟩, by decide +kernel⟩
theorem im_X0_remove : Cond.instanceMethod yX0_remove ∈ lw_tbl := List.mem_of_getElem? (i := 503) (by decide +kernel)
theorem se_X0_remove : Cond.selects RX0 yX0_remove yX0_remove ∈ lw_tbl := List.mem_of_getElem? (i := 504) (by decide +kernel)
theorem co_L_entries : Cond.codeWith yL_entries cL_entries 4 (some .int) [(0, 9, 12, 20)] ∈ lw_tbl := List.mem_of_getElem? (i := 508) (by decide +kernel)
theorem st_L_entries : jStX mL_entries 3 := ⟨by decide +kernel, co_L_entries, ini_WireBookLaw, ⟨by decide +kernel, by decide +kernel⟩, by decide +kernel⟩
theorem sm_L_entries : Cond.static yL_entries ∈ lw_tbl := List.mem_of_getElem? (i := 507) (by decide +kernel)
theorem co_X6_entries : Cond.code yX6_entries cX6_entries 2 (some .int) ∈ lw_tbl := List.mem_of_getElem? (i := 512) (by decide +kernel)
theorem st_X6_entries : jSt mX6_entries 1 := ⟨by decide +kernel, rfl, co_X6_entries, ini_WireBook, ⟨by decide +kernel, by decide +kernel⟩, by decide +kernel⟩
theorem im_X6_entries : Cond.instanceMethod yX6_entries ∈ lw_tbl := List.mem_of_getElem? (i := 510) (by decide +kernel)
theorem se_X6_entries : Cond.selects RX6 yX6_entries yX6_entries ∈ lw_tbl := List.mem_of_getElem? (i := 511) (by decide +kernel)
theorem co_L_entry : Cond.codeWith yL_entry cL_entry 6 (some .int) [(0, 12, 15, 20)] ∈ lw_tbl := List.mem_of_getElem? (i := 515) (by decide +kernel)
theorem st_L_entry : jStX mL_entry 5 := ⟨by decide +kernel, co_L_entry, ini_WireBookLaw, ⟨by decide +kernel, by decide +kernel⟩, by decide +kernel⟩
theorem sm_L_entry : Cond.static yL_entry ∈ lw_tbl := List.mem_of_getElem? (i := 514) (by decide +kernel)
theorem co_X6_entry : Cond.code yX6_entry cX6_entry 5 (some .int) ∈ lw_tbl := List.mem_of_getElem? (i := 519) (by decide +kernel)
theorem st_X6_entry : jSt mX6_entry 3 := ⟨by decide +kernel, rfl, co_X6_entry, ini_WireBook, ⟨by decide +kernel, by decide +kernel⟩, by decide +kernel⟩
theorem im_X6_entry : Cond.instanceMethod yX6_entry ∈ lw_tbl := List.mem_of_getElem? (i := 517) (by decide +kernel)
theorem se_X6_entry : Cond.selects RX6 yX6_entry yX6_entry ∈ lw_tbl := List.mem_of_getElem? (i := 518) (by decide +kernel)
theorem co_L_find : Cond.codeWith yL_find cL_find 5 (some .int) [(0, 10, 13, 20), (0, 10, 17, 13)] ∈ lw_tbl := List.mem_of_getElem? (i := 524) (by decide +kernel)
theorem st_L_find : jStX mL_find 4 := ⟨by decide +kernel, co_L_find, ini_WireBookLaw, ⟨by decide +kernel, by decide +kernel⟩, by decide +kernel⟩
theorem sm_L_find : Cond.static yL_find ∈ lw_tbl := List.mem_of_getElem? (i := 523) (by decide +kernel)
theorem co_X6_find : Cond.code yX6_find cX6_find 4 (some .int) ∈ lw_tbl := List.mem_of_getElem? (i := 528) (by decide +kernel)
theorem st_X6_find : jSt mX6_find 2 := ⟨by decide +kernel, rfl, co_X6_find, ini_WireBook, ⟨by decide +kernel, by decide +kernel⟩, by decide +kernel⟩
theorem im_X6_find : Cond.instanceMethod yX6_find ∈ lw_tbl := List.mem_of_getElem? (i := 526) (by decide +kernel)
theorem se_X6_find : Cond.selects RX6 yX6_find yX6_find ∈ lw_tbl := List.mem_of_getElem? (i := 527) (by decide +kernel)
theorem co_X0_entryWith : Cond.code yX0_entryWith cX0_entryWith 3 (some .int) ∈ lw_tbl := List.mem_of_getElem? (i := 532) (by decide +kernel)
theorem st_X0_entryWith : jSt mX0_entryWith 1 := ⟨by decide +kernel, rfl, co_X0_entryWith, ini_WireBook_Book, ⟨by decide +kernel, by decide +kernel⟩, by decide +kernel⟩
theorem im_X0_entryWith : Cond.instanceMethod yX0_entryWith ∈ lw_tbl := List.mem_of_getElem? (i := 530) (by decide +kernel)
theorem se_X0_entryWith : Cond.selects RX0 yX0_entryWith yX0_entryWith ∈ lw_tbl := List.mem_of_getElem? (i := 531) (by decide +kernel)
theorem co_L_setPrice : Cond.codeWith yL_setPrice cL_setPrice 4 (some .int) [(0, 9, 12, 13)] ∈ lw_tbl := List.mem_of_getElem? (i := 535) (by decide +kernel)
theorem st_L_setPrice : jStX mL_setPrice 3 := ⟨by decide +kernel, co_L_setPrice, ini_WireBookLaw, ⟨by decide +kernel, by decide +kernel⟩, by decide +kernel⟩
theorem sm_L_setPrice : Cond.static yL_setPrice ∈ lw_tbl := List.mem_of_getElem? (i := 534) (by decide +kernel)
theorem co_X6_setPrice : Cond.code yX6_setPrice cX6_setPrice 3 (some .int) ∈ lw_tbl := List.mem_of_getElem? (i := 539) (by decide +kernel)
theorem st_X6_setPrice : jSt mX6_setPrice 1 := ⟨by decide +kernel, rfl, co_X6_setPrice, ini_WireBook, ⟨by decide +kernel, by decide +kernel⟩, by decide +kernel⟩
theorem im_X6_setPrice : Cond.instanceMethod yX6_setPrice ∈ lw_tbl := List.mem_of_getElem? (i := 537) (by decide +kernel)
theorem se_X6_setPrice : Cond.selects RX6 yX6_setPrice yX6_setPrice ∈ lw_tbl := List.mem_of_getElem? (i := 538) (by decide +kernel)
theorem co_L_encode : Cond.codeWith yL_encode cL_encode 4 (some .int) [(0, 9, 12, 20)] ∈ lw_tbl := List.mem_of_getElem? (i := 543) (by decide +kernel)
theorem st_L_encode : jStX mL_encode 3 := ⟨by decide +kernel, co_L_encode, ini_WireBookLaw, ⟨by decide +kernel, by decide +kernel⟩, by decide +kernel⟩
theorem sm_L_encode : Cond.static yL_encode ∈ lw_tbl := List.mem_of_getElem? (i := 542) (by decide +kernel)
theorem co_X6_encode : Cond.code yX6_encode cX6_encode 7 (some .int) ∈ lw_tbl := List.mem_of_getElem? (i := 547) (by decide +kernel)
theorem st_X6_encode : jSt mX6_encode 1 := ⟨by decide +kernel, rfl, co_X6_encode, ini_WireBook, ⟨by decide +kernel, by decide +kernel⟩, by decide +kernel⟩
theorem im_X6_encode : Cond.instanceMethod yX6_encode ∈ lw_tbl := List.mem_of_getElem? (i := 545) (by decide +kernel)
theorem se_X6_encode : Cond.selects RX6 yX6_encode yX6_encode ∈ lw_tbl := List.mem_of_getElem? (i := 546) (by decide +kernel)
theorem co_X2_divide : Cond.code yX2_divide cX2_divide 7 (some .int) ∈ lw_tbl := List.mem_of_getElem? (i := 551) (by decide +kernel)
theorem st_X2_divide : jSt mX2_divide 5 := ⟨by decide +kernel, rfl, co_X2_divide, ini_WireBook_Division, ⟨by decide +kernel, by decide +kernel⟩, by decide +kernel⟩
theorem im_X2_divide : Cond.instanceMethod yX2_divide ∈ lw_tbl := List.mem_of_getElem? (i := 549) (by decide +kernel)
theorem se_X2_divide : Cond.selects RX2 yX2_divide yX2_divide ∈ lw_tbl := List.mem_of_getElem? (i := 550) (by decide +kernel)
theorem co_X2_bestPiece : Cond.code yX2_bestPiece cX2_bestPiece 12 (some .int) ∈ lw_tbl := List.mem_of_getElem? (i := 555) (by decide +kernel)
theorem st_X2_bestPiece : jSt mX2_bestPiece 6 := ⟨by decide +kernel, rfl, co_X2_bestPiece, ini_WireBook_Division, ⟨by decide +kernel, by decide +kernel⟩, by decide +kernel⟩
theorem im_X2_bestPiece : Cond.instanceMethod yX2_bestPiece ∈ lw_tbl := List.mem_of_getElem? (i := 554) (by decide +kernel)
theorem se_X2_bestPiece : Cond.selects RX2 yX2_bestPiece yX2_bestPiece ∈ lw_tbl := List.mem_of_getElem? (i := 4) (by decide +kernel)
theorem co_X0_goesAhead : Cond.code yX0_goesAhead cX0_goesAhead 3 (some .boolean) ∈ lw_tbl := List.mem_of_getElem? (i := 561) (by decide +kernel)
theorem st_X0_goesAhead : jSt mX0_goesAhead 2 := ⟨by decide +kernel, rfl, co_X0_goesAhead, ini_WireBook_Book, ⟨by decide +kernel, by decide +kernel⟩, by decide +kernel⟩
theorem im_X0_goesAhead : Cond.instanceMethod yX0_goesAhead ∈ lw_tbl := List.mem_of_getElem? (i := 559) (by decide +kernel)
theorem se_X0_goesAhead : Cond.selects RX0 yX0_goesAhead yX0_goesAhead ∈ lw_tbl := List.mem_of_getElem? (i := 560) (by decide +kernel)
theorem co_X5_clear : Cond.code yX5_clear cX5_clear 1 none ∈ lw_tbl := List.mem_of_getElem? (i := 565) (by decide +kernel)
theorem st_X5_clear : jSt mX5_clear 0 := ⟨by decide +kernel, rfl, co_X5_clear, ini_WireBook_Message, ⟨by decide +kernel, by decide +kernel⟩, by decide +kernel⟩
theorem im_X5_clear : Cond.instanceMethod yX5_clear ∈ lw_tbl := List.mem_of_getElem? (i := 563) (by decide +kernel)
theorem se_X5_clear : Cond.selects RX5 yX5_clear yX5_clear ∈ lw_tbl := List.mem_of_getElem? (i := 564) (by decide +kernel)
theorem co_X5_plain : Cond.code yX5_plain cX5_plain 1 (some .int) ∈ lw_tbl := List.mem_of_getElem? (i := 568) (by decide +kernel)
theorem st_X5_plain : jSt mX5_plain 1 := ⟨by decide +kernel, rfl, co_X5_plain, ini_WireBook_Message, ⟨by decide +kernel, by decide +kernel⟩, by decide +kernel⟩
theorem sm_X5_plain : Cond.static yX5_plain ∈ lw_tbl := List.mem_of_getElem? (i := 567) (by decide +kernel)
theorem co_X5_append : Cond.code yX5_append cX5_append 2 none ∈ lw_tbl := List.mem_of_getElem? (i := 572) (by decide +kernel)
theorem st_X5_append : jSt mX5_append 1 := ⟨by decide +kernel, rfl, co_X5_append, ini_WireBook_Message, ⟨by decide +kernel, by decide +kernel⟩, by decide +kernel⟩
theorem im_X5_append : Cond.instanceMethod yX5_append ∈ lw_tbl := List.mem_of_getElem? (i := 570) (by decide +kernel)
theorem se_X5_append : Cond.selects RX5 yX5_append yX5_append ∈ lw_tbl := List.mem_of_getElem? (i := 571) (by decide +kernel)
theorem co_L_group : Cond.codeWith yL_group cL_group 4 (some .int) [(0, 9, 12, 20)] ∈ lw_tbl := List.mem_of_getElem? (i := 575) (by decide +kernel)
theorem st_L_group : jStX mL_group 3 := ⟨by decide +kernel, co_L_group, ini_WireBookLaw, ⟨by decide +kernel, by decide +kernel⟩, by decide +kernel⟩
theorem sm_L_group : Cond.static yL_group ∈ lw_tbl := List.mem_of_getElem? (i := 574) (by decide +kernel)
theorem co_X6_group : Cond.code yX6_group cX6_group 2 (some .int) ∈ lw_tbl := List.mem_of_getElem? (i := 579) (by decide +kernel)
theorem st_X6_group : jSt mX6_group 1 := ⟨by decide +kernel, rfl, co_X6_group, ini_WireBook, ⟨by decide +kernel, by decide +kernel⟩, by decide +kernel⟩
theorem im_X6_group : Cond.instanceMethod yX6_group ∈ lw_tbl := List.mem_of_getElem? (i := 577) (by decide +kernel)
theorem se_X6_group : Cond.selects RX6 yX6_group yX6_group ∈ lw_tbl := List.mem_of_getElem? (i := 578) (by decide +kernel)
theorem co_X6_requireGroup : Cond.code yX6_requireGroup cX6_requireGroup 2 none ∈ lw_tbl := List.mem_of_getElem? (i := 583) (by decide +kernel)
theorem st_X6_requireGroup : jSt mX6_requireGroup 1 := ⟨by decide +kernel, rfl, co_X6_requireGroup, ini_WireBook, ⟨by decide +kernel, by decide +kernel⟩, by decide +kernel⟩
theorem im_X6_requireGroup : Cond.instanceMethod yX6_requireGroup ∈ lw_tbl := List.mem_of_getElem? (i := 582) (by decide +kernel)
theorem se_X6_requireGroup : Cond.selects RX6 yX6_requireGroup yX6_requireGroup ∈ lw_tbl := List.mem_of_getElem? (i := 5) (by decide +kernel)
theorem co_L_garble : Cond.codeWith yL_garble cL_garble 6 (some .int) [(0, 12, 15, 20), (0, 12, 19, 13), (0, 12, 23, 15)] ∈ lw_tbl := List.mem_of_getElem? (i := 587) (by decide +kernel)
theorem st_L_garble : jStX mL_garble 5 := ⟨by decide +kernel, co_L_garble, ini_WireBookLaw, ⟨by decide +kernel, by decide +kernel⟩, by decide +kernel⟩
theorem sm_L_garble : Cond.static yL_garble ∈ lw_tbl := List.mem_of_getElem? (i := 586) (by decide +kernel)
theorem co_X6_garble : Cond.code yX6_garble cX6_garble 5 (some .int) ∈ lw_tbl := List.mem_of_getElem? (i := 591) (by decide +kernel)
theorem st_X6_garble : jSt mX6_garble 3 := ⟨by decide +kernel, rfl, co_X6_garble, ini_WireBook, ⟨by decide +kernel, by decide +kernel⟩, by decide +kernel⟩
theorem im_X6_garble : Cond.instanceMethod yX6_garble ∈ lw_tbl := List.mem_of_getElem? (i := 589) (by decide +kernel)
theorem se_X6_garble : Cond.selects RX6 yX6_garble yX6_garble ∈ lw_tbl := List.mem_of_getElem? (i := 590) (by decide +kernel)
theorem co_X6_requireCodeWord : Cond.code yX6_requireCodeWord cX6_requireCodeWord 2 none ∈ lw_tbl := List.mem_of_getElem? (i := 596) (by decide +kernel)
theorem st_X6_requireCodeWord : jSt mX6_requireCodeWord 1 := ⟨by decide +kernel, rfl, co_X6_requireCodeWord, ini_WireBook, ⟨by decide +kernel, by decide +kernel⟩, by decide +kernel⟩
theorem im_X6_requireCodeWord : Cond.instanceMethod yX6_requireCodeWord ∈ lw_tbl := List.mem_of_getElem? (i := 595) (by decide +kernel)
theorem se_X6_requireCodeWord : Cond.selects RX6 yX6_requireCodeWord yX6_requireCodeWord ∈ lw_tbl := List.mem_of_getElem? (i := 6) (by decide +kernel)
theorem co_X1_withLetter : Cond.code yX1_withLetter cX1_withLetter 5 (some .int) ∈ lw_tbl := List.mem_of_getElem? (i := 601) (by decide +kernel)
theorem st_X1_withLetter : jSt mX1_withLetter 3 := ⟨by decide +kernel, rfl, co_X1_withLetter, ini_WireBook_Code, ⟨by decide +kernel, by decide +kernel⟩, by decide +kernel⟩
theorem sm_X1_withLetter : Cond.static yX1_withLetter ∈ lw_tbl := List.mem_of_getElem? (i := 600) (by decide +kernel)
theorem co_L_swap : Cond.codeWith yL_swap cL_swap 5 (some .int) [(0, 10, 13, 20), (0, 10, 17, 15)] ∈ lw_tbl := List.mem_of_getElem? (i := 605) (by decide +kernel)
theorem st_L_swap : jStX mL_swap 4 := ⟨by decide +kernel, co_L_swap, ini_WireBookLaw, ⟨by decide +kernel, by decide +kernel⟩, by decide +kernel⟩
theorem sm_L_swap : Cond.static yL_swap ∈ lw_tbl := List.mem_of_getElem? (i := 604) (by decide +kernel)
theorem co_X6_swap : Cond.code yX6_swap cX6_swap 3 (some .int) ∈ lw_tbl := List.mem_of_getElem? (i := 609) (by decide +kernel)
theorem st_X6_swap : jSt mX6_swap 2 := ⟨by decide +kernel, rfl, co_X6_swap, ini_WireBook, ⟨by decide +kernel, by decide +kernel⟩, by decide +kernel⟩
theorem im_X6_swap : Cond.instanceMethod yX6_swap ∈ lw_tbl := List.mem_of_getElem? (i := 607) (by decide +kernel)
theorem se_X6_swap : Cond.selects RX6 yX6_swap yX6_swap ∈ lw_tbl := List.mem_of_getElem? (i := 608) (by decide +kernel)
theorem co_X1_swapped : Cond.code yX1_swapped cX1_swapped 4 (some .int) ∈ lw_tbl := List.mem_of_getElem? (i := 612) (by decide +kernel)
theorem st_X1_swapped : jSt mX1_swapped 2 := ⟨by decide +kernel, rfl, co_X1_swapped, ini_WireBook_Code, ⟨by decide +kernel, by decide +kernel⟩, by decide +kernel⟩
theorem sm_X1_swapped : Cond.static yX1_swapped ∈ lw_tbl := List.mem_of_getElem? (i := 611) (by decide +kernel)
theorem co_L_decode : Cond.codeWith yL_decode cL_decode 4 (some .int) [(0, 9, 12, 20)] ∈ lw_tbl := List.mem_of_getElem? (i := 616) (by decide +kernel)
theorem st_L_decode : jStX mL_decode 3 := ⟨by decide +kernel, co_L_decode, ini_WireBookLaw, ⟨by decide +kernel, by decide +kernel⟩, by decide +kernel⟩
theorem sm_L_decode : Cond.static yL_decode ∈ lw_tbl := List.mem_of_getElem? (i := 615) (by decide +kernel)
theorem co_X6_decode : Cond.code yX6_decode cX6_decode 5 (some .int) ∈ lw_tbl := List.mem_of_getElem? (i := 620) (by decide +kernel)
theorem st_X6_decode : jSt mX6_decode 1 := ⟨by decide +kernel, rfl, co_X6_decode, ini_WireBook, ⟨by decide +kernel, by decide +kernel⟩, by decide +kernel⟩
theorem im_X6_decode : Cond.instanceMethod yX6_decode ∈ lw_tbl := List.mem_of_getElem? (i := 618) (by decide +kernel)
theorem se_X6_decode : Cond.selects RX6 yX6_decode yX6_decode ∈ lw_tbl := List.mem_of_getElem? (i := 619) (by decide +kernel)
theorem co_X6_read : Cond.code yX6_read cX6_read 5 (some .int) ∈ lw_tbl := List.mem_of_getElem? (i := 624) (by decide +kernel)
theorem st_X6_read : jSt mX6_read 2 := ⟨by decide +kernel, rfl, co_X6_read, ini_WireBook, ⟨by decide +kernel, by decide +kernel⟩, by decide +kernel⟩
theorem im_X6_read : Cond.instanceMethod yX6_read ∈ lw_tbl := List.mem_of_getElem? (i := 623) (by decide +kernel)
theorem se_X6_read : Cond.selects RX6 yX6_read yX6_read ∈ lw_tbl := List.mem_of_getElem? (i := 7) (by decide +kernel)
theorem co_X0_onlyEntryLike : Cond.code yX0_onlyEntryLike cX0_onlyEntryLike 4 (some .int) ∈ lw_tbl := List.mem_of_getElem? (i := 629) (by decide +kernel)
theorem st_X0_onlyEntryLike : jSt mX0_onlyEntryLike 1 := ⟨by decide +kernel, rfl, co_X0_onlyEntryLike, ini_WireBook_Book, ⟨by decide +kernel, by decide +kernel⟩, by decide +kernel⟩
theorem im_X0_onlyEntryLike : Cond.instanceMethod yX0_onlyEntryLike ∈ lw_tbl := List.mem_of_getElem? (i := 627) (by decide +kernel)
theorem se_X0_onlyEntryLike : Cond.selects RX0 yX0_onlyEntryLike yX0_onlyEntryLike ∈ lw_tbl := List.mem_of_getElem? (i := 628) (by decide +kernel)
theorem co_L_how : Cond.codeWith yL_how cL_how 4 (some .int) [(0, 9, 12, 20)] ∈ lw_tbl := List.mem_of_getElem? (i := 632) (by decide +kernel)
theorem st_L_how : jStX mL_how 3 := ⟨by decide +kernel, co_L_how, ini_WireBookLaw, ⟨by decide +kernel, by decide +kernel⟩, by decide +kernel⟩
theorem sm_L_how : Cond.static yL_how ∈ lw_tbl := List.mem_of_getElem? (i := 631) (by decide +kernel)
theorem co_X6_how : Cond.code yX6_how cX6_how 2 (some .int) ∈ lw_tbl := List.mem_of_getElem? (i := 636) (by decide +kernel)
theorem st_X6_how : jSt mX6_how 1 := ⟨by decide +kernel, rfl, co_X6_how, ini_WireBook, ⟨by decide +kernel, by decide +kernel⟩, by decide +kernel⟩
theorem im_X6_how : Cond.instanceMethod yX6_how ∈ lw_tbl := List.mem_of_getElem? (i := 634) (by decide +kernel)
theorem se_X6_how : Cond.selects RX6 yX6_how yX6_how ∈ lw_tbl := List.mem_of_getElem? (i := 635) (by decide +kernel)
theorem co_L_share : Cond.codeWith yL_share cL_share 4 (some .int) [(0, 8, 11, 20)] ∈ lw_tbl := List.mem_of_getElem? (i := 640) (by decide +kernel)
theorem st_L_share : jStX mL_share 3 := ⟨by decide +kernel, co_L_share, ini_WireBookLaw, ⟨by decide +kernel, by decide +kernel⟩, by decide +kernel⟩
theorem sm_L_share : Cond.static yL_share ∈ lw_tbl := List.mem_of_getElem? (i := 639) (by decide +kernel)
theorem co_X6_share : Cond.code yX6_share cX6_share 6 (some .double) ∈ lw_tbl := List.mem_of_getElem? (i := 644) (by decide +kernel)
theorem st_X6_share : jSt mX6_share 1 := ⟨by decide +kernel, rfl, co_X6_share, ini_WireBook, ⟨by decide +kernel, by decide +kernel⟩, by decide +kernel⟩
theorem im_X6_share : Cond.instanceMethod yX6_share ∈ lw_tbl := List.mem_of_getElem? (i := 642) (by decide +kernel)
theorem se_X6_share : Cond.selects RX6 yX6_share yX6_share ∈ lw_tbl := List.mem_of_getElem? (i := 643) (by decide +kernel)
theorem co_L_propose : Cond.codeWith yL_propose cL_propose 4 (some .int) [(0, 9, 12, 20)] ∈ lw_tbl := List.mem_of_getElem? (i := 647) (by decide +kernel)
theorem st_L_propose : jStX mL_propose 3 := ⟨by decide +kernel, co_L_propose, ini_WireBookLaw, ⟨by decide +kernel, by decide +kernel⟩, by decide +kernel⟩
theorem sm_L_propose : Cond.static yL_propose ∈ lw_tbl := List.mem_of_getElem? (i := 646) (by decide +kernel)
theorem co_X6_propose : Cond.code yX6_propose cX6_propose 2 (some .int) ∈ lw_tbl := List.mem_of_getElem? (i := 651) (by decide +kernel)
theorem st_X6_propose : jSt mX6_propose 1 := ⟨by decide +kernel, rfl, co_X6_propose, ini_WireBook, ⟨by decide +kernel, by decide +kernel⟩, by decide +kernel⟩
theorem im_X6_propose : Cond.instanceMethod yX6_propose ∈ lw_tbl := List.mem_of_getElem? (i := 649) (by decide +kernel)
theorem se_X6_propose : Cond.selects RX6 yX6_propose yX6_propose ∈ lw_tbl := List.mem_of_getElem? (i := 650) (by decide +kernel)
theorem co_X3_proposeOn : Cond.code yX3_proposeOn cX3_proposeOn 11 (some .int) ∈ lw_tbl := List.mem_of_getElem? (i := 655) (by decide +kernel)
theorem st_X3_proposeOn : jSt mX3_proposeOn 3 := ⟨by decide +kernel, rfl, co_X3_proposeOn, ini_WireBook_Kept, ⟨by decide +kernel, by decide +kernel⟩, by decide +kernel⟩
theorem im_X3_proposeOn : Cond.instanceMethod yX3_proposeOn ∈ lw_tbl := List.mem_of_getElem? (i := 653) (by decide +kernel)
theorem se_X3_proposeOn : Cond.selects RX3 yX3_proposeOn yX3_proposeOn ∈ lw_tbl := List.mem_of_getElem? (i := 654) (by decide +kernel)
theorem co_X0_hasPhrase : Cond.code yX0_hasPhrase cX0_hasPhrase 5 (some .boolean) ∈ lw_tbl := List.mem_of_getElem? (i := 659) (by decide +kernel)
theorem st_X0_hasPhrase : jSt mX0_hasPhrase 3 := ⟨by decide +kernel, rfl, co_X0_hasPhrase, ini_WireBook_Book, ⟨by decide +kernel, by decide +kernel⟩, by decide +kernel⟩
theorem im_X0_hasPhrase : Cond.instanceMethod yX0_hasPhrase ∈ lw_tbl := List.mem_of_getElem? (i := 657) (by decide +kernel)
theorem se_X0_hasPhrase : Cond.selects RX0 yX0_hasPhrase yX0_hasPhrase ∈ lw_tbl := List.mem_of_getElem? (i := 658) (by decide +kernel)
theorem co_L_learn : Cond.codeWith yL_learn cL_learn 5 (some .int) [(0, 10, 13, 20), (0, 10, 17, 13)] ∈ lw_tbl := List.mem_of_getElem? (i := 665) (by decide +kernel)
theorem st_L_learn : jStX mL_learn 4 := ⟨by decide +kernel, co_L_learn, ini_WireBookLaw, ⟨by decide +kernel, by decide +kernel⟩, by decide +kernel⟩
theorem sm_L_learn : Cond.static yL_learn ∈ lw_tbl := List.mem_of_getElem? (i := 664) (by decide +kernel)
theorem co_X6_learn : Cond.code yX6_learn cX6_learn 5 (some .int) ∈ lw_tbl := List.mem_of_getElem? (i := 669) (by decide +kernel)
theorem st_X6_learn : jSt mX6_learn 2 := ⟨by decide +kernel, rfl, co_X6_learn, ini_WireBook, ⟨by decide +kernel, by decide +kernel⟩, by decide +kernel⟩
theorem im_X6_learn : Cond.instanceMethod yX6_learn ∈ lw_tbl := List.mem_of_getElem? (i := 667) (by decide +kernel)
theorem se_X6_learn : Cond.selects RX6 yX6_learn yX6_learn ∈ lw_tbl := List.mem_of_getElem? (i := 668) (by decide +kernel)
theorem co_X6_learnOne : Cond.code yX6_learnOne cX6_learnOne 3 (some .boolean) ∈ lw_tbl := List.mem_of_getElem? (i := 674) (by decide +kernel)
theorem st_X6_learnOne : jSt mX6_learnOne 1 := ⟨by decide +kernel, rfl, co_X6_learnOne, ini_WireBook, ⟨by decide +kernel, by decide +kernel⟩, by decide +kernel⟩
theorem im_X6_learnOne : Cond.instanceMethod yX6_learnOne ∈ lw_tbl := List.mem_of_getElem? (i := 673) (by decide +kernel)
theorem se_X6_learnOne : Cond.selects RX6 yX6_learnOne yX6_learnOne ∈ lw_tbl := List.mem_of_getElem? (i := 8) (by decide +kernel)
theorem co_X0_latestCode : Cond.code yX0_latestCode cX0_latestCode 1 (some .int) ∈ lw_tbl := List.mem_of_getElem? (i := 678) (by decide +kernel)
theorem st_X0_latestCode : jSt mX0_latestCode 0 := ⟨by decide +kernel, rfl, co_X0_latestCode, ini_WireBook_Book, ⟨by decide +kernel, by decide +kernel⟩, by decide +kernel⟩
theorem im_X0_latestCode : Cond.instanceMethod yX0_latestCode ∈ lw_tbl := List.mem_of_getElem? (i := 676) (by decide +kernel)
theorem se_X0_latestCode : Cond.selects RX0 yX0_latestCode yX0_latestCode ∈ lw_tbl := List.mem_of_getElem? (i := 677) (by decide +kernel)
theorem co_X7_init : Cond.code yX7_init cX7_init 1 none ∈ lw_tbl := List.mem_of_getElem? (i := 683) (by decide +kernel)
theorem st_X7_init : jSt mX7_init 0 := ⟨by decide +kernel, rfl, co_X7_init, ini_WireBookModel, ⟨by decide +kernel, by decide +kernel⟩, by decide +kernel⟩
theorem im_X7_init : Cond.instanceMethod yX7_init ∈ lw_tbl := List.mem_of_getElem? (i := 682) (by decide +kernel)
theorem co_X7_thrown : Cond.code yX7_thrown cX7_thrown 1 (some .int) ∈ lw_tbl := List.mem_of_getElem? (i := 746) (by decide +kernel)
theorem st_X7_thrown : jSt mX7_thrown 0 := ⟨by decide +kernel, rfl, co_X7_thrown, ini_WireBookModel, ⟨by decide +kernel, by decide +kernel⟩, by decide +kernel⟩
theorem im_X7_thrown : Cond.instanceMethod yX7_thrown ∈ lw_tbl := List.mem_of_getElem? (i := 744) (by decide +kernel)
theorem se_X7_thrown : Cond.selects RX7 yX7_thrown yX7_thrown ∈ lw_tbl := List.mem_of_getElem? (i := 745) (by decide +kernel)
theorem co_X7_say : Cond.code yX7_say cX7_say 2 (some .int) ∈ lw_tbl := List.mem_of_getElem? (i := 750) (by decide +kernel)
theorem st_X7_say : jSt mX7_say 1 := ⟨by decide +kernel, rfl, co_X7_say, ini_WireBookModel, ⟨by decide +kernel, by decide +kernel⟩, by decide +kernel⟩
theorem im_X7_say : Cond.instanceMethod yX7_say ∈ lw_tbl := List.mem_of_getElem? (i := 748) (by decide +kernel)
theorem se_X7_say : Cond.selects RX7 yX7_say yX7_say ∈ lw_tbl := List.mem_of_getElem? (i := 749) (by decide +kernel)
theorem co_X7_isIn : Cond.code yX7_isIn cX7_isIn 3 (some .boolean) ∈ lw_tbl := List.mem_of_getElem? (i := 753) (by decide +kernel)
theorem st_X7_isIn : jSt mX7_isIn 3 := ⟨by decide +kernel, rfl, co_X7_isIn, ini_WireBookModel, ⟨by decide +kernel, by decide +kernel⟩, by decide +kernel⟩
theorem sm_X7_isIn : Cond.static yX7_isIn ∈ lw_tbl := List.mem_of_getElem? (i := 752) (by decide +kernel)
theorem co_X7_no : Cond.code yX7_no cX7_no 2 (some .int) ∈ lw_tbl := List.mem_of_getElem? (i := 757) (by decide +kernel)
theorem st_X7_no : jSt mX7_no 1 := ⟨by decide +kernel, rfl, co_X7_no, ini_WireBookModel, ⟨by decide +kernel, by decide +kernel⟩, by decide +kernel⟩
theorem im_X7_no : Cond.instanceMethod yX7_no ∈ lw_tbl := List.mem_of_getElem? (i := 756) (by decide +kernel)
theorem se_X7_no : Cond.selects RX7 yX7_no yX7_no ∈ lw_tbl := List.mem_of_getElem? (i := 9) (by decide +kernel)
theorem co_X7_empty : Cond.code yX7_empty cX7_empty 2 (some .int) ∈ lw_tbl := List.mem_of_getElem? (i := 761) (by decide +kernel)
theorem st_X7_empty : jSt mX7_empty 0 := ⟨by decide +kernel, rfl, co_X7_empty, ini_WireBookModel, ⟨by decide +kernel, by decide +kernel⟩, by decide +kernel⟩
theorem im_X7_empty : Cond.instanceMethod yX7_empty ∈ lw_tbl := List.mem_of_getElem? (i := 759) (by decide +kernel)
theorem se_X7_empty : Cond.selects RX7 yX7_empty yX7_empty ∈ lw_tbl := List.mem_of_getElem? (i := 760) (by decide +kernel)
theorem co_X7_words : Cond.code yX7_words cX7_words 1 (some .int) ∈ lw_tbl := List.mem_of_getElem? (i := 765) (by decide +kernel)
theorem st_X7_words : jSt mX7_words 0 := ⟨by decide +kernel, rfl, co_X7_words, ini_WireBookModel, ⟨by decide +kernel, by decide +kernel⟩, by decide +kernel⟩
theorem im_X7_words : Cond.instanceMethod yX7_words ∈ lw_tbl := List.mem_of_getElem? (i := 763) (by decide +kernel)
theorem se_X7_words : Cond.selects RX7 yX7_words yX7_words ∈ lw_tbl := List.mem_of_getElem? (i := 764) (by decide +kernel)
theorem co_X7_wordAt : Cond.code yX7_wordAt cX7_wordAt 2 (some .int) ∈ lw_tbl := List.mem_of_getElem? (i := 769) (by decide +kernel)
theorem st_X7_wordAt : jSt mX7_wordAt 1 := ⟨by decide +kernel, rfl, co_X7_wordAt, ini_WireBookModel, ⟨by decide +kernel, by decide +kernel⟩, by decide +kernel⟩
theorem im_X7_wordAt : Cond.instanceMethod yX7_wordAt ∈ lw_tbl := List.mem_of_getElem? (i := 767) (by decide +kernel)
theorem se_X7_wordAt : Cond.selects RX7 yX7_wordAt yX7_wordAt ∈ lw_tbl := List.mem_of_getElem? (i := 768) (by decide +kernel)
theorem co_X7_keep : Cond.code yX7_keep cX7_keep 1 (some .int) ∈ lw_tbl := List.mem_of_getElem? (i := 773) (by decide +kernel)
theorem st_X7_keep : jSt mX7_keep 0 := ⟨by decide +kernel, rfl, co_X7_keep, ini_WireBookModel, ⟨by decide +kernel, by decide +kernel⟩, by decide +kernel⟩
theorem im_X7_keep : Cond.instanceMethod yX7_keep ∈ lw_tbl := List.mem_of_getElem? (i := 771) (by decide +kernel)
theorem se_X7_keep : Cond.selects RX7 yX7_keep yX7_keep ∈ lw_tbl := List.mem_of_getElem? (i := 772) (by decide +kernel)
theorem co_X7_recall : Cond.code yX7_recall cX7_recall 2 (some .int) ∈ lw_tbl := List.mem_of_getElem? (i := 778) (by decide +kernel)
theorem st_X7_recall : jSt mX7_recall 1 := ⟨by decide +kernel, rfl, co_X7_recall, ini_WireBookModel, ⟨by decide +kernel, by decide +kernel⟩, by decide +kernel⟩
theorem im_X7_recall : Cond.instanceMethod yX7_recall ∈ lw_tbl := List.mem_of_getElem? (i := 776) (by decide +kernel)
theorem se_X7_recall : Cond.selects RX7 yX7_recall yX7_recall ∈ lw_tbl := List.mem_of_getElem? (i := 777) (by decide +kernel)
theorem co_X7_letter : Cond.code yX7_letter cX7_letter 3 (some .int) ∈ lw_tbl := List.mem_of_getElem? (i := 782) (by decide +kernel)
theorem st_X7_letter : jSt mX7_letter 2 := ⟨by decide +kernel, rfl, co_X7_letter, ini_WireBookModel, ⟨by decide +kernel, by decide +kernel⟩, by decide +kernel⟩
theorem im_X7_letter : Cond.instanceMethod yX7_letter ∈ lw_tbl := List.mem_of_getElem? (i := 780) (by decide +kernel)
theorem se_X7_letter : Cond.selects RX7 yX7_letter yX7_letter ∈ lw_tbl := List.mem_of_getElem? (i := 781) (by decide +kernel)
theorem co_X7_isCode : Cond.code yX7_isCode cX7_isCode 1 (some .boolean) ∈ lw_tbl := List.mem_of_getElem? (i := 785) (by decide +kernel)
theorem st_X7_isCode : jSt mX7_isCode 1 := ⟨by decide +kernel, rfl, co_X7_isCode, ini_WireBookModel, ⟨by decide +kernel, by decide +kernel⟩, by decide +kernel⟩
theorem sm_X7_isCode : Cond.static yX7_isCode ∈ lw_tbl := List.mem_of_getElem? (i := 784) (by decide +kernel)
theorem co_X7_letterOf : Cond.code yX7_letterOf cX7_letterOf 2 (some .int) ∈ lw_tbl := List.mem_of_getElem? (i := 789) (by decide +kernel)
theorem st_X7_letterOf : jSt mX7_letterOf 2 := ⟨by decide +kernel, rfl, co_X7_letterOf, ini_WireBookModel, ⟨by decide +kernel, by decide +kernel⟩, by decide +kernel⟩
theorem sm_X7_letterOf : Cond.static yX7_letterOf ∈ lw_tbl := List.mem_of_getElem? (i := 788) (by decide +kernel)
theorem co_X7_power : Cond.code yX7_power cX7_power 3 (some .int) ∈ lw_tbl := List.mem_of_getElem? (i := 792) (by decide +kernel)
theorem st_X7_power : jSt mX7_power 1 := ⟨by decide +kernel, rfl, co_X7_power, ini_WireBookModel, ⟨by decide +kernel, by decide +kernel⟩, by decide +kernel⟩
theorem sm_X7_power : Cond.static yX7_power ∈ lw_tbl := List.mem_of_getElem? (i := 791) (by decide +kernel)
theorem co_X7_reason : Cond.code yX7_reason cX7_reason 3 (some .int) ∈ lw_tbl := List.mem_of_getElem? (i := 796) (by decide +kernel)
theorem st_X7_reason : jSt mX7_reason 2 := ⟨by decide +kernel, rfl, co_X7_reason, ini_WireBookModel, ⟨by decide +kernel, by decide +kernel⟩, by decide +kernel⟩
theorem im_X7_reason : Cond.instanceMethod yX7_reason ∈ lw_tbl := List.mem_of_getElem? (i := 794) (by decide +kernel)
theorem se_X7_reason : Cond.selects RX7 yX7_reason yX7_reason ∈ lw_tbl := List.mem_of_getElem? (i := 795) (by decide +kernel)
theorem co_X7_isBook : Cond.code yX7_isBook cX7_isBook 1 (some .boolean) ∈ lw_tbl := List.mem_of_getElem? (i := 799) (by decide +kernel)
theorem st_X7_isBook : jSt mX7_isBook 1 := ⟨by decide +kernel, rfl, co_X7_isBook, ini_WireBookModel, ⟨by decide +kernel, by decide +kernel⟩, by decide +kernel⟩
theorem sm_X7_isBook : Cond.static yX7_isBook ∈ lw_tbl := List.mem_of_getElem? (i := 798) (by decide +kernel)
theorem co_X7_reasonFor : Cond.code yX7_reasonFor cX7_reasonFor 7 (some .int) ∈ lw_tbl := List.mem_of_getElem? (i := 803) (by decide +kernel)
theorem st_X7_reasonFor : jSt mX7_reasonFor 2 := ⟨by decide +kernel, rfl, co_X7_reasonFor, ini_WireBookModel, ⟨by decide +kernel, by decide +kernel⟩, by decide +kernel⟩
theorem im_X7_reasonFor : Cond.instanceMethod yX7_reasonFor ∈ lw_tbl := List.mem_of_getElem? (i := 802) (by decide +kernel)
theorem se_X7_reasonFor : Cond.selects RX7 yX7_reasonFor yX7_reasonFor ∈ lw_tbl := List.mem_of_getElem? (i := 10) (by decide +kernel)
theorem co_X7_isOneOff : Cond.code yX7_isOneOff cX7_isOneOff 4 (some .boolean) ∈ lw_tbl := List.mem_of_getElem? (i := 806) (by decide +kernel)
theorem st_X7_isOneOff : jSt mX7_isOneOff 2 := ⟨by decide +kernel, rfl, co_X7_isOneOff, ini_WireBookModel, ⟨by decide +kernel, by decide +kernel⟩, by decide +kernel⟩
theorem sm_X7_isOneOff : Cond.static yX7_isOneOff ∈ lw_tbl := List.mem_of_getElem? (i := 805) (by decide +kernel)
theorem co_X7_isSwapped : Cond.code yX7_isSwapped cX7_isSwapped 4 (some .boolean) ∈ lw_tbl := List.mem_of_getElem? (i := 809) (by decide +kernel)
theorem st_X7_isSwapped : jSt mX7_isSwapped 2 := ⟨by decide +kernel, rfl, co_X7_isSwapped, ini_WireBookModel, ⟨by decide +kernel, by decide +kernel⟩, by decide +kernel⟩
theorem sm_X7_isSwapped : Cond.static yX7_isSwapped ∈ lw_tbl := List.mem_of_getElem? (i := 808) (by decide +kernel)
theorem co_X7_swapped : Cond.code yX7_swapped cX7_swapped 3 (some .int) ∈ lw_tbl := List.mem_of_getElem? (i := 812) (by decide +kernel)
theorem st_X7_swapped : jSt mX7_swapped 2 := ⟨by decide +kernel, rfl, co_X7_swapped, ini_WireBookModel, ⟨by decide +kernel, by decide +kernel⟩, by decide +kernel⟩
theorem sm_X7_swapped : Cond.static yX7_swapped ∈ lw_tbl := List.mem_of_getElem? (i := 811) (by decide +kernel)
theorem co_X7_firstFit : Cond.code yX7_firstFit cX7_firstFit 3 (some .int) ∈ lw_tbl := List.mem_of_getElem? (i := 816) (by decide +kernel)
theorem st_X7_firstFit : jSt mX7_firstFit 2 := ⟨by decide +kernel, rfl, co_X7_firstFit, ini_WireBookModel, ⟨by decide +kernel, by decide +kernel⟩, by decide +kernel⟩
theorem im_X7_firstFit : Cond.instanceMethod yX7_firstFit ∈ lw_tbl := List.mem_of_getElem? (i := 814) (by decide +kernel)
theorem se_X7_firstFit : Cond.selects RX7 yX7_firstFit yX7_firstFit ∈ lw_tbl := List.mem_of_getElem? (i := 815) (by decide +kernel)
theorem co_X7_fitFrom : Cond.code yX7_fitFrom cX7_fitFrom 4 (some .int) ∈ lw_tbl := List.mem_of_getElem? (i := 820) (by decide +kernel)
theorem st_X7_fitFrom : jSt mX7_fitFrom 2 := ⟨by decide +kernel, rfl, co_X7_fitFrom, ini_WireBookModel, ⟨by decide +kernel, by decide +kernel⟩, by decide +kernel⟩
theorem im_X7_fitFrom : Cond.instanceMethod yX7_fitFrom ∈ lw_tbl := List.mem_of_getElem? (i := 819) (by decide +kernel)
theorem se_X7_fitFrom : Cond.selects RX7 yX7_fitFrom yX7_fitFrom ∈ lw_tbl := List.mem_of_getElem? (i := 11) (by decide +kernel)
theorem co_X7_define : Cond.code yX7_define cX7_define 3 (some .int) ∈ lw_tbl := List.mem_of_getElem? (i := 824) (by decide +kernel)
theorem st_X7_define : jSt mX7_define 2 := ⟨by decide +kernel, rfl, co_X7_define, ini_WireBookModel, ⟨by decide +kernel, by decide +kernel⟩, by decide +kernel⟩
theorem im_X7_define : Cond.instanceMethod yX7_define ∈ lw_tbl := List.mem_of_getElem? (i := 822) (by decide +kernel)
theorem se_X7_define : Cond.selects RX7 yX7_define yX7_define ∈ lw_tbl := List.mem_of_getElem? (i := 823) (by decide +kernel)
theorem co_X7_add : Cond.code yX7_add cX7_add 7 none ∈ lw_tbl := List.mem_of_getElem? (i := 828) (by decide +kernel)
theorem st_X7_add : jSt mX7_add 5 := ⟨by decide +kernel, rfl, co_X7_add, ini_WireBookModel, ⟨by decide +kernel, by decide +kernel⟩, by decide +kernel⟩
theorem im_X7_add : Cond.instanceMethod yX7_add ∈ lw_tbl := List.mem_of_getElem? (i := 827) (by decide +kernel)
theorem se_X7_add : Cond.selects RX7 yX7_add yX7_add ∈ lw_tbl := List.mem_of_getElem? (i := 12) (by decide +kernel)
theorem co_X7_drop : Cond.code yX7_drop cX7_drop 5 (some .int) ∈ lw_tbl := List.mem_of_getElem? (i := 832) (by decide +kernel)
theorem st_X7_drop : jSt mX7_drop 2 := ⟨by decide +kernel, rfl, co_X7_drop, ini_WireBookModel, ⟨by decide +kernel, by decide +kernel⟩, by decide +kernel⟩
theorem im_X7_drop : Cond.instanceMethod yX7_drop ∈ lw_tbl := List.mem_of_getElem? (i := 830) (by decide +kernel)
theorem se_X7_drop : Cond.selects RX7 yX7_drop yX7_drop ∈ lw_tbl := List.mem_of_getElem? (i := 831) (by decide +kernel)
theorem co_X7_isEntry : Cond.code yX7_isEntry cX7_isEntry 3 (some .boolean) ∈ lw_tbl := List.mem_of_getElem? (i := 836) (by decide +kernel)
theorem st_X7_isEntry : jSt mX7_isEntry 2 := ⟨by decide +kernel, rfl, co_X7_isEntry, ini_WireBookModel, ⟨by decide +kernel, by decide +kernel⟩, by decide +kernel⟩
theorem im_X7_isEntry : Cond.instanceMethod yX7_isEntry ∈ lw_tbl := List.mem_of_getElem? (i := 835) (by decide +kernel)
theorem se_X7_isEntry : Cond.selects RX7 yX7_isEntry yX7_isEntry ∈ lw_tbl := List.mem_of_getElem? (i := 13) (by decide +kernel)
theorem co_X7_entries : Cond.code yX7_entries cX7_entries 2 (some .int) ∈ lw_tbl := List.mem_of_getElem? (i := 840) (by decide +kernel)
theorem st_X7_entries : jSt mX7_entries 1 := ⟨by decide +kernel, rfl, co_X7_entries, ini_WireBookModel, ⟨by decide +kernel, by decide +kernel⟩, by decide +kernel⟩
theorem im_X7_entries : Cond.instanceMethod yX7_entries ∈ lw_tbl := List.mem_of_getElem? (i := 838) (by decide +kernel)
theorem se_X7_entries : Cond.selects RX7 yX7_entries yX7_entries ∈ lw_tbl := List.mem_of_getElem? (i := 839) (by decide +kernel)
theorem co_X7_entry : Cond.code yX7_entry cX7_entry 5 (some .int) ∈ lw_tbl := List.mem_of_getElem? (i := 844) (by decide +kernel)
theorem st_X7_entry : jSt mX7_entry 3 := ⟨by decide +kernel, rfl, co_X7_entry, ini_WireBookModel, ⟨by decide +kernel, by decide +kernel⟩, by decide +kernel⟩
theorem im_X7_entry : Cond.instanceMethod yX7_entry ∈ lw_tbl := List.mem_of_getElem? (i := 842) (by decide +kernel)
theorem se_X7_entry : Cond.selects RX7 yX7_entry yX7_entry ∈ lw_tbl := List.mem_of_getElem? (i := 843) (by decide +kernel)
theorem co_X7_find : Cond.code yX7_find cX7_find 3 (some .int) ∈ lw_tbl := List.mem_of_getElem? (i := 848) (by decide +kernel)
theorem st_X7_find : jSt mX7_find 2 := ⟨by decide +kernel, rfl, co_X7_find, ini_WireBookModel, ⟨by decide +kernel, by decide +kernel⟩, by decide +kernel⟩
theorem im_X7_find : Cond.instanceMethod yX7_find ∈ lw_tbl := List.mem_of_getElem? (i := 846) (by decide +kernel)
theorem se_X7_find : Cond.selects RX7 yX7_find yX7_find ∈ lw_tbl := List.mem_of_getElem? (i := 847) (by decide +kernel)
theorem co_X7_entryOf : Cond.code yX7_entryOf cX7_entryOf 5 (some .int) ∈ lw_tbl := List.mem_of_getElem? (i := 852) (by decide +kernel)
theorem st_X7_entryOf : jSt mX7_entryOf 2 := ⟨by decide +kernel, rfl, co_X7_entryOf, ini_WireBookModel, ⟨by decide +kernel, by decide +kernel⟩, by decide +kernel⟩
theorem im_X7_entryOf : Cond.instanceMethod yX7_entryOf ∈ lw_tbl := List.mem_of_getElem? (i := 851) (by decide +kernel)
theorem se_X7_entryOf : Cond.selects RX7 yX7_entryOf yX7_entryOf ∈ lw_tbl := List.mem_of_getElem? (i := 14) (by decide +kernel)
theorem co_X7_setPrice : Cond.code yX7_setPrice cX7_setPrice 3 (some .int) ∈ lw_tbl := List.mem_of_getElem? (i := 856) (by decide +kernel)
theorem st_X7_setPrice : jSt mX7_setPrice 1 := ⟨by decide +kernel, rfl, co_X7_setPrice, ini_WireBookModel, ⟨by decide +kernel, by decide +kernel⟩, by decide +kernel⟩
theorem im_X7_setPrice : Cond.instanceMethod yX7_setPrice ∈ lw_tbl := List.mem_of_getElem? (i := 854) (by decide +kernel)
theorem se_X7_setPrice : Cond.selects RX7 yX7_setPrice yX7_setPrice ∈ lw_tbl := List.mem_of_getElem? (i := 855) (by decide +kernel)
theorem co_X7_encode : Cond.code yX7_encode cX7_encode 5 (some .int) ∈ lw_tbl := List.mem_of_getElem? (i := 860) (by decide +kernel)
theorem st_X7_encode : jSt mX7_encode 1 := ⟨by decide +kernel, rfl, co_X7_encode, ini_WireBookModel, ⟨by decide +kernel, by decide +kernel⟩, by decide +kernel⟩
theorem im_X7_encode : Cond.instanceMethod yX7_encode ∈ lw_tbl := List.mem_of_getElem? (i := 858) (by decide +kernel)
theorem se_X7_encode : Cond.selects RX7 yX7_encode yX7_encode ∈ lw_tbl := List.mem_of_getElem? (i := 859) (by decide +kernel)
theorem co_X7_divide : Cond.code yX7_divide cX7_divide 8 (some .int) ∈ lw_tbl := List.mem_of_getElem? (i := 864) (by decide +kernel)
theorem st_X7_divide : jSt mX7_divide 4 := ⟨by decide +kernel, rfl, co_X7_divide, ini_WireBookModel, ⟨by decide +kernel, by decide +kernel⟩, by decide +kernel⟩
theorem im_X7_divide : Cond.instanceMethod yX7_divide ∈ lw_tbl := List.mem_of_getElem? (i := 863) (by decide +kernel)
theorem se_X7_divide : Cond.selects RX7 yX7_divide yX7_divide ∈ lw_tbl := List.mem_of_getElem? (i := 15) (by decide +kernel)
theorem co_X7_stands : Cond.code yX7_stands cX7_stands 7 (some .boolean) ∈ lw_tbl := List.mem_of_getElem? (i := 868) (by decide +kernel)
theorem st_X7_stands : jSt mX7_stands 4 := ⟨by decide +kernel, rfl, co_X7_stands, ini_WireBookModel, ⟨by decide +kernel, by decide +kernel⟩, by decide +kernel⟩
theorem im_X7_stands : Cond.instanceMethod yX7_stands ∈ lw_tbl := List.mem_of_getElem? (i := 867) (by decide +kernel)
theorem se_X7_stands : Cond.selects RX7 yX7_stands yX7_stands ∈ lw_tbl := List.mem_of_getElem? (i := 16) (by decide +kernel)
theorem co_J9_min_7cf53 : Cond.code yJ9_min_7cf53 cJ9_min_7cf53 2 (some .int) ∈ lw_tbl := List.mem_of_getElem? (i := 871) (by decide +kernel)
theorem sm_J9_min_7cf53 : Cond.static yJ9_min_7cf53 ∈ lw_tbl := List.mem_of_getElem? (i := 870) (by decide +kernel)
theorem co_X7_groups : Cond.code yX7_groups cX7_groups 1 (some .int) ∈ lw_tbl := List.mem_of_getElem? (i := 875) (by decide +kernel)
theorem st_X7_groups : jSt mX7_groups 0 := ⟨by decide +kernel, rfl, co_X7_groups, ini_WireBookModel, ⟨by decide +kernel, by decide +kernel⟩, by decide +kernel⟩
theorem im_X7_groups : Cond.instanceMethod yX7_groups ∈ lw_tbl := List.mem_of_getElem? (i := 873) (by decide +kernel)
theorem se_X7_groups : Cond.selects RX7 yX7_groups yX7_groups ∈ lw_tbl := List.mem_of_getElem? (i := 874) (by decide +kernel)
theorem co_X7_group : Cond.code yX7_group cX7_group 2 (some .int) ∈ lw_tbl := List.mem_of_getElem? (i := 879) (by decide +kernel)
theorem st_X7_group : jSt mX7_group 1 := ⟨by decide +kernel, rfl, co_X7_group, ini_WireBookModel, ⟨by decide +kernel, by decide +kernel⟩, by decide +kernel⟩
theorem im_X7_group : Cond.instanceMethod yX7_group ∈ lw_tbl := List.mem_of_getElem? (i := 877) (by decide +kernel)
theorem se_X7_group : Cond.selects RX7 yX7_group yX7_group ∈ lw_tbl := List.mem_of_getElem? (i := 878) (by decide +kernel)
theorem co_X7_isGroup : Cond.code yX7_isGroup cX7_isGroup 2 (some .boolean) ∈ lw_tbl := List.mem_of_getElem? (i := 883) (by decide +kernel)
theorem st_X7_isGroup : jSt mX7_isGroup 1 := ⟨by decide +kernel, rfl, co_X7_isGroup, ini_WireBookModel, ⟨by decide +kernel, by decide +kernel⟩, by decide +kernel⟩
theorem im_X7_isGroup : Cond.instanceMethod yX7_isGroup ∈ lw_tbl := List.mem_of_getElem? (i := 882) (by decide +kernel)
theorem se_X7_isGroup : Cond.selects RX7 yX7_isGroup yX7_isGroup ∈ lw_tbl := List.mem_of_getElem? (i := 17) (by decide +kernel)
theorem co_X7_garble : Cond.code yX7_garble cX7_garble 5 (some .int) ∈ lw_tbl := List.mem_of_getElem? (i := 887) (by decide +kernel)
theorem st_X7_garble : jSt mX7_garble 3 := ⟨by decide +kernel, rfl, co_X7_garble, ini_WireBookModel, ⟨by decide +kernel, by decide +kernel⟩, by decide +kernel⟩
theorem im_X7_garble : Cond.instanceMethod yX7_garble ∈ lw_tbl := List.mem_of_getElem? (i := 885) (by decide +kernel)
theorem se_X7_garble : Cond.selects RX7 yX7_garble yX7_garble ∈ lw_tbl := List.mem_of_getElem? (i := 886) (by decide +kernel)
theorem co_X7_swap : Cond.code yX7_swap cX7_swap 3 (some .int) ∈ lw_tbl := List.mem_of_getElem? (i := 891) (by decide +kernel)
theorem st_X7_swap : jSt mX7_swap 2 := ⟨by decide +kernel, rfl, co_X7_swap, ini_WireBookModel, ⟨by decide +kernel, by decide +kernel⟩, by decide +kernel⟩
theorem im_X7_swap : Cond.instanceMethod yX7_swap ∈ lw_tbl := List.mem_of_getElem? (i := 889) (by decide +kernel)
theorem se_X7_swap : Cond.selects RX7 yX7_swap yX7_swap ∈ lw_tbl := List.mem_of_getElem? (i := 890) (by decide +kernel)
theorem co_X7_decode : Cond.code yX7_decode cX7_decode 8 (some .int) ∈ lw_tbl := List.mem_of_getElem? (i := 895) (by decide +kernel)
theorem st_X7_decode : jSt mX7_decode 1 := ⟨by decide +kernel, rfl, co_X7_decode, ini_WireBookModel, ⟨by decide +kernel, by decide +kernel⟩, by decide +kernel⟩
theorem im_X7_decode : Cond.instanceMethod yX7_decode ∈ lw_tbl := List.mem_of_getElem? (i := 893) (by decide +kernel)
theorem se_X7_decode : Cond.selects RX7 yX7_decode yX7_decode ∈ lw_tbl := List.mem_of_getElem? (i := 894) (by decide +kernel)
theorem co_X7_write : Cond.code yX7_write cX7_write 2 none ∈ lw_tbl := List.mem_of_getElem? (i := 899) (by decide +kernel)
theorem st_X7_write : jSt mX7_write 1 := ⟨by decide +kernel, rfl, co_X7_write, ini_WireBookModel, ⟨by decide +kernel, by decide +kernel⟩, by decide +kernel⟩
theorem im_X7_write : Cond.instanceMethod yX7_write ∈ lw_tbl := List.mem_of_getElem? (i := 898) (by decide +kernel)
theorem se_X7_write : Cond.selects RX7 yX7_write yX7_write ∈ lw_tbl := List.mem_of_getElem? (i := 18) (by decide +kernel)
theorem co_X7_meant : Cond.code yX7_meant cX7_meant 7 (some .int) ∈ lw_tbl := List.mem_of_getElem? (i := 903) (by decide +kernel)
theorem st_X7_meant : jSt mX7_meant 2 := ⟨by decide +kernel, rfl, co_X7_meant, ini_WireBookModel, ⟨by decide +kernel, by decide +kernel⟩, by decide +kernel⟩
theorem im_X7_meant : Cond.instanceMethod yX7_meant ∈ lw_tbl := List.mem_of_getElem? (i := 902) (by decide +kernel)
theorem se_X7_meant : Cond.selects RX7 yX7_meant yX7_meant ∈ lw_tbl := List.mem_of_getElem? (i := 19) (by decide +kernel)
theorem co_X7_how : Cond.code yX7_how cX7_how 2 (some .int) ∈ lw_tbl := List.mem_of_getElem? (i := 907) (by decide +kernel)
theorem st_X7_how : jSt mX7_how 1 := ⟨by decide +kernel, rfl, co_X7_how, ini_WireBookModel, ⟨by decide +kernel, by decide +kernel⟩, by decide +kernel⟩
theorem im_X7_how : Cond.instanceMethod yX7_how ∈ lw_tbl := List.mem_of_getElem? (i := 905) (by decide +kernel)
theorem se_X7_how : Cond.selects RX7 yX7_how yX7_how ∈ lw_tbl := List.mem_of_getElem? (i := 906) (by decide +kernel)
theorem co_X7_cost : Cond.code yX7_cost cX7_cost 3 (some .int) ∈ lw_tbl := List.mem_of_getElem? (i := 911) (by decide +kernel)
theorem st_X7_cost : jSt mX7_cost 0 := ⟨by decide +kernel, rfl, co_X7_cost, ini_WireBookModel, ⟨by decide +kernel, by decide +kernel⟩, by decide +kernel⟩
theorem im_X7_cost : Cond.instanceMethod yX7_cost ∈ lw_tbl := List.mem_of_getElem? (i := 909) (by decide +kernel)
theorem se_X7_cost : Cond.selects RX7 yX7_cost yX7_cost ∈ lw_tbl := List.mem_of_getElem? (i := 910) (by decide +kernel)
theorem co_X7_time : Cond.code yX7_time cX7_time 3 (some .int) ∈ lw_tbl := List.mem_of_getElem? (i := 915) (by decide +kernel)
theorem st_X7_time : jSt mX7_time 0 := ⟨by decide +kernel, rfl, co_X7_time, ini_WireBookModel, ⟨by decide +kernel, by decide +kernel⟩, by decide +kernel⟩
theorem im_X7_time : Cond.instanceMethod yX7_time ∈ lw_tbl := List.mem_of_getElem? (i := 913) (by decide +kernel)
theorem se_X7_time : Cond.selects RX7 yX7_time yX7_time ∈ lw_tbl := List.mem_of_getElem? (i := 914) (by decide +kernel)
theorem co_X7_unitsOf : Cond.code yX7_unitsOf cX7_unitsOf 4 (some .int) ∈ lw_tbl := List.mem_of_getElem? (i := 918) (by decide +kernel)
theorem st_X7_unitsOf : jSt mX7_unitsOf 1 := ⟨by decide +kernel, rfl, co_X7_unitsOf, ini_WireBookModel, ⟨by decide +kernel, by decide +kernel⟩, by decide +kernel⟩
theorem sm_X7_unitsOf : Cond.static yX7_unitsOf ∈ lw_tbl := List.mem_of_getElem? (i := 917) (by decide +kernel)
theorem co_X7_share : Cond.code yX7_share cX7_share 5 (some .double) ∈ lw_tbl := List.mem_of_getElem? (i := 926) (by decide +kernel)
theorem st_X7_share : jSt mX7_share 1 := ⟨by decide +kernel, rfl, co_X7_share, ini_WireBookModel, ⟨by decide +kernel, by decide +kernel⟩, by decide +kernel⟩
theorem im_X7_share : Cond.instanceMethod yX7_share ∈ lw_tbl := List.mem_of_getElem? (i := 924) (by decide +kernel)
theorem se_X7_share : Cond.selects RX7 yX7_share yX7_share ∈ lw_tbl := List.mem_of_getElem? (i := 925) (by decide +kernel)
theorem co_X7_propose : Cond.code yX7_propose cX7_propose 3 (some .int) ∈ lw_tbl := List.mem_of_getElem? (i := 930) (by decide +kernel)
theorem st_X7_propose : jSt mX7_propose 1 := ⟨by decide +kernel, rfl, co_X7_propose, ini_WireBookModel, ⟨by decide +kernel, by decide +kernel⟩, by decide +kernel⟩
theorem im_X7_propose : Cond.instanceMethod yX7_propose ∈ lw_tbl := List.mem_of_getElem? (i := 928) (by decide +kernel)
theorem se_X7_propose : Cond.selects RX7 yX7_propose yX7_propose ∈ lw_tbl := List.mem_of_getElem? (i := 929) (by decide +kernel)
theorem co_X7_proposal : Cond.code yX7_proposal cX7_proposal 9 (some .int) ∈ lw_tbl := List.mem_of_getElem? (i := 934) (by decide +kernel)
theorem st_X7_proposal : jSt mX7_proposal 1 := ⟨by decide +kernel, rfl, co_X7_proposal, ini_WireBookModel, ⟨by decide +kernel, by decide +kernel⟩, by decide +kernel⟩
theorem im_X7_proposal : Cond.instanceMethod yX7_proposal ∈ lw_tbl := List.mem_of_getElem? (i := 933) (by decide +kernel)
theorem se_X7_proposal : Cond.selects RX7 yX7_proposal yX7_proposal ∈ lw_tbl := List.mem_of_getElem? (i := 20) (by decide +kernel)
theorem co_X7_timesOf : Cond.code yX7_timesOf cX7_timesOf 7 (some .int) ∈ lw_tbl := List.mem_of_getElem? (i := 938) (by decide +kernel)
theorem st_X7_timesOf : jSt mX7_timesOf 2 := ⟨by decide +kernel, rfl, co_X7_timesOf, ini_WireBookModel, ⟨by decide +kernel, by decide +kernel⟩, by decide +kernel⟩
theorem im_X7_timesOf : Cond.instanceMethod yX7_timesOf ∈ lw_tbl := List.mem_of_getElem? (i := 937) (by decide +kernel)
theorem se_X7_timesOf : Cond.selects RX7 yX7_timesOf yX7_timesOf ∈ lw_tbl := List.mem_of_getElem? (i := 21) (by decide +kernel)
theorem co_X7_isSame : Cond.code yX7_isSame cX7_isSame 6 (some .boolean) ∈ lw_tbl := List.mem_of_getElem? (i := 942) (by decide +kernel)
theorem st_X7_isSame : jSt mX7_isSame 3 := ⟨by decide +kernel, rfl, co_X7_isSame, ini_WireBookModel, ⟨by decide +kernel, by decide +kernel⟩, by decide +kernel⟩
theorem im_X7_isSame : Cond.instanceMethod yX7_isSame ∈ lw_tbl := List.mem_of_getElem? (i := 941) (by decide +kernel)
theorem se_X7_isSame : Cond.selects RX7 yX7_isSame yX7_isSame ∈ lw_tbl := List.mem_of_getElem? (i := 22) (by decide +kernel)
theorem co_X7_isInBook : Cond.code yX7_isInBook cX7_isInBook 6 (some .boolean) ∈ lw_tbl := List.mem_of_getElem? (i := 946) (by decide +kernel)
theorem st_X7_isInBook : jSt mX7_isInBook 3 := ⟨by decide +kernel, rfl, co_X7_isInBook, ini_WireBookModel, ⟨by decide +kernel, by decide +kernel⟩, by decide +kernel⟩
theorem im_X7_isInBook : Cond.instanceMethod yX7_isInBook ∈ lw_tbl := List.mem_of_getElem? (i := 945) (by decide +kernel)
theorem se_X7_isInBook : Cond.selects RX7 yX7_isInBook yX7_isInBook ∈ lw_tbl := List.mem_of_getElem? (i := 23) (by decide +kernel)
theorem co_X7_learn : Cond.code yX7_learn cX7_learn 5 (some .int) ∈ lw_tbl := List.mem_of_getElem? (i := 950) (by decide +kernel)
theorem st_X7_learn : jSt mX7_learn 2 := ⟨by decide +kernel, rfl, co_X7_learn, ini_WireBookModel, ⟨by decide +kernel, by decide +kernel⟩, by decide +kernel⟩
theorem im_X7_learn : Cond.instanceMethod yX7_learn ∈ lw_tbl := List.mem_of_getElem? (i := 948) (by decide +kernel)
theorem se_X7_learn : Cond.selects RX7 yX7_learn yX7_learn ∈ lw_tbl := List.mem_of_getElem? (i := 949) (by decide +kernel)
theorem co_X7_digest : Cond.code yX7_digest cX7_digest 6 (some .long) ∈ lw_tbl := List.mem_of_getElem? (i := 954) (by decide +kernel)
theorem st_X7_digest : jSt mX7_digest 0 := ⟨by decide +kernel, rfl, co_X7_digest, ini_WireBookModel, ⟨by decide +kernel, by decide +kernel⟩, by decide +kernel⟩
theorem im_X7_digest : Cond.instanceMethod yX7_digest ∈ lw_tbl := List.mem_of_getElem? (i := 952) (by decide +kernel)
theorem se_X7_digest : Cond.selects RX7 yX7_digest yX7_digest ∈ lw_tbl := List.mem_of_getElem? (i := 953) (by decide +kernel)
theorem ml_L_86 : Cond.methodLink RL 86 yX6_init ∈ lw_tbl := List.mem_of_getElem? (i := 44) (by decide +kernel)
theorem ml_X6_1 : Cond.methodLink RX6 1 objectInit ∈ lw_tbl := List.mem_of_getElem? (i := 47) (by decide +kernel)
theorem ml_X6_15 : Cond.methodLinkNest RX6 15 yX0_init "WireBook" ∈ lw_tbl := List.mem_of_getElem? (i := 53) (by decide +kernel)
theorem ml_X0_3 : Cond.methodLink RX0 3 objectInit ∈ lw_tbl := List.mem_of_getElem? (i := 56) (by decide +kernel)
theorem ml_X6_18 : Cond.methodLinkNest RX6 18 yX4_init "WireBook" ∈ lw_tbl := List.mem_of_getElem? (i := 80) (by decide +kernel)
theorem ml_X4_3 : Cond.methodLink RX4 3 objectInit ∈ lw_tbl := List.mem_of_getElem? (i := 83) (by decide +kernel)
theorem ml_X6_25 : Cond.methodLink RX6 25 yX3_init ∈ lw_tbl := List.mem_of_getElem? (i := 99) (by decide +kernel)
theorem ml_X3_5 : Cond.methodLink RX3 5 objectInit ∈ lw_tbl := List.mem_of_getElem? (i := 102) (by decide +kernel)
theorem ml_X3_26 : Cond.methodLink RX3 26 yJ7_fill_53178 ∈ lw_tbl := List.mem_of_getElem? (i := 105) (by decide +kernel)
theorem ml_X6_32 : Cond.methodLinkNest RX6 32 yX5_init "WireBook" ∈ lw_tbl := List.mem_of_getElem? (i := 129) (by decide +kernel)
theorem ml_X5_3 : Cond.methodLink RX5 3 objectInit ∈ lw_tbl := List.mem_of_getElem? (i := 132) (by decide +kernel)
theorem ml_X6_39 : Cond.methodLinkNest RX6 39 yX2_init "WireBook" ∈ lw_tbl := List.mem_of_getElem? (i := 144) (by decide +kernel)
theorem ml_X2_3 : Cond.methodLink RX2 3 objectInit ∈ lw_tbl := List.mem_of_getElem? (i := 147) (by decide +kernel)
theorem ml_L_99 : Cond.methodLink RL 99 yX6_empty ∈ lw_tbl := List.mem_of_getElem? (i := 181) (by decide +kernel)
theorem ml_X6_71 : Cond.methodLink RX6 71 yX4_clear ∈ lw_tbl := List.mem_of_getElem? (i := 185) (by decide +kernel)
theorem ml_L_103 : Cond.methodLink RL 103 yX6_words ∈ lw_tbl := List.mem_of_getElem? (i := 189) (by decide +kernel)
theorem ml_L_149 : Cond.methodLink RL 149 yX6_groups ∈ lw_tbl := List.mem_of_getElem? (i := 193) (by decide +kernel)
theorem ml_L_168 : Cond.methodLink RL 168 yX6_cost ∈ lw_tbl := List.mem_of_getElem? (i := 197) (by decide +kernel)
theorem ml_X6_196 : Cond.methodLink RX6 196 yX5_costAt ∈ lw_tbl := List.mem_of_getElem? (i := 201) (by decide +kernel)
theorem ml_X5_19 : Cond.methodLink RX5 19 yX5_isPlain ∈ lw_tbl := List.mem_of_getElem? (i := 205) (by decide +kernel)
theorem ml_L_172 : Cond.methodLink RL 172 yX6_time ∈ lw_tbl := List.mem_of_getElem? (i := 208) (by decide +kernel)
theorem ml_X6_199 : Cond.methodLink RX6 199 yX5_units ∈ lw_tbl := List.mem_of_getElem? (i := 212) (by decide +kernel)
theorem ml_X5_23 : Cond.methodLink RX5 23 yX5_wordOf ∈ lw_tbl := List.mem_of_getElem? (i := 216) (by decide +kernel)
theorem ml_X5_27 : Cond.methodLink RX5 27 yX5_wordUnits ∈ lw_tbl := List.mem_of_getElem? (i := 219) (by decide +kernel)
theorem ml_X5_38 : Cond.methodLink RX5 38 yJ9_floorMod_7cf53 ∈ lw_tbl := List.mem_of_getElem? (i := 224) (by decide +kernel)
theorem ml_X5_30 : Cond.methodLink RX5 30 yX1_units ∈ lw_tbl := List.mem_of_getElem? (i := 227) (by decide +kernel)
theorem ml_X1_23 : Cond.methodLink RX1 23 yJ9_floorMod_7cf53 ∈ lw_tbl := List.mem_of_getElem? (i := 232) (by decide +kernel)
theorem ml_L_186 : Cond.methodLink RL 186 yX6_digest ∈ lw_tbl := List.mem_of_getElem? (i := 233) (by decide +kernel)
theorem ml_X6_215 : Cond.methodLink RX6 215 yX6_mix ∈ lw_tbl := List.mem_of_getElem? (i := 238) (by decide +kernel)
theorem ml_X6_219 : Cond.methodLink RX6 219 yX6_mixRow ∈ lw_tbl := List.mem_of_getElem? (i := 242) (by decide +kernel)
theorem ml_X6_223 : Cond.methodLink RX6 223 yX0_mixInto ∈ lw_tbl := List.mem_of_getElem? (i := 245) (by decide +kernel)
theorem ml_X0_55 : Cond.methodLinkNest RX0 55 yX6_mix "WireBook" ∈ lw_tbl := List.mem_of_getElem? (i := 249) (by decide +kernel)
theorem ml_X0_31 : Cond.methodLink RX0 31 yX0_startOf ∈ lw_tbl := List.mem_of_getElem? (i := 250) (by decide +kernel)
theorem ml_X0_59 : Cond.methodLinkNest RX0 59 yX6_mixRow "WireBook" ∈ lw_tbl := List.mem_of_getElem? (i := 253) (by decide +kernel)
theorem ml_X6_227 : Cond.methodLink RX6 227 yX3_mixInto ∈ lw_tbl := List.mem_of_getElem? (i := 254) (by decide +kernel)
theorem ml_X3_75 : Cond.methodLinkNest RX3 75 yX6_mix "WireBook" ∈ lw_tbl := List.mem_of_getElem? (i := 258) (by decide +kernel)
theorem ml_X3_36 : Cond.methodLink RX3 36 yX3_startOf ∈ lw_tbl := List.mem_of_getElem? (i := 259) (by decide +kernel)
theorem ml_X3_79 : Cond.methodLinkNest RX3 79 yX6_mixRow "WireBook" ∈ lw_tbl := List.mem_of_getElem? (i := 263) (by decide +kernel)
theorem ml_L_90 : Cond.methodLink RL 90 yL_say ∈ lw_tbl := List.mem_of_getElem? (i := 264) (by decide +kernel)
theorem ml_L_7 : Cond.methodLink RL 7 yX6_say ∈ lw_tbl := List.mem_of_getElem? (i := 269) (by decide +kernel)
theorem ml_X6_67 : Cond.methodLink RX6 67 yX4_append ∈ lw_tbl := List.mem_of_getElem? (i := 357) (by decide +kernel)
theorem ml_L_107 : Cond.methodLink RL 107 yL_wordAt ∈ lw_tbl := List.mem_of_getElem? (i := 361) (by decide +kernel)
theorem ml_L_17 : Cond.methodLink RL 17 yX6_wordAt ∈ lw_tbl := List.mem_of_getElem? (i := 365) (by decide +kernel)
theorem ml_L_110 : Cond.methodLink RL 110 yL_keep ∈ lw_tbl := List.mem_of_getElem? (i := 385) (by decide +kernel)
theorem ml_L_22 : Cond.methodLink RL 22 yX6_keep ∈ lw_tbl := List.mem_of_getElem? (i := 388) (by decide +kernel)
theorem ml_X6_87 : Cond.methodLink RX6 87 yX3_add ∈ lw_tbl := List.mem_of_getElem? (i := 394) (by decide +kernel)
theorem ml_X3_44 : Cond.methodLink RX3 44 arraycopyName ∈ lw_tbl := List.mem_of_getElem? (i := 398) (by decide +kernel)
theorem ml_X3_50 : Cond.methodLink RX3 50 yX3_countPhrases ∈ lw_tbl := List.mem_of_getElem? (i := 401) (by decide +kernel)
theorem ml_X3_54 : Cond.methodLink RX3 54 yX3_firstFinding ∈ lw_tbl := List.mem_of_getElem? (i := 405) (by decide +kernel)
theorem ml_X3_58 : Cond.methodLinkNest RX3 58 yX6_sameWords "WireBook" ∈ lw_tbl := List.mem_of_getElem? (i := 409) (by decide +kernel)
theorem ml_L_114 : Cond.methodLink RL 114 yL_recall ∈ lw_tbl := List.mem_of_getElem? (i := 412) (by decide +kernel)
theorem ml_L_26 : Cond.methodLink RL 26 yX6_recall ∈ lw_tbl := List.mem_of_getElem? (i := 415) (by decide +kernel)
theorem ml_X6_94 : Cond.methodLink RX6 94 yX3_startOf ∈ lw_tbl := List.mem_of_getElem? (i := 420) (by decide +kernel)
theorem ml_X6_101 : Cond.methodLink RX6 101 yX4_appendAll ∈ lw_tbl := List.mem_of_getElem? (i := 421) (by decide +kernel)
theorem ml_X4_19 : Cond.methodLink RX4 19 yX4_append ∈ lw_tbl := List.mem_of_getElem? (i := 425) (by decide +kernel)
theorem ml_L_117 : Cond.methodLink RL 117 yL_letter ∈ lw_tbl := List.mem_of_getElem? (i := 426) (by decide +kernel)
theorem ml_L_29 : Cond.methodLink RL 29 yX6_letter ∈ lw_tbl := List.mem_of_getElem? (i := 429) (by decide +kernel)
theorem ml_X6_105 : Cond.methodLink RX6 105 yX6_requireCode ∈ lw_tbl := List.mem_of_getElem? (i := 433) (by decide +kernel)
theorem ml_X6_108 : Cond.methodLink RX6 108 yX6_requirePlace ∈ lw_tbl := List.mem_of_getElem? (i := 438) (by decide +kernel)
theorem ml_X6_112 : Cond.methodLink RX6 112 yX1_letterAt ∈ lw_tbl := List.mem_of_getElem? (i := 442) (by decide +kernel)
theorem ml_L_121 : Cond.methodLink RL 121 yL_reason ∈ lw_tbl := List.mem_of_getElem? (i := 445) (by decide +kernel)
theorem ml_L_33 : Cond.methodLink RL 33 yX6_reason ∈ lw_tbl := List.mem_of_getElem? (i := 448) (by decide +kernel)
theorem ml_X6_118 : Cond.methodLink RX6 118 yX6_requireBook ∈ lw_tbl := List.mem_of_getElem? (i := 452) (by decide +kernel)
theorem ml_X6_122 : Cond.methodLink RX6 122 yX0_reasonAgainst ∈ lw_tbl := List.mem_of_getElem? (i := 457) (by decide +kernel)
theorem ml_X0_41 : Cond.methodLink RX0 41 yX1_likeness ∈ lw_tbl := List.mem_of_getElem? (i := 461) (by decide +kernel)
theorem ml_L_124 : Cond.methodLink RL 124 yL_firstFit ∈ lw_tbl := List.mem_of_getElem? (i := 464) (by decide +kernel)
theorem ml_L_36 : Cond.methodLink RL 36 yX6_firstFit ∈ lw_tbl := List.mem_of_getElem? (i := 467) (by decide +kernel)
theorem ml_X6_125 : Cond.methodLink RX6 125 yX0_fitFrom ∈ lw_tbl := List.mem_of_getElem? (i := 471) (by decide +kernel)
theorem ml_X0_48 : Cond.methodLink RX0 48 yX0_reasonAgainst ∈ lw_tbl := List.mem_of_getElem? (i := 476) (by decide +kernel)
theorem ml_L_127 : Cond.methodLink RL 127 yL_define ∈ lw_tbl := List.mem_of_getElem? (i := 477) (by decide +kernel)
theorem ml_L_39 : Cond.methodLink RL 39 yX6_define ∈ lw_tbl := List.mem_of_getElem? (i := 480) (by decide +kernel)
theorem ml_X6_132 : Cond.methodLink RX6 132 yX0_add ∈ lw_tbl := List.mem_of_getElem? (i := 486) (by decide +kernel)
theorem ml_X0_35 : Cond.methodLink RX0 35 arraycopyName ∈ lw_tbl := List.mem_of_getElem? (i := 490) (by decide +kernel)
theorem ml_L_130 : Cond.methodLink RL 130 yL_drop ∈ lw_tbl := List.mem_of_getElem? (i := 491) (by decide +kernel)
theorem ml_L_42 : Cond.methodLink RL 42 yX6_drop ∈ lw_tbl := List.mem_of_getElem? (i := 494) (by decide +kernel)
theorem ml_X6_136 : Cond.methodLink RX6 136 yX6_requireEntry ∈ lw_tbl := List.mem_of_getElem? (i := 498) (by decide +kernel)
theorem ml_X6_140 : Cond.methodLink RX6 140 yX0_remove ∈ lw_tbl := List.mem_of_getElem? (i := 502) (by decide +kernel)
theorem ml_L_133 : Cond.methodLink RL 133 yL_entries ∈ lw_tbl := List.mem_of_getElem? (i := 506) (by decide +kernel)
theorem ml_L_45 : Cond.methodLink RL 45 yX6_entries ∈ lw_tbl := List.mem_of_getElem? (i := 509) (by decide +kernel)
theorem ml_L_136 : Cond.methodLink RL 136 yL_entry ∈ lw_tbl := List.mem_of_getElem? (i := 513) (by decide +kernel)
theorem ml_L_48 : Cond.methodLink RL 48 yX6_entry ∈ lw_tbl := List.mem_of_getElem? (i := 516) (by decide +kernel)
theorem ml_X6_152 : Cond.methodLink RX6 152 yX0_startOf ∈ lw_tbl := List.mem_of_getElem? (i := 521) (by decide +kernel)
theorem ml_L_140 : Cond.methodLink RL 140 yL_find ∈ lw_tbl := List.mem_of_getElem? (i := 522) (by decide +kernel)
theorem ml_L_52 : Cond.methodLink RL 52 yX6_find ∈ lw_tbl := List.mem_of_getElem? (i := 525) (by decide +kernel)
theorem ml_X6_153 : Cond.methodLink RX6 153 yX0_entryWith ∈ lw_tbl := List.mem_of_getElem? (i := 529) (by decide +kernel)
theorem ml_L_143 : Cond.methodLink RL 143 yL_setPrice ∈ lw_tbl := List.mem_of_getElem? (i := 533) (by decide +kernel)
theorem ml_L_55 : Cond.methodLink RL 55 yX6_setPrice ∈ lw_tbl := List.mem_of_getElem? (i := 536) (by decide +kernel)
theorem ml_L_146 : Cond.methodLink RL 146 yL_encode ∈ lw_tbl := List.mem_of_getElem? (i := 541) (by decide +kernel)
theorem ml_L_58 : Cond.methodLink RL 58 yX6_encode ∈ lw_tbl := List.mem_of_getElem? (i := 544) (by decide +kernel)
theorem ml_X6_158 : Cond.methodLink RX6 158 yX2_divide ∈ lw_tbl := List.mem_of_getElem? (i := 548) (by decide +kernel)
theorem ml_X2_18 : Cond.methodLink RX2 18 yX2_bestPiece ∈ lw_tbl := List.mem_of_getElem? (i := 552) (by decide +kernel)
theorem ml_X2_34 : Cond.methodLink RX2 34 yX0_startOf ∈ lw_tbl := List.mem_of_getElem? (i := 556) (by decide +kernel)
theorem ml_X2_38 : Cond.methodLinkNest RX2 38 yX6_sameWords "WireBook" ∈ lw_tbl := List.mem_of_getElem? (i := 557) (by decide +kernel)
theorem ml_X2_42 : Cond.methodLink RX2 42 yX0_goesAhead ∈ lw_tbl := List.mem_of_getElem? (i := 558) (by decide +kernel)
theorem ml_X6_162 : Cond.methodLink RX6 162 yX5_clear ∈ lw_tbl := List.mem_of_getElem? (i := 562) (by decide +kernel)
theorem ml_X6_166 : Cond.methodLink RX6 166 yX5_plain ∈ lw_tbl := List.mem_of_getElem? (i := 566) (by decide +kernel)
theorem ml_X6_169 : Cond.methodLink RX6 169 yX5_append ∈ lw_tbl := List.mem_of_getElem? (i := 569) (by decide +kernel)
theorem ml_L_153 : Cond.methodLink RL 153 yL_group ∈ lw_tbl := List.mem_of_getElem? (i := 573) (by decide +kernel)
theorem ml_L_61 : Cond.methodLink RL 61 yX6_group ∈ lw_tbl := List.mem_of_getElem? (i := 576) (by decide +kernel)
theorem ml_X6_171 : Cond.methodLink RX6 171 yX6_requireGroup ∈ lw_tbl := List.mem_of_getElem? (i := 580) (by decide +kernel)
theorem ml_L_156 : Cond.methodLink RL 156 yL_garble ∈ lw_tbl := List.mem_of_getElem? (i := 585) (by decide +kernel)
theorem ml_L_64 : Cond.methodLink RL 64 yX6_garble ∈ lw_tbl := List.mem_of_getElem? (i := 588) (by decide +kernel)
theorem ml_X6_177 : Cond.methodLink RX6 177 yX6_requireCodeWord ∈ lw_tbl := List.mem_of_getElem? (i := 593) (by decide +kernel)
theorem ml_X6_239 : Cond.methodLink RX6 239 yX5_isPlain ∈ lw_tbl := List.mem_of_getElem? (i := 597) (by decide +kernel)
theorem ml_X6_180 : Cond.methodLink RX6 180 yX1_withLetter ∈ lw_tbl := List.mem_of_getElem? (i := 599) (by decide +kernel)
theorem ml_X1_9 : Cond.methodLink RX1 9 yX1_letterAt ∈ lw_tbl := List.mem_of_getElem? (i := 602) (by decide +kernel)
theorem ml_L_159 : Cond.methodLink RL 159 yL_swap ∈ lw_tbl := List.mem_of_getElem? (i := 603) (by decide +kernel)
theorem ml_L_67 : Cond.methodLink RL 67 yX6_swap ∈ lw_tbl := List.mem_of_getElem? (i := 606) (by decide +kernel)
theorem ml_X6_184 : Cond.methodLink RX6 184 yX1_swapped ∈ lw_tbl := List.mem_of_getElem? (i := 610) (by decide +kernel)
theorem ml_X1_15 : Cond.methodLink RX1 15 yX1_withLetter ∈ lw_tbl := List.mem_of_getElem? (i := 613) (by decide +kernel)
theorem ml_L_162 : Cond.methodLink RL 162 yL_decode ∈ lw_tbl := List.mem_of_getElem? (i := 614) (by decide +kernel)
theorem ml_L_70 : Cond.methodLink RL 70 yX6_decode ∈ lw_tbl := List.mem_of_getElem? (i := 617) (by decide +kernel)
theorem ml_X6_190 : Cond.methodLink RX6 190 yX6_read ∈ lw_tbl := List.mem_of_getElem? (i := 621) (by decide +kernel)
theorem ml_X6_245 : Cond.methodLink RX6 245 yX5_wordOf ∈ lw_tbl := List.mem_of_getElem? (i := 625) (by decide +kernel)
theorem ml_X6_248 : Cond.methodLink RX6 248 yX0_onlyEntryLike ∈ lw_tbl := List.mem_of_getElem? (i := 626) (by decide +kernel)
theorem ml_L_165 : Cond.methodLink RL 165 yL_how ∈ lw_tbl := List.mem_of_getElem? (i := 630) (by decide +kernel)
theorem ml_L_73 : Cond.methodLink RL 73 yX6_how ∈ lw_tbl := List.mem_of_getElem? (i := 633) (by decide +kernel)
theorem ml_L_176 : Cond.methodLink RL 176 yL_share ∈ lw_tbl := List.mem_of_getElem? (i := 638) (by decide +kernel)
theorem ml_L_76 : Cond.methodLink RL 76 yX6_share ∈ lw_tbl := List.mem_of_getElem? (i := 641) (by decide +kernel)
theorem ml_L_180 : Cond.methodLink RL 180 yL_propose ∈ lw_tbl := List.mem_of_getElem? (i := 645) (by decide +kernel)
theorem ml_L_80 : Cond.methodLink RL 80 yX6_propose ∈ lw_tbl := List.mem_of_getElem? (i := 648) (by decide +kernel)
theorem ml_X6_203 : Cond.methodLink RX6 203 yX3_proposeOn ∈ lw_tbl := List.mem_of_getElem? (i := 652) (by decide +kernel)
theorem ml_X3_62 : Cond.methodLink RX3 62 yX0_hasPhrase ∈ lw_tbl := List.mem_of_getElem? (i := 656) (by decide +kernel)
theorem ml_X0_51 : Cond.methodLinkNest RX0 51 yX6_sameWords "WireBook" ∈ lw_tbl := List.mem_of_getElem? (i := 660) (by decide +kernel)
theorem ml_X3_68 : Cond.methodLink RX3 68 yX4_clear ∈ lw_tbl := List.mem_of_getElem? (i := 661) (by decide +kernel)
theorem ml_X3_71 : Cond.methodLink RX3 71 yX4_appendAll ∈ lw_tbl := List.mem_of_getElem? (i := 662) (by decide +kernel)
theorem ml_L_183 : Cond.methodLink RL 183 yL_learn ∈ lw_tbl := List.mem_of_getElem? (i := 663) (by decide +kernel)
theorem ml_L_83 : Cond.methodLink RL 83 yX6_learn ∈ lw_tbl := List.mem_of_getElem? (i := 666) (by decide +kernel)
theorem ml_X6_209 : Cond.methodLink RX6 209 yX6_learnOne ∈ lw_tbl := List.mem_of_getElem? (i := 671) (by decide +kernel)
theorem ml_X6_251 : Cond.methodLink RX6 251 yX0_latestCode ∈ lw_tbl := List.mem_of_getElem? (i := 675) (by decide +kernel)
theorem ml_L_89 : Cond.methodLink RL 89 yX7_init ∈ lw_tbl := List.mem_of_getElem? (i := 681) (by decide +kernel)
theorem ml_X7_1 : Cond.methodLink RX7 1 objectInit ∈ lw_tbl := List.mem_of_getElem? (i := 684) (by decide +kernel)
theorem ml_L_96 : Cond.methodLink RL 96 yX7_thrown ∈ lw_tbl := List.mem_of_getElem? (i := 743) (by decide +kernel)
theorem ml_L_95 : Cond.methodLink RL 95 yX7_say ∈ lw_tbl := List.mem_of_getElem? (i := 747) (by decide +kernel)
theorem ml_X7_50 : Cond.methodLink RX7 50 yX7_isIn ∈ lw_tbl := List.mem_of_getElem? (i := 751) (by decide +kernel)
theorem ml_X7_59 : Cond.methodLink RX7 59 yX7_no ∈ lw_tbl := List.mem_of_getElem? (i := 754) (by decide +kernel)
theorem ml_L_102 : Cond.methodLink RL 102 yX7_empty ∈ lw_tbl := List.mem_of_getElem? (i := 758) (by decide +kernel)
theorem ml_L_106 : Cond.methodLink RL 106 yX7_words ∈ lw_tbl := List.mem_of_getElem? (i := 762) (by decide +kernel)
theorem ml_L_109 : Cond.methodLink RL 109 yX7_wordAt ∈ lw_tbl := List.mem_of_getElem? (i := 766) (by decide +kernel)
theorem ml_L_113 : Cond.methodLink RL 113 yX7_keep ∈ lw_tbl := List.mem_of_getElem? (i := 770) (by decide +kernel)
theorem ml_X7_69 : Cond.methodLink RX7 69 arraycopyName ∈ lw_tbl := List.mem_of_getElem? (i := 774) (by decide +kernel)
theorem ml_L_116 : Cond.methodLink RL 116 yX7_recall ∈ lw_tbl := List.mem_of_getElem? (i := 775) (by decide +kernel)
theorem ml_L_120 : Cond.methodLink RL 120 yX7_letter ∈ lw_tbl := List.mem_of_getElem? (i := 779) (by decide +kernel)
theorem ml_X7_78 : Cond.methodLink RX7 78 yX7_isCode ∈ lw_tbl := List.mem_of_getElem? (i := 783) (by decide +kernel)
theorem ml_X7_81 : Cond.methodLink RX7 81 yX7_letterOf ∈ lw_tbl := List.mem_of_getElem? (i := 787) (by decide +kernel)
theorem ml_X7_75 : Cond.methodLink RX7 75 yX7_power ∈ lw_tbl := List.mem_of_getElem? (i := 790) (by decide +kernel)
theorem ml_L_123 : Cond.methodLink RL 123 yX7_reason ∈ lw_tbl := List.mem_of_getElem? (i := 793) (by decide +kernel)
theorem ml_X7_55 : Cond.methodLink RX7 55 yX7_isBook ∈ lw_tbl := List.mem_of_getElem? (i := 797) (by decide +kernel)
theorem ml_X7_95 : Cond.methodLink RX7 95 yX7_reasonFor ∈ lw_tbl := List.mem_of_getElem? (i := 800) (by decide +kernel)
theorem ml_X7_88 : Cond.methodLink RX7 88 yX7_isOneOff ∈ lw_tbl := List.mem_of_getElem? (i := 804) (by decide +kernel)
theorem ml_X7_92 : Cond.methodLink RX7 92 yX7_isSwapped ∈ lw_tbl := List.mem_of_getElem? (i := 807) (by decide +kernel)
theorem ml_X7_85 : Cond.methodLink RX7 85 yX7_swapped ∈ lw_tbl := List.mem_of_getElem? (i := 810) (by decide +kernel)
theorem ml_L_126 : Cond.methodLink RL 126 yX7_firstFit ∈ lw_tbl := List.mem_of_getElem? (i := 813) (by decide +kernel)
theorem ml_X7_98 : Cond.methodLink RX7 98 yX7_fitFrom ∈ lw_tbl := List.mem_of_getElem? (i := 817) (by decide +kernel)
theorem ml_L_129 : Cond.methodLink RL 129 yX7_define ∈ lw_tbl := List.mem_of_getElem? (i := 821) (by decide +kernel)
theorem ml_X7_101 : Cond.methodLink RX7 101 yX7_add ∈ lw_tbl := List.mem_of_getElem? (i := 825) (by decide +kernel)
theorem ml_L_132 : Cond.methodLink RL 132 yX7_drop ∈ lw_tbl := List.mem_of_getElem? (i := 829) (by decide +kernel)
theorem ml_X7_105 : Cond.methodLink RX7 105 yX7_isEntry ∈ lw_tbl := List.mem_of_getElem? (i := 833) (by decide +kernel)
theorem ml_L_135 : Cond.methodLink RL 135 yX7_entries ∈ lw_tbl := List.mem_of_getElem? (i := 837) (by decide +kernel)
theorem ml_L_139 : Cond.methodLink RL 139 yX7_entry ∈ lw_tbl := List.mem_of_getElem? (i := 841) (by decide +kernel)
theorem ml_L_142 : Cond.methodLink RL 142 yX7_find ∈ lw_tbl := List.mem_of_getElem? (i := 845) (by decide +kernel)
theorem ml_X7_108 : Cond.methodLink RX7 108 yX7_entryOf ∈ lw_tbl := List.mem_of_getElem? (i := 849) (by decide +kernel)
theorem ml_L_145 : Cond.methodLink RL 145 yX7_setPrice ∈ lw_tbl := List.mem_of_getElem? (i := 853) (by decide +kernel)
theorem ml_L_148 : Cond.methodLink RL 148 yX7_encode ∈ lw_tbl := List.mem_of_getElem? (i := 857) (by decide +kernel)
theorem ml_X7_120 : Cond.methodLink RX7 120 yX7_divide ∈ lw_tbl := List.mem_of_getElem? (i := 861) (by decide +kernel)
theorem ml_X7_111 : Cond.methodLink RX7 111 yX7_stands ∈ lw_tbl := List.mem_of_getElem? (i := 865) (by decide +kernel)
theorem ml_X7_115 : Cond.methodLink RX7 115 Lib.Math.min.name ∈ lw_tbl := List.mem_of_getElem? (i := 869) (by decide +kernel)
theorem ml_L_152 : Cond.methodLink RL 152 yX7_groups ∈ lw_tbl := List.mem_of_getElem? (i := 872) (by decide +kernel)
theorem ml_L_155 : Cond.methodLink RL 155 yX7_group ∈ lw_tbl := List.mem_of_getElem? (i := 876) (by decide +kernel)
theorem ml_X7_127 : Cond.methodLink RX7 127 yX7_isGroup ∈ lw_tbl := List.mem_of_getElem? (i := 880) (by decide +kernel)
theorem ml_L_158 : Cond.methodLink RL 158 yX7_garble ∈ lw_tbl := List.mem_of_getElem? (i := 884) (by decide +kernel)
theorem ml_L_161 : Cond.methodLink RL 161 yX7_swap ∈ lw_tbl := List.mem_of_getElem? (i := 888) (by decide +kernel)
theorem ml_L_164 : Cond.methodLink RL 164 yX7_decode ∈ lw_tbl := List.mem_of_getElem? (i := 892) (by decide +kernel)
theorem ml_X7_133 : Cond.methodLink RX7 133 yX7_write ∈ lw_tbl := List.mem_of_getElem? (i := 896) (by decide +kernel)
theorem ml_X7_137 : Cond.methodLink RX7 137 yX7_meant ∈ lw_tbl := List.mem_of_getElem? (i := 900) (by decide +kernel)
theorem ml_L_167 : Cond.methodLink RL 167 yX7_how ∈ lw_tbl := List.mem_of_getElem? (i := 904) (by decide +kernel)
theorem ml_L_171 : Cond.methodLink RL 171 yX7_cost ∈ lw_tbl := List.mem_of_getElem? (i := 908) (by decide +kernel)
theorem ml_L_175 : Cond.methodLink RL 175 yX7_time ∈ lw_tbl := List.mem_of_getElem? (i := 912) (by decide +kernel)
theorem ml_X7_146 : Cond.methodLink RX7 146 yX7_unitsOf ∈ lw_tbl := List.mem_of_getElem? (i := 916) (by decide +kernel)
theorem ml_L_179 : Cond.methodLink RL 179 yX7_share ∈ lw_tbl := List.mem_of_getElem? (i := 923) (by decide +kernel)
theorem ml_L_182 : Cond.methodLink RL 182 yX7_propose ∈ lw_tbl := List.mem_of_getElem? (i := 927) (by decide +kernel)
theorem ml_X7_164 : Cond.methodLink RX7 164 yX7_proposal ∈ lw_tbl := List.mem_of_getElem? (i := 931) (by decide +kernel)
theorem ml_X7_152 : Cond.methodLink RX7 152 yX7_timesOf ∈ lw_tbl := List.mem_of_getElem? (i := 935) (by decide +kernel)
theorem ml_X7_149 : Cond.methodLink RX7 149 yX7_isSame ∈ lw_tbl := List.mem_of_getElem? (i := 939) (by decide +kernel)
theorem ml_X7_155 : Cond.methodLink RX7 155 yX7_isInBook ∈ lw_tbl := List.mem_of_getElem? (i := 943) (by decide +kernel)
theorem ml_L_185 : Cond.methodLink RL 185 yX7_learn ∈ lw_tbl := List.mem_of_getElem? (i := 947) (by decide +kernel)
theorem ml_L_190 : Cond.methodLink RL 190 yX7_digest ∈ lw_tbl := List.mem_of_getElem? (i := 951) (by decide +kernel)
theorem im_obj : Cond.instanceMethod objectInit ∈ lw_tbl := List.mem_of_getElem? (i := 48) (by decide +kernel)
theorem co_obj : Cond.code objectInit ⟨#[0xb1]⟩ 1 none ∈ lw_tbl := List.mem_of_getElem? (i := 49) (by decide +kernel)
theorem sm_acopy : Cond.static arraycopyName ∈ lw_tbl := List.mem_of_getElem? (i := 399) (by decide +kernel)
theorem na_acopy : Cond.native arraycopyName ∈ lw_tbl := List.mem_of_getElem? (i := 400) (by decide +kernel)
theorem sm_min : Cond.static Lib.Math.min.name ∈ lw_tbl := List.mem_of_getElem? (i := 870) (by decide +kernel)
theorem co_min : Cond.code Lib.Math.min.name Lib.Math.min.code 2 (some .int) ∈ lw_tbl := List.mem_of_getElem? (i := 871) (by decide +kernel)
theorem cl_L_8 : Cond.classLink RL 8 RX6 ∈ lw_tbl := List.mem_of_getElem? (i := 42) (by decide +kernel)
theorem cl_X6_9 : Cond.classLink RX6 9 RX0 ∈ lw_tbl := List.mem_of_getElem? (i := 50) (by decide +kernel)
theorem cl_X6_16 : Cond.classLink RX6 16 RX4 ∈ lw_tbl := List.mem_of_getElem? (i := 78) (by decide +kernel)
theorem cl_X6_23 : Cond.classLink RX6 23 RX3 ∈ lw_tbl := List.mem_of_getElem? (i := 97) (by decide +kernel)
theorem cl_X3_18 : Cond.classLink RX3 18 "[[I" ∈ lw_tbl := List.mem_of_getElem? (i := 103) (by decide +kernel)
theorem cl_X6_30 : Cond.classLink RX6 30 RX5 ∈ lw_tbl := List.mem_of_getElem? (i := 127) (by decide +kernel)
theorem cl_X6_37 : Cond.classLink RX6 37 RX2 ∈ lw_tbl := List.mem_of_getElem? (i := 142) (by decide +kernel)
theorem cl_L_13 : Cond.classLink RL 13 "java/lang/IllegalArgumentException" ∈ lw_tbl := List.mem_of_getElem? (i := 267) (by decide +kernel)
theorem cl_L_15 : Cond.classLink RL 15 "java/lang/IllegalStateException" ∈ lw_tbl := List.mem_of_getElem? (i := 268) (by decide +kernel)
theorem cl_X6_52 : Cond.classLink RX6 52 "java/lang/IllegalArgumentException" ∈ lw_tbl := List.mem_of_getElem? (i := 273) (by decide +kernel)
theorem cl_X6_62 : Cond.classLink RX6 62 "java/lang/IllegalStateException" ∈ lw_tbl := List.mem_of_getElem? (i := 341) (by decide +kernel)
theorem cl_L_20 : Cond.classLink RL 20 "java/lang/IndexOutOfBoundsException" ∈ lw_tbl := List.mem_of_getElem? (i := 364) (by decide +kernel)
theorem cl_X6_74 : Cond.classLink RX6 74 "java/lang/IndexOutOfBoundsException" ∈ lw_tbl := List.mem_of_getElem? (i := 369) (by decide +kernel)
theorem cl_L_87 : Cond.classLink RL 87 RX7 ∈ lw_tbl := List.mem_of_getElem? (i := 679) (by decide +kernel)
theorem ac_int : Cond.arrayClass .int ∈ lw_tbl := List.mem_of_getElem? (i := 77) (by decide +kernel)
theorem ac_byte : Cond.arrayClass .byte ∈ lw_tbl := List.mem_of_getElem? (i := 340) (by decide +kernel)
theorem ac_long : Cond.arrayClass .long ∈ lw_tbl := List.mem_of_getElem? (i := 957) (by decide +kernel)
theorem ac_double : Cond.arrayClass .double ∈ lw_tbl := List.mem_of_getElem? (i := 958) (by decide +kernel)
theorem it_X6 : Cond.instantiable RX6 8 ∈ lw_tbl := List.mem_of_getElem? (i := 43) (by decide +kernel)
theorem it_X0 : Cond.instantiable RX0 4 ∈ lw_tbl := List.mem_of_getElem? (i := 52) (by decide +kernel)
theorem it_X4 : Cond.instantiable RX4 2 ∈ lw_tbl := List.mem_of_getElem? (i := 79) (by decide +kernel)
theorem it_X3 : Cond.instantiable RX3 5 ∈ lw_tbl := List.mem_of_getElem? (i := 98) (by decide +kernel)
theorem it_X5 : Cond.instantiable RX5 2 ∈ lw_tbl := List.mem_of_getElem? (i := 128) (by decide +kernel)
theorem it_X2 : Cond.instantiable RX2 2 ∈ lw_tbl := List.mem_of_getElem? (i := 143) (by decide +kernel)
theorem it_X7 : Cond.instantiable RX7 19 ∈ lw_tbl := List.mem_of_getElem? (i := 680) (by decide +kernel)
theorem kc_X6_230 : Cond.constant RX6 230 (11881375) ∈ lw_tbl := List.mem_of_getElem? (i := 436) (by decide +kernel)
theorem kc_X0_47 : Cond.constant RX0 47 (11881375) ∈ lw_tbl := List.mem_of_getElem? (i := 475) (by decide +kernel)
theorem kc_X7_54 : Cond.constant RX7 54 (11881375) ∈ lw_tbl := List.mem_of_getElem? (i := 786) (by decide +kernel)
theorem kl_X6_213 : Cond.constantLong RX6 213 (379) ∈ lw_tbl := List.mem_of_getElem? (i := 237) (by decide +kernel)
theorem kl_X6_254 : Cond.constantLong RX6 254 (31) ∈ lw_tbl := List.mem_of_getElem? (i := 241) (by decide +kernel)
theorem kl_X7_167 : Cond.constantLong RX7 167 (11749) ∈ lw_tbl := List.mem_of_getElem? (i := 955) (by decide +kernel)
theorem kl_X7_169 : Cond.constantLong RX7 169 (31) ∈ lw_tbl := List.mem_of_getElem? (i := 956) (by decide +kernel)
theorem cs_iae : Cond.castable "java/lang/IllegalArgumentException" "java/lang/IllegalArgumentException" ∈ lw_tbl := List.mem_of_getElem? (i := 275) (by decide +kernel)
theorem cs_ise : Cond.castable "java/lang/IllegalStateException" "java/lang/IllegalStateException" ∈ lw_tbl := List.mem_of_getElem? (i := 343) (by decide +kernel)
theorem cs_iob : Cond.castable "java/lang/IndexOutOfBoundsException" "java/lang/IndexOutOfBoundsException" ∈ lw_tbl := List.mem_of_getElem? (i := 371) (by decide +kernel)
theorem inw_X0 : ∀ w ∈ u_ws RX0 TX0 4, w ∈ lw_tbl ∧ goodWord w = true := by decide +kernel
theorem in_X0 : ∀ w ∈ u_ws RX0 TX0 4, w ∈ jBig := fun w h => jw_in (inw_X0 w h).1 (inw_X0 w h).2
theorem inw_X2 : ∀ w ∈ u_ws RX2 TX2 2, w ∈ lw_tbl ∧ goodWord w = true := by decide +kernel
theorem in_X2 : ∀ w ∈ u_ws RX2 TX2 2, w ∈ jBig := fun w h => jw_in (inw_X2 w h).1 (inw_X2 w h).2
theorem inw_X3 : ∀ w ∈ u_ws RX3 TX3 5, w ∈ lw_tbl ∧ goodWord w = true := by decide +kernel
theorem in_X3 : ∀ w ∈ u_ws RX3 TX3 5, w ∈ jBig := fun w h => jw_in (inw_X3 w h).1 (inw_X3 w h).2
theorem inw_X4 : ∀ w ∈ u_ws RX4 TX4 2, w ∈ lw_tbl ∧ goodWord w = true := by decide +kernel
theorem in_X4 : ∀ w ∈ u_ws RX4 TX4 2, w ∈ jBig := fun w h => jw_in (inw_X4 w h).1 (inw_X4 w h).2
theorem inw_X5 : ∀ w ∈ u_ws RX5 TX5 2, w ∈ lw_tbl ∧ goodWord w = true := by decide +kernel
theorem in_X5 : ∀ w ∈ u_ws RX5 TX5 2, w ∈ jBig := fun w h => jw_in (inw_X5 w h).1 (inw_X5 w h).2
theorem inw_X6 : ∀ w ∈ u_ws RX6 TX6 8, w ∈ lw_tbl ∧ goodWord w = true := by decide +kernel
theorem in_X6 : ∀ w ∈ u_ws RX6 TX6 8, w ∈ jBig := fun w h => jw_in (inw_X6 w h).1 (inw_X6 w h).2
theorem inw_X7 : ∀ w ∈ u_ws RX7 TX7 19, w ∈ lw_tbl ∧ goodWord w = true := by decide +kernel
theorem in_X7 : ∀ w ∈ u_ws RX7 TX7 19, w ∈ jBig := fun w h => jw_in (inw_X7 w h).1 (inw_X7 w h).2
theorem fl_X0_9 : Cond.fieldLink RX0 9 (TX0 0).1 (TX0 0).2.1 (TX0 0).2.2.1 ∈ lw_tbl := List.mem_of_getElem? (i := 57) (by decide +kernel)
theorem gf_X0_9 {X : jX} {M : jMt} {rm : Room} {pc : Nat} {lc st : List Value} {k n : Nat} {σ : jS} {Q : jOut → jS → Prop} {i : Nat} {a0 a1 a2 a3 : Value} (hM : M.1.cls = RX0) (d : decode M.2.1 pc = .ok (.getfield 9, 3)) (he : σ.2 i = jO 0 [a0, a1, a2, a3]) (kk : J X M rm (pc + 3) lc (a0 :: st) k n σ Q) : J X M rm pc lc (.ref i :: st) k n σ Q := J.getf (T := TX0) (kf := 0) d he rfl in_X0 (by decide) (by rw [hM]; exact fl_X0_9) rfl kk
theorem pf_X0_9 {X : jX} {M : jMt} {rm : Room} {pc : Nat} {lc st : List Value} {k n : Nat} {σ : jS} {Q : jOut → jS → Prop} {i : Nat} {a0 a1 a2 a3 : Value} {x : Nat} (hM : M.1.cls = RX0) (hM2 : M.1.name = "<init>") (d : decode M.2.1 pc = .ok (.putfield 9, 3)) (he : σ.2 i = jO 0 [a0, a1, a2, a3]) (kk : J X M rm (pc + 3) lc st k n (jset σ i (jO 0 [.ref x, a1, a2, a3])) Q) : J X M rm pc lc ((.ref x) :: .ref i :: st) k n σ Q := J.putfF (T := TX0) (kf := 0) tyX0 tyX0_ok nmX0 d he rfl in_X0 (by decide) (by rw [hM]; exact fl_X0_9) rfl hM2 (by rw [hM]; rfl) rfl (Or.inr ⟨x, rfl, rfl⟩) (by simp) kk
theorem fl_X6_143 : Cond.fieldLinkNest RX6 143 (TX0 0).1 (TX0 0).2.1 (TX0 0).2.2.1 "WireBook" ∈ lw_tbl := List.mem_of_getElem? (i := 58) (by decide +kernel)
theorem gf_X6_143 {X : jX} {M : jMt} {rm : Room} {pc : Nat} {lc st : List Value} {k n : Nat} {σ : jS} {Q : jOut → jS → Prop} {i : Nat} {a0 a1 a2 a3 : Value} (hM : M.1.cls = RX6) (d : decode M.2.1 pc = .ok (.getfield 143, 3)) (he : σ.2 i = jO 0 [a0, a1, a2, a3]) (kk : J X M rm (pc + 3) lc (a0 :: st) k n σ Q) : J X M rm pc lc (.ref i :: st) k n σ Q := J.getfN (T := TX0) (kf := 0) d he rfl in_X0 (by decide) (by rw [hM]; exact fl_X6_143) rfl kk
theorem fl_X0_15 : Cond.fieldLink RX0 15 (TX0 1).1 (TX0 1).2.1 (TX0 1).2.2.1 ∈ lw_tbl := List.mem_of_getElem? (i := 59) (by decide +kernel)
theorem gf_X0_15 {X : jX} {M : jMt} {rm : Room} {pc : Nat} {lc st : List Value} {k n : Nat} {σ : jS} {Q : jOut → jS → Prop} {i : Nat} {a0 a1 a2 a3 : Value} (hM : M.1.cls = RX0) (d : decode M.2.1 pc = .ok (.getfield 15, 3)) (he : σ.2 i = jO 0 [a0, a1, a2, a3]) (kk : J X M rm (pc + 3) lc (a1 :: st) k n σ Q) : J X M rm pc lc (.ref i :: st) k n σ Q := J.getf (T := TX0) (kf := 1) d he rfl in_X0 (by decide) (by rw [hM]; exact fl_X0_15) rfl kk
theorem pf_X0_15 {X : jX} {M : jMt} {rm : Room} {pc : Nat} {lc st : List Value} {k n : Nat} {σ : jS} {Q : jOut → jS → Prop} {i : Nat} {a0 a1 a2 a3 : Value} {x : Nat} (hM : M.1.cls = RX0) (hM2 : M.1.name = "<init>") (d : decode M.2.1 pc = .ok (.putfield 15, 3)) (he : σ.2 i = jO 0 [a0, a1, a2, a3]) (kk : J X M rm (pc + 3) lc st k n (jset σ i (jO 0 [a0, .ref x, a2, a3])) Q) : J X M rm pc lc ((.ref x) :: .ref i :: st) k n σ Q := J.putfF (T := TX0) (kf := 1) tyX0 tyX0_ok nmX0 d he rfl in_X0 (by decide) (by rw [hM]; exact fl_X0_15) rfl hM2 (by rw [hM]; rfl) rfl (Or.inr ⟨x, rfl, rfl⟩) (by simp) kk
theorem fl_X2_22 : Cond.fieldLinkNest RX2 22 (TX0 1).1 (TX0 1).2.1 (TX0 1).2.2.1 "WireBook" ∈ lw_tbl := List.mem_of_getElem? (i := 60) (by decide +kernel)
theorem gf_X2_22 {X : jX} {M : jMt} {rm : Room} {pc : Nat} {lc st : List Value} {k n : Nat} {σ : jS} {Q : jOut → jS → Prop} {i : Nat} {a0 a1 a2 a3 : Value} (hM : M.1.cls = RX2) (d : decode M.2.1 pc = .ok (.getfield 22, 3)) (he : σ.2 i = jO 0 [a0, a1, a2, a3]) (kk : J X M rm (pc + 3) lc (a1 :: st) k n σ Q) : J X M rm pc lc (.ref i :: st) k n σ Q := J.getfN (T := TX0) (kf := 1) d he rfl in_X0 (by decide) (by rw [hM]; exact fl_X2_22) rfl kk
theorem fl_X6_146 : Cond.fieldLinkNest RX6 146 (TX0 1).1 (TX0 1).2.1 (TX0 1).2.2.1 "WireBook" ∈ lw_tbl := List.mem_of_getElem? (i := 61) (by decide +kernel)
theorem gf_X6_146 {X : jX} {M : jMt} {rm : Room} {pc : Nat} {lc st : List Value} {k n : Nat} {σ : jS} {Q : jOut → jS → Prop} {i : Nat} {a0 a1 a2 a3 : Value} (hM : M.1.cls = RX6) (d : decode M.2.1 pc = .ok (.getfield 146, 3)) (he : σ.2 i = jO 0 [a0, a1, a2, a3]) (kk : J X M rm (pc + 3) lc (a1 :: st) k n σ Q) : J X M rm pc lc (.ref i :: st) k n σ Q := J.getfN (T := TX0) (kf := 1) d he rfl in_X0 (by decide) (by rw [hM]; exact fl_X6_146) rfl kk
theorem fl_X0_18 : Cond.fieldLink RX0 18 (TX0 2).1 (TX0 2).2.1 (TX0 2).2.2.1 ∈ lw_tbl := List.mem_of_getElem? (i := 62) (by decide +kernel)
theorem gf_X0_18 {X : jX} {M : jMt} {rm : Room} {pc : Nat} {lc st : List Value} {k n : Nat} {σ : jS} {Q : jOut → jS → Prop} {i : Nat} {a0 a1 a2 a3 : Value} (hM : M.1.cls = RX0) (d : decode M.2.1 pc = .ok (.getfield 18, 3)) (he : σ.2 i = jO 0 [a0, a1, a2, a3]) (kk : J X M rm (pc + 3) lc (a2 :: st) k n σ Q) : J X M rm pc lc (.ref i :: st) k n σ Q := J.getf (T := TX0) (kf := 2) d he rfl in_X0 (by decide) (by rw [hM]; exact fl_X0_18) rfl kk
theorem pf_X0_18 {X : jX} {M : jMt} {rm : Room} {pc : Nat} {lc st : List Value} {k n : Nat} {σ : jS} {Q : jOut → jS → Prop} {i : Nat} {a0 a1 a2 a3 : Value} {x : Nat} (hM : M.1.cls = RX0) (hM2 : M.1.name = "<init>") (d : decode M.2.1 pc = .ok (.putfield 18, 3)) (he : σ.2 i = jO 0 [a0, a1, a2, a3]) (kk : J X M rm (pc + 3) lc st k n (jset σ i (jO 0 [a0, a1, .ref x, a3])) Q) : J X M rm pc lc ((.ref x) :: .ref i :: st) k n σ Q := J.putfF (T := TX0) (kf := 2) tyX0 tyX0_ok nmX0 d he rfl in_X0 (by decide) (by rw [hM]; exact fl_X0_18) rfl hM2 (by rw [hM]; rfl) rfl (Or.inr ⟨x, rfl, rfl⟩) (by simp) kk
theorem fl_X2_31 : Cond.fieldLinkNest RX2 31 (TX0 2).1 (TX0 2).2.1 (TX0 2).2.2.1 "WireBook" ∈ lw_tbl := List.mem_of_getElem? (i := 63) (by decide +kernel)
theorem gf_X2_31 {X : jX} {M : jMt} {rm : Room} {pc : Nat} {lc st : List Value} {k n : Nat} {σ : jS} {Q : jOut → jS → Prop} {i : Nat} {a0 a1 a2 a3 : Value} (hM : M.1.cls = RX2) (d : decode M.2.1 pc = .ok (.getfield 31, 3)) (he : σ.2 i = jO 0 [a0, a1, a2, a3]) (kk : J X M rm (pc + 3) lc (a2 :: st) k n σ Q) : J X M rm pc lc (.ref i :: st) k n σ Q := J.getfN (T := TX0) (kf := 2) d he rfl in_X0 (by decide) (by rw [hM]; exact fl_X2_31) rfl kk
theorem fl_X6_149 : Cond.fieldLinkNest RX6 149 (TX0 2).1 (TX0 2).2.1 (TX0 2).2.2.1 "WireBook" ∈ lw_tbl := List.mem_of_getElem? (i := 64) (by decide +kernel)
theorem gf_X6_149 {X : jX} {M : jMt} {rm : Room} {pc : Nat} {lc st : List Value} {k n : Nat} {σ : jS} {Q : jOut → jS → Prop} {i : Nat} {a0 a1 a2 a3 : Value} (hM : M.1.cls = RX6) (d : decode M.2.1 pc = .ok (.getfield 149, 3)) (he : σ.2 i = jO 0 [a0, a1, a2, a3]) (kk : J X M rm (pc + 3) lc (a2 :: st) k n σ Q) : J X M rm pc lc (.ref i :: st) k n σ Q := J.getfN (T := TX0) (kf := 2) d he rfl in_X0 (by decide) (by rw [hM]; exact fl_X6_149) rfl kk
theorem fl_X0_21 : Cond.fieldLink RX0 21 (TX0 3).1 (TX0 3).2.1 (TX0 3).2.2.1 ∈ lw_tbl := List.mem_of_getElem? (i := 65) (by decide +kernel)
theorem gf_X0_21 {X : jX} {M : jMt} {rm : Room} {pc : Nat} {lc st : List Value} {k n : Nat} {σ : jS} {Q : jOut → jS → Prop} {i : Nat} {a0 a1 a2 a3 : Value} (hM : M.1.cls = RX0) (d : decode M.2.1 pc = .ok (.getfield 21, 3)) (he : σ.2 i = jO 0 [a0, a1, a2, a3]) (kk : J X M rm (pc + 3) lc (a3 :: st) k n σ Q) : J X M rm pc lc (.ref i :: st) k n σ Q := J.getf (T := TX0) (kf := 3) d he rfl in_X0 (by decide) (by rw [hM]; exact fl_X0_21) rfl kk
theorem pf_X0_21 {X : jX} {M : jMt} {rm : Room} {pc : Nat} {lc st : List Value} {k n : Nat} {σ : jS} {Q : jOut → jS → Prop} {i : Nat} {a0 a1 a2 a3 : Value} {x : Int32} (hM : M.1.cls = RX0) (d : decode M.2.1 pc = .ok (.putfield 21, 3)) (he : σ.2 i = jO 0 [a0, a1, a2, a3]) (kk : J X M rm (pc + 3) lc st k n (jset σ i (jO 0 [a0, a1, a2, .int x])) Q) : J X M rm pc lc ((.int x) :: .ref i :: st) k n σ Q := J.putf (T := TX0) (kf := 3) tyX0 tyX0_ok nmX0 d he rfl in_X0 (by decide) (by rw [hM]; exact fl_X0_21) rfl rfl (Or.inl ⟨x, rfl, rfl⟩) (by simp) kk
theorem fl_X2_27 : Cond.fieldLinkNest RX2 27 (TX0 3).1 (TX0 3).2.1 (TX0 3).2.2.1 "WireBook" ∈ lw_tbl := List.mem_of_getElem? (i := 66) (by decide +kernel)
theorem gf_X2_27 {X : jX} {M : jMt} {rm : Room} {pc : Nat} {lc st : List Value} {k n : Nat} {σ : jS} {Q : jOut → jS → Prop} {i : Nat} {a0 a1 a2 a3 : Value} (hM : M.1.cls = RX2) (d : decode M.2.1 pc = .ok (.getfield 27, 3)) (he : σ.2 i = jO 0 [a0, a1, a2, a3]) (kk : J X M rm (pc + 3) lc (a3 :: st) k n σ Q) : J X M rm pc lc (.ref i :: st) k n σ Q := J.getfN (T := TX0) (kf := 3) d he rfl in_X0 (by decide) (by rw [hM]; exact fl_X2_27) rfl kk
theorem fl_X6_135 : Cond.fieldLinkNest RX6 135 (TX0 3).1 (TX0 3).2.1 (TX0 3).2.2.1 "WireBook" ∈ lw_tbl := List.mem_of_getElem? (i := 67) (by decide +kernel)
theorem gf_X6_135 {X : jX} {M : jMt} {rm : Room} {pc : Nat} {lc st : List Value} {k n : Nat} {σ : jS} {Q : jOut → jS → Prop} {i : Nat} {a0 a1 a2 a3 : Value} (hM : M.1.cls = RX6) (d : decode M.2.1 pc = .ok (.getfield 135, 3)) (he : σ.2 i = jO 0 [a0, a1, a2, a3]) (kk : J X M rm (pc + 3) lc (a3 :: st) k n σ Q) : J X M rm pc lc (.ref i :: st) k n σ Q := J.getfN (T := TX0) (kf := 3) d he rfl in_X0 (by decide) (by rw [hM]; exact fl_X6_135) rfl kk
theorem fl_X4_9 : Cond.fieldLink RX4 9 (TX4 0).1 (TX4 0).2.1 (TX4 0).2.2.1 ∈ lw_tbl := List.mem_of_getElem? (i := 84) (by decide +kernel)
theorem gf_X4_9 {X : jX} {M : jMt} {rm : Room} {pc : Nat} {lc st : List Value} {k n : Nat} {σ : jS} {Q : jOut → jS → Prop} {i : Nat} {a0 a1 : Value} (hM : M.1.cls = RX4) (d : decode M.2.1 pc = .ok (.getfield 9, 3)) (he : σ.2 i = jO 3 [a0, a1]) (kk : J X M rm (pc + 3) lc (a0 :: st) k n σ Q) : J X M rm pc lc (.ref i :: st) k n σ Q := J.getf (T := TX4) (kf := 0) d he rfl in_X4 (by decide) (by rw [hM]; exact fl_X4_9) rfl kk
theorem pf_X4_9 {X : jX} {M : jMt} {rm : Room} {pc : Nat} {lc st : List Value} {k n : Nat} {σ : jS} {Q : jOut → jS → Prop} {i : Nat} {a0 a1 : Value} {x : Nat} (hM : M.1.cls = RX4) (hM2 : M.1.name = "<init>") (d : decode M.2.1 pc = .ok (.putfield 9, 3)) (he : σ.2 i = jO 3 [a0, a1]) (kk : J X M rm (pc + 3) lc st k n (jset σ i (jO 3 [.ref x, a1])) Q) : J X M rm pc lc ((.ref x) :: .ref i :: st) k n σ Q := J.putfF (T := TX4) (kf := 0) tyX4 tyX4_ok nmX4 d he rfl in_X4 (by decide) (by rw [hM]; exact fl_X4_9) rfl hM2 (by rw [hM]; rfl) rfl (Or.inr ⟨x, rfl, rfl⟩) (by simp) kk
theorem fl_X3_40 : Cond.fieldLinkNest RX3 40 (TX4 0).1 (TX4 0).2.1 (TX4 0).2.2.1 "WireBook" ∈ lw_tbl := List.mem_of_getElem? (i := 85) (by decide +kernel)
theorem gf_X3_40 {X : jX} {M : jMt} {rm : Room} {pc : Nat} {lc st : List Value} {k n : Nat} {σ : jS} {Q : jOut → jS → Prop} {i : Nat} {a0 a1 : Value} (hM : M.1.cls = RX3) (d : decode M.2.1 pc = .ok (.getfield 40, 3)) (he : σ.2 i = jO 3 [a0, a1]) (kk : J X M rm (pc + 3) lc (a0 :: st) k n σ Q) : J X M rm pc lc (.ref i :: st) k n σ Q := J.getfN (T := TX4) (kf := 0) d he rfl in_X4 (by decide) (by rw [hM]; exact fl_X3_40) rfl kk
theorem fl_X0_28 : Cond.fieldLinkNest RX0 28 (TX4 0).1 (TX4 0).2.1 (TX4 0).2.2.1 "WireBook" ∈ lw_tbl := List.mem_of_getElem? (i := 86) (by decide +kernel)
theorem gf_X0_28 {X : jX} {M : jMt} {rm : Room} {pc : Nat} {lc st : List Value} {k n : Nat} {σ : jS} {Q : jOut → jS → Prop} {i : Nat} {a0 a1 : Value} (hM : M.1.cls = RX0) (d : decode M.2.1 pc = .ok (.getfield 28, 3)) (he : σ.2 i = jO 3 [a0, a1]) (kk : J X M rm (pc + 3) lc (a0 :: st) k n σ Q) : J X M rm pc lc (.ref i :: st) k n σ Q := J.getfN (T := TX4) (kf := 0) d he rfl in_X4 (by decide) (by rw [hM]; exact fl_X0_28) rfl kk
theorem fl_X6_79 : Cond.fieldLinkNest RX6 79 (TX4 0).1 (TX4 0).2.1 (TX4 0).2.2.1 "WireBook" ∈ lw_tbl := List.mem_of_getElem? (i := 87) (by decide +kernel)
theorem gf_X6_79 {X : jX} {M : jMt} {rm : Room} {pc : Nat} {lc st : List Value} {k n : Nat} {σ : jS} {Q : jOut → jS → Prop} {i : Nat} {a0 a1 : Value} (hM : M.1.cls = RX6) (d : decode M.2.1 pc = .ok (.getfield 79, 3)) (he : σ.2 i = jO 3 [a0, a1]) (kk : J X M rm (pc + 3) lc (a0 :: st) k n σ Q) : J X M rm pc lc (.ref i :: st) k n σ Q := J.getfN (T := TX4) (kf := 0) d he rfl in_X4 (by decide) (by rw [hM]; exact fl_X6_79) rfl kk
theorem fl_X4_15 : Cond.fieldLink RX4 15 (TX4 1).1 (TX4 1).2.1 (TX4 1).2.2.1 ∈ lw_tbl := List.mem_of_getElem? (i := 88) (by decide +kernel)
theorem gf_X4_15 {X : jX} {M : jMt} {rm : Room} {pc : Nat} {lc st : List Value} {k n : Nat} {σ : jS} {Q : jOut → jS → Prop} {i : Nat} {a0 a1 : Value} (hM : M.1.cls = RX4) (d : decode M.2.1 pc = .ok (.getfield 15, 3)) (he : σ.2 i = jO 3 [a0, a1]) (kk : J X M rm (pc + 3) lc (a1 :: st) k n σ Q) : J X M rm pc lc (.ref i :: st) k n σ Q := J.getf (T := TX4) (kf := 1) d he rfl in_X4 (by decide) (by rw [hM]; exact fl_X4_15) rfl kk
theorem pf_X4_15 {X : jX} {M : jMt} {rm : Room} {pc : Nat} {lc st : List Value} {k n : Nat} {σ : jS} {Q : jOut → jS → Prop} {i : Nat} {a0 a1 : Value} {x : Int32} (hM : M.1.cls = RX4) (d : decode M.2.1 pc = .ok (.putfield 15, 3)) (he : σ.2 i = jO 3 [a0, a1]) (kk : J X M rm (pc + 3) lc st k n (jset σ i (jO 3 [a0, .int x])) Q) : J X M rm pc lc ((.int x) :: .ref i :: st) k n σ Q := J.putf (T := TX4) (kf := 1) tyX4 tyX4_ok nmX4 d he rfl in_X4 (by decide) (by rw [hM]; exact fl_X4_15) rfl rfl (Or.inl ⟨x, rfl, rfl⟩) (by simp) kk
theorem fl_X6_59 : Cond.fieldLinkNest RX6 59 (TX4 1).1 (TX4 1).2.1 (TX4 1).2.2.1 "WireBook" ∈ lw_tbl := List.mem_of_getElem? (i := 89) (by decide +kernel)
theorem gf_X6_59 {X : jX} {M : jMt} {rm : Room} {pc : Nat} {lc st : List Value} {k n : Nat} {σ : jS} {Q : jOut → jS → Prop} {i : Nat} {a0 a1 : Value} (hM : M.1.cls = RX6) (d : decode M.2.1 pc = .ok (.getfield 59, 3)) (he : σ.2 i = jO 3 [a0, a1]) (kk : J X M rm (pc + 3) lc (a1 :: st) k n σ Q) : J X M rm pc lc (.ref i :: st) k n σ Q := J.getfN (T := TX4) (kf := 1) d he rfl in_X4 (by decide) (by rw [hM]; exact fl_X6_59) rfl kk
theorem fl_X0_25 : Cond.fieldLinkNest RX0 25 (TX4 1).1 (TX4 1).2.1 (TX4 1).2.2.1 "WireBook" ∈ lw_tbl := List.mem_of_getElem? (i := 90) (by decide +kernel)
theorem gf_X0_25 {X : jX} {M : jMt} {rm : Room} {pc : Nat} {lc st : List Value} {k n : Nat} {σ : jS} {Q : jOut → jS → Prop} {i : Nat} {a0 a1 : Value} (hM : M.1.cls = RX0) (d : decode M.2.1 pc = .ok (.getfield 25, 3)) (he : σ.2 i = jO 3 [a0, a1]) (kk : J X M rm (pc + 3) lc (a1 :: st) k n σ Q) : J X M rm pc lc (.ref i :: st) k n σ Q := J.getfN (T := TX4) (kf := 1) d he rfl in_X4 (by decide) (by rw [hM]; exact fl_X0_25) rfl kk
theorem fl_X3_43 : Cond.fieldLinkNest RX3 43 (TX4 1).1 (TX4 1).2.1 (TX4 1).2.2.1 "WireBook" ∈ lw_tbl := List.mem_of_getElem? (i := 91) (by decide +kernel)
theorem gf_X3_43 {X : jX} {M : jMt} {rm : Room} {pc : Nat} {lc st : List Value} {k n : Nat} {σ : jS} {Q : jOut → jS → Prop} {i : Nat} {a0 a1 : Value} (hM : M.1.cls = RX3) (d : decode M.2.1 pc = .ok (.getfield 43, 3)) (he : σ.2 i = jO 3 [a0, a1]) (kk : J X M rm (pc + 3) lc (a1 :: st) k n σ Q) : J X M rm pc lc (.ref i :: st) k n σ Q := J.getfN (T := TX4) (kf := 1) d he rfl in_X4 (by decide) (by rw [hM]; exact fl_X3_43) rfl kk
theorem fl_X3_11 : Cond.fieldLink RX3 11 (TX3 0).1 (TX3 0).2.1 (TX3 0).2.2.1 ∈ lw_tbl := List.mem_of_getElem? (i := 108) (by decide +kernel)
theorem gf_X3_11 {X : jX} {M : jMt} {rm : Room} {pc : Nat} {lc st : List Value} {k n : Nat} {σ : jS} {Q : jOut → jS → Prop} {i : Nat} {a0 a1 a2 a3 a4 : Value} (hM : M.1.cls = RX3) (d : decode M.2.1 pc = .ok (.getfield 11, 3)) (he : σ.2 i = jO 2 [a0, a1, a2, a3, a4]) (kk : J X M rm (pc + 3) lc (a0 :: st) k n σ Q) : J X M rm pc lc (.ref i :: st) k n σ Q := J.getf (T := TX3) (kf := 0) d he rfl in_X3 (by decide) (by rw [hM]; exact fl_X3_11) rfl kk
theorem pf_X3_11 {X : jX} {M : jMt} {rm : Room} {pc : Nat} {lc st : List Value} {k n : Nat} {σ : jS} {Q : jOut → jS → Prop} {i : Nat} {a0 a1 a2 a3 a4 : Value} {x : Nat} (hM : M.1.cls = RX3) (hM2 : M.1.name = "<init>") (d : decode M.2.1 pc = .ok (.putfield 11, 3)) (he : σ.2 i = jO 2 [a0, a1, a2, a3, a4]) (kk : J X M rm (pc + 3) lc st k n (jset σ i (jO 2 [.ref x, a1, a2, a3, a4])) Q) : J X M rm pc lc ((.ref x) :: .ref i :: st) k n σ Q := J.putfF (T := TX3) (kf := 0) tyX3 tyX3_ok nmX3 d he rfl in_X3 (by decide) (by rw [hM]; exact fl_X3_11) rfl hM2 (by rw [hM]; rfl) rfl (Or.inr ⟨x, rfl, rfl⟩) (by simp) kk
theorem fl_X6_93 : Cond.fieldLinkNest RX6 93 (TX3 0).1 (TX3 0).2.1 (TX3 0).2.2.1 "WireBook" ∈ lw_tbl := List.mem_of_getElem? (i := 109) (by decide +kernel)
theorem gf_X6_93 {X : jX} {M : jMt} {rm : Room} {pc : Nat} {lc st : List Value} {k n : Nat} {σ : jS} {Q : jOut → jS → Prop} {i : Nat} {a0 a1 a2 a3 a4 : Value} (hM : M.1.cls = RX6) (d : decode M.2.1 pc = .ok (.getfield 93, 3)) (he : σ.2 i = jO 2 [a0, a1, a2, a3, a4]) (kk : J X M rm (pc + 3) lc (a0 :: st) k n σ Q) : J X M rm pc lc (.ref i :: st) k n σ Q := J.getfN (T := TX3) (kf := 0) d he rfl in_X3 (by decide) (by rw [hM]; exact fl_X6_93) rfl kk
theorem fl_X3_15 : Cond.fieldLink RX3 15 (TX3 1).1 (TX3 1).2.1 (TX3 1).2.2.1 ∈ lw_tbl := List.mem_of_getElem? (i := 110) (by decide +kernel)
theorem gf_X3_15 {X : jX} {M : jMt} {rm : Room} {pc : Nat} {lc st : List Value} {k n : Nat} {σ : jS} {Q : jOut → jS → Prop} {i : Nat} {a0 a1 a2 a3 a4 : Value} (hM : M.1.cls = RX3) (d : decode M.2.1 pc = .ok (.getfield 15, 3)) (he : σ.2 i = jO 2 [a0, a1, a2, a3, a4]) (kk : J X M rm (pc + 3) lc (a1 :: st) k n σ Q) : J X M rm pc lc (.ref i :: st) k n σ Q := J.getf (T := TX3) (kf := 1) d he rfl in_X3 (by decide) (by rw [hM]; exact fl_X3_15) rfl kk
theorem pf_X3_15 {X : jX} {M : jMt} {rm : Room} {pc : Nat} {lc st : List Value} {k n : Nat} {σ : jS} {Q : jOut → jS → Prop} {i : Nat} {a0 a1 a2 a3 a4 : Value} {x : Nat} (hM : M.1.cls = RX3) (hM2 : M.1.name = "<init>") (d : decode M.2.1 pc = .ok (.putfield 15, 3)) (he : σ.2 i = jO 2 [a0, a1, a2, a3, a4]) (kk : J X M rm (pc + 3) lc st k n (jset σ i (jO 2 [a0, .ref x, a2, a3, a4])) Q) : J X M rm pc lc ((.ref x) :: .ref i :: st) k n σ Q := J.putfF (T := TX3) (kf := 1) tyX3 tyX3_ok nmX3 d he rfl in_X3 (by decide) (by rw [hM]; exact fl_X3_15) rfl hM2 (by rw [hM]; rfl) rfl (Or.inr ⟨x, rfl, rfl⟩) (by simp) kk
theorem fl_X6_98 : Cond.fieldLinkNest RX6 98 (TX3 1).1 (TX3 1).2.1 (TX3 1).2.2.1 "WireBook" ∈ lw_tbl := List.mem_of_getElem? (i := 111) (by decide +kernel)
theorem gf_X6_98 {X : jX} {M : jMt} {rm : Room} {pc : Nat} {lc st : List Value} {k n : Nat} {σ : jS} {Q : jOut → jS → Prop} {i : Nat} {a0 a1 a2 a3 a4 : Value} (hM : M.1.cls = RX6) (d : decode M.2.1 pc = .ok (.getfield 98, 3)) (he : σ.2 i = jO 2 [a0, a1, a2, a3, a4]) (kk : J X M rm (pc + 3) lc (a1 :: st) k n σ Q) : J X M rm pc lc (.ref i :: st) k n σ Q := J.getfN (T := TX3) (kf := 1) d he rfl in_X3 (by decide) (by rw [hM]; exact fl_X6_98) rfl kk
theorem fl_X3_20 : Cond.fieldLink RX3 20 (TX3 2).1 (TX3 2).2.1 (TX3 2).2.2.1 ∈ lw_tbl := List.mem_of_getElem? (i := 112) (by decide +kernel)
theorem gf_X3_20 {X : jX} {M : jMt} {rm : Room} {pc : Nat} {lc st : List Value} {k n : Nat} {σ : jS} {Q : jOut → jS → Prop} {i : Nat} {a0 a1 a2 a3 a4 : Value} (hM : M.1.cls = RX3) (d : decode M.2.1 pc = .ok (.getfield 20, 3)) (he : σ.2 i = jO 2 [a0, a1, a2, a3, a4]) (kk : J X M rm (pc + 3) lc (a2 :: st) k n σ Q) : J X M rm pc lc (.ref i :: st) k n σ Q := J.getf (T := TX3) (kf := 2) d he rfl in_X3 (by decide) (by rw [hM]; exact fl_X3_20) rfl kk
theorem pf_X3_20 {X : jX} {M : jMt} {rm : Room} {pc : Nat} {lc st : List Value} {k n : Nat} {σ : jS} {Q : jOut → jS → Prop} {i : Nat} {a0 a1 a2 a3 a4 : Value} {x : Nat} (hM : M.1.cls = RX3) (hM2 : M.1.name = "<init>") (d : decode M.2.1 pc = .ok (.putfield 20, 3)) (he : σ.2 i = jO 2 [a0, a1, a2, a3, a4]) (kk : J X M rm (pc + 3) lc st k n (jset σ i (jO 2 [a0, a1, .ref x, a3, a4])) Q) : J X M rm pc lc ((.ref x) :: .ref i :: st) k n σ Q := J.putfF (T := TX3) (kf := 2) tyX3 tyX3_ok nmX3 d he rfl in_X3 (by decide) (by rw [hM]; exact fl_X3_20) rfl hM2 (by rw [hM]; rfl) rfl (Or.inr ⟨x, rfl, rfl⟩) (by simp) kk
theorem fl_X3_23 : Cond.fieldLink RX3 23 (TX3 3).1 (TX3 3).2.1 (TX3 3).2.2.1 ∈ lw_tbl := List.mem_of_getElem? (i := 113) (by decide +kernel)
theorem gf_X3_23 {X : jX} {M : jMt} {rm : Room} {pc : Nat} {lc st : List Value} {k n : Nat} {σ : jS} {Q : jOut → jS → Prop} {i : Nat} {a0 a1 a2 a3 a4 : Value} (hM : M.1.cls = RX3) (d : decode M.2.1 pc = .ok (.getfield 23, 3)) (he : σ.2 i = jO 2 [a0, a1, a2, a3, a4]) (kk : J X M rm (pc + 3) lc (a3 :: st) k n σ Q) : J X M rm pc lc (.ref i :: st) k n σ Q := J.getf (T := TX3) (kf := 3) d he rfl in_X3 (by decide) (by rw [hM]; exact fl_X3_23) rfl kk
theorem pf_X3_23 {X : jX} {M : jMt} {rm : Room} {pc : Nat} {lc st : List Value} {k n : Nat} {σ : jS} {Q : jOut → jS → Prop} {i : Nat} {a0 a1 a2 a3 a4 : Value} {x : Nat} (hM : M.1.cls = RX3) (hM2 : M.1.name = "<init>") (d : decode M.2.1 pc = .ok (.putfield 23, 3)) (he : σ.2 i = jO 2 [a0, a1, a2, a3, a4]) (kk : J X M rm (pc + 3) lc st k n (jset σ i (jO 2 [a0, a1, a2, .ref x, a4])) Q) : J X M rm pc lc ((.ref x) :: .ref i :: st) k n σ Q := J.putfF (T := TX3) (kf := 3) tyX3 tyX3_ok nmX3 d he rfl in_X3 (by decide) (by rw [hM]; exact fl_X3_23) rfl hM2 (by rw [hM]; rfl) rfl (Or.inr ⟨x, rfl, rfl⟩) (by simp) kk
theorem fl_X3_32 : Cond.fieldLink RX3 32 (TX3 4).1 (TX3 4).2.1 (TX3 4).2.2.1 ∈ lw_tbl := List.mem_of_getElem? (i := 114) (by decide +kernel)
theorem gf_X3_32 {X : jX} {M : jMt} {rm : Room} {pc : Nat} {lc st : List Value} {k n : Nat} {σ : jS} {Q : jOut → jS → Prop} {i : Nat} {a0 a1 a2 a3 a4 : Value} (hM : M.1.cls = RX3) (d : decode M.2.1 pc = .ok (.getfield 32, 3)) (he : σ.2 i = jO 2 [a0, a1, a2, a3, a4]) (kk : J X M rm (pc + 3) lc (a4 :: st) k n σ Q) : J X M rm pc lc (.ref i :: st) k n σ Q := J.getf (T := TX3) (kf := 4) d he rfl in_X3 (by decide) (by rw [hM]; exact fl_X3_32) rfl kk
theorem pf_X3_32 {X : jX} {M : jMt} {rm : Room} {pc : Nat} {lc st : List Value} {k n : Nat} {σ : jS} {Q : jOut → jS → Prop} {i : Nat} {a0 a1 a2 a3 a4 : Value} {x : Int32} (hM : M.1.cls = RX3) (d : decode M.2.1 pc = .ok (.putfield 32, 3)) (he : σ.2 i = jO 2 [a0, a1, a2, a3, a4]) (kk : J X M rm (pc + 3) lc st k n (jset σ i (jO 2 [a0, a1, a2, a3, .int x])) Q) : J X M rm pc lc ((.int x) :: .ref i :: st) k n σ Q := J.putf (T := TX3) (kf := 4) tyX3 tyX3_ok nmX3 d he rfl in_X3 (by decide) (by rw [hM]; exact fl_X3_32) rfl rfl (Or.inl ⟨x, rfl, rfl⟩) (by simp) kk
theorem fl_X6_84 : Cond.fieldLinkNest RX6 84 (TX3 4).1 (TX3 4).2.1 (TX3 4).2.2.1 "WireBook" ∈ lw_tbl := List.mem_of_getElem? (i := 115) (by decide +kernel)
theorem gf_X6_84 {X : jX} {M : jMt} {rm : Room} {pc : Nat} {lc st : List Value} {k n : Nat} {σ : jS} {Q : jOut → jS → Prop} {i : Nat} {a0 a1 a2 a3 a4 : Value} (hM : M.1.cls = RX6) (d : decode M.2.1 pc = .ok (.getfield 84, 3)) (he : σ.2 i = jO 2 [a0, a1, a2, a3, a4]) (kk : J X M rm (pc + 3) lc (a4 :: st) k n σ Q) : J X M rm pc lc (.ref i :: st) k n σ Q := J.getfN (T := TX3) (kf := 4) d he rfl in_X3 (by decide) (by rw [hM]; exact fl_X6_84) rfl kk
theorem fl_X5_9 : Cond.fieldLink RX5 9 (TX5 0).1 (TX5 0).2.1 (TX5 0).2.2.1 ∈ lw_tbl := List.mem_of_getElem? (i := 133) (by decide +kernel)
theorem gf_X5_9 {X : jX} {M : jMt} {rm : Room} {pc : Nat} {lc st : List Value} {k n : Nat} {σ : jS} {Q : jOut → jS → Prop} {i : Nat} {a0 a1 : Value} (hM : M.1.cls = RX5) (d : decode M.2.1 pc = .ok (.getfield 9, 3)) (he : σ.2 i = jO 4 [a0, a1]) (kk : J X M rm (pc + 3) lc (a0 :: st) k n σ Q) : J X M rm pc lc (.ref i :: st) k n σ Q := J.getf (T := TX5) (kf := 0) d he rfl in_X5 (by decide) (by rw [hM]; exact fl_X5_9) rfl kk
theorem pf_X5_9 {X : jX} {M : jMt} {rm : Room} {pc : Nat} {lc st : List Value} {k n : Nat} {σ : jS} {Q : jOut → jS → Prop} {i : Nat} {a0 a1 : Value} {x : Nat} (hM : M.1.cls = RX5) (hM2 : M.1.name = "<init>") (d : decode M.2.1 pc = .ok (.putfield 9, 3)) (he : σ.2 i = jO 4 [a0, a1]) (kk : J X M rm (pc + 3) lc st k n (jset σ i (jO 4 [.ref x, a1])) Q) : J X M rm pc lc ((.ref x) :: .ref i :: st) k n σ Q := J.putfF (T := TX5) (kf := 0) tyX5 tyX5_ok nmX5 d he rfl in_X5 (by decide) (by rw [hM]; exact fl_X5_9) rfl hM2 (by rw [hM]; rfl) rfl (Or.inr ⟨x, rfl, rfl⟩) (by simp) kk
theorem fl_X6_174 : Cond.fieldLinkNest RX6 174 (TX5 0).1 (TX5 0).2.1 (TX5 0).2.2.1 "WireBook" ∈ lw_tbl := List.mem_of_getElem? (i := 134) (by decide +kernel)
theorem gf_X6_174 {X : jX} {M : jMt} {rm : Room} {pc : Nat} {lc st : List Value} {k n : Nat} {σ : jS} {Q : jOut → jS → Prop} {i : Nat} {a0 a1 : Value} (hM : M.1.cls = RX6) (d : decode M.2.1 pc = .ok (.getfield 174, 3)) (he : σ.2 i = jO 4 [a0, a1]) (kk : J X M rm (pc + 3) lc (a0 :: st) k n σ Q) : J X M rm pc lc (.ref i :: st) k n σ Q := J.getfN (T := TX5) (kf := 0) d he rfl in_X5 (by decide) (by rw [hM]; exact fl_X6_174) rfl kk
theorem fl_X5_15 : Cond.fieldLink RX5 15 (TX5 1).1 (TX5 1).2.1 (TX5 1).2.2.1 ∈ lw_tbl := List.mem_of_getElem? (i := 135) (by decide +kernel)
theorem gf_X5_15 {X : jX} {M : jMt} {rm : Room} {pc : Nat} {lc st : List Value} {k n : Nat} {σ : jS} {Q : jOut → jS → Prop} {i : Nat} {a0 a1 : Value} (hM : M.1.cls = RX5) (d : decode M.2.1 pc = .ok (.getfield 15, 3)) (he : σ.2 i = jO 4 [a0, a1]) (kk : J X M rm (pc + 3) lc (a1 :: st) k n σ Q) : J X M rm pc lc (.ref i :: st) k n σ Q := J.getf (T := TX5) (kf := 1) d he rfl in_X5 (by decide) (by rw [hM]; exact fl_X5_15) rfl kk
theorem pf_X5_15 {X : jX} {M : jMt} {rm : Room} {pc : Nat} {lc st : List Value} {k n : Nat} {σ : jS} {Q : jOut → jS → Prop} {i : Nat} {a0 a1 : Value} {x : Int32} (hM : M.1.cls = RX5) (d : decode M.2.1 pc = .ok (.putfield 15, 3)) (he : σ.2 i = jO 4 [a0, a1]) (kk : J X M rm (pc + 3) lc st k n (jset σ i (jO 4 [a0, .int x])) Q) : J X M rm pc lc ((.int x) :: .ref i :: st) k n σ Q := J.putf (T := TX5) (kf := 1) tyX5 tyX5_ok nmX5 d he rfl in_X5 (by decide) (by rw [hM]; exact fl_X5_15) rfl rfl (Or.inl ⟨x, rfl, rfl⟩) (by simp) kk
theorem fl_X6_170 : Cond.fieldLinkNest RX6 170 (TX5 1).1 (TX5 1).2.1 (TX5 1).2.2.1 "WireBook" ∈ lw_tbl := List.mem_of_getElem? (i := 136) (by decide +kernel)
theorem gf_X6_170 {X : jX} {M : jMt} {rm : Room} {pc : Nat} {lc st : List Value} {k n : Nat} {σ : jS} {Q : jOut → jS → Prop} {i : Nat} {a0 a1 : Value} (hM : M.1.cls = RX6) (d : decode M.2.1 pc = .ok (.getfield 170, 3)) (he : σ.2 i = jO 4 [a0, a1]) (kk : J X M rm (pc + 3) lc (a1 :: st) k n σ Q) : J X M rm pc lc (.ref i :: st) k n σ Q := J.getfN (T := TX5) (kf := 1) d he rfl in_X5 (by decide) (by rw [hM]; exact fl_X6_170) rfl kk
theorem fl_X2_9 : Cond.fieldLink RX2 9 (TX2 0).1 (TX2 0).2.1 (TX2 0).2.2.1 ∈ lw_tbl := List.mem_of_getElem? (i := 148) (by decide +kernel)
theorem gf_X2_9 {X : jX} {M : jMt} {rm : Room} {pc : Nat} {lc st : List Value} {k n : Nat} {σ : jS} {Q : jOut → jS → Prop} {i : Nat} {a0 a1 : Value} (hM : M.1.cls = RX2) (d : decode M.2.1 pc = .ok (.getfield 9, 3)) (he : σ.2 i = jO 1 [a0, a1]) (kk : J X M rm (pc + 3) lc (a0 :: st) k n σ Q) : J X M rm pc lc (.ref i :: st) k n σ Q := J.getf (T := TX2) (kf := 0) d he rfl in_X2 (by decide) (by rw [hM]; exact fl_X2_9) rfl kk
theorem pf_X2_9 {X : jX} {M : jMt} {rm : Room} {pc : Nat} {lc st : List Value} {k n : Nat} {σ : jS} {Q : jOut → jS → Prop} {i : Nat} {a0 a1 : Value} {x : Nat} (hM : M.1.cls = RX2) (hM2 : M.1.name = "<init>") (d : decode M.2.1 pc = .ok (.putfield 9, 3)) (he : σ.2 i = jO 1 [a0, a1]) (kk : J X M rm (pc + 3) lc st k n (jset σ i (jO 1 [.ref x, a1])) Q) : J X M rm pc lc ((.ref x) :: .ref i :: st) k n σ Q := J.putfF (T := TX2) (kf := 0) tyX2 tyX2_ok nmX2 d he rfl in_X2 (by decide) (by rw [hM]; exact fl_X2_9) rfl hM2 (by rw [hM]; rfl) rfl (Or.inr ⟨x, rfl, rfl⟩) (by simp) kk
theorem fl_X2_15 : Cond.fieldLink RX2 15 (TX2 1).1 (TX2 1).2.1 (TX2 1).2.2.1 ∈ lw_tbl := List.mem_of_getElem? (i := 149) (by decide +kernel)
theorem gf_X2_15 {X : jX} {M : jMt} {rm : Room} {pc : Nat} {lc st : List Value} {k n : Nat} {σ : jS} {Q : jOut → jS → Prop} {i : Nat} {a0 a1 : Value} (hM : M.1.cls = RX2) (d : decode M.2.1 pc = .ok (.getfield 15, 3)) (he : σ.2 i = jO 1 [a0, a1]) (kk : J X M rm (pc + 3) lc (a1 :: st) k n σ Q) : J X M rm pc lc (.ref i :: st) k n σ Q := J.getf (T := TX2) (kf := 1) d he rfl in_X2 (by decide) (by rw [hM]; exact fl_X2_15) rfl kk
theorem pf_X2_15 {X : jX} {M : jMt} {rm : Room} {pc : Nat} {lc st : List Value} {k n : Nat} {σ : jS} {Q : jOut → jS → Prop} {i : Nat} {a0 a1 : Value} {x : Nat} (hM : M.1.cls = RX2) (hM2 : M.1.name = "<init>") (d : decode M.2.1 pc = .ok (.putfield 15, 3)) (he : σ.2 i = jO 1 [a0, a1]) (kk : J X M rm (pc + 3) lc st k n (jset σ i (jO 1 [a0, .ref x])) Q) : J X M rm pc lc ((.ref x) :: .ref i :: st) k n σ Q := J.putfF (T := TX2) (kf := 1) tyX2 tyX2_ok nmX2 d he rfl in_X2 (by decide) (by rw [hM]; exact fl_X2_15) rfl hM2 (by rw [hM]; rfl) rfl (Or.inr ⟨x, rfl, rfl⟩) (by simp) kk
theorem fl_X6_163 : Cond.fieldLinkNest RX6 163 (TX2 1).1 (TX2 1).2.1 (TX2 1).2.2.1 "WireBook" ∈ lw_tbl := List.mem_of_getElem? (i := 150) (by decide +kernel)
theorem gf_X6_163 {X : jX} {M : jMt} {rm : Room} {pc : Nat} {lc st : List Value} {k n : Nat} {σ : jS} {Q : jOut → jS → Prop} {i : Nat} {a0 a1 : Value} (hM : M.1.cls = RX6) (d : decode M.2.1 pc = .ok (.getfield 163, 3)) (he : σ.2 i = jO 1 [a0, a1]) (kk : J X M rm (pc + 3) lc (a1 :: st) k n σ Q) : J X M rm pc lc (.ref i :: st) k n σ Q := J.getfN (T := TX2) (kf := 1) d he rfl in_X2 (by decide) (by rw [hM]; exact fl_X6_163) rfl kk
theorem fl_X6_11 : Cond.fieldLink RX6 11 (TX6 0).1 (TX6 0).2.1 (TX6 0).2.2.1 ∈ lw_tbl := List.mem_of_getElem? (i := 156) (by decide +kernel)
theorem gf_X6_11 {X : jX} {M : jMt} {rm : Room} {pc : Nat} {lc st : List Value} {k n : Nat} {σ : jS} {Q : jOut → jS → Prop} {i : Nat} {a0 a1 a2 a3 a4 a5 a6 a7 : Value} (hM : M.1.cls = RX6) (d : decode M.2.1 pc = .ok (.getfield 11, 3)) (he : σ.2 i = jO 5 [a0, a1, a2, a3, a4, a5, a6, a7]) (kk : J X M rm (pc + 3) lc (a0 :: st) k n σ Q) : J X M rm pc lc (.ref i :: st) k n σ Q := J.getf (T := TX6) (kf := 0) d he rfl in_X6 (by decide) (by rw [hM]; exact fl_X6_11) rfl kk
theorem pf_X6_11 {X : jX} {M : jMt} {rm : Room} {pc : Nat} {lc st : List Value} {k n : Nat} {σ : jS} {Q : jOut → jS → Prop} {i : Nat} {a0 a1 a2 a3 a4 a5 a6 a7 : Value} {x : Nat} (hM : M.1.cls = RX6) (hM2 : M.1.name = "<init>") (d : decode M.2.1 pc = .ok (.putfield 11, 3)) (he : σ.2 i = jO 5 [a0, a1, a2, a3, a4, a5, a6, a7]) (kk : J X M rm (pc + 3) lc st k n (jset σ i (jO 5 [.ref x, a1, a2, a3, a4, a5, a6, a7])) Q) : J X M rm pc lc ((.ref x) :: .ref i :: st) k n σ Q := J.putfF (T := TX6) (kf := 0) tyX6 tyX6_ok nmX6 d he rfl in_X6 (by decide) (by rw [hM]; exact fl_X6_11) rfl hM2 (by rw [hM]; rfl) rfl (Or.inr ⟨x, rfl, rfl⟩) (by simp) kk
theorem fl_X6_19 : Cond.fieldLink RX6 19 (TX6 1).1 (TX6 1).2.1 (TX6 1).2.2.1 ∈ lw_tbl := List.mem_of_getElem? (i := 157) (by decide +kernel)
theorem gf_X6_19 {X : jX} {M : jMt} {rm : Room} {pc : Nat} {lc st : List Value} {k n : Nat} {σ : jS} {Q : jOut → jS → Prop} {i : Nat} {a0 a1 a2 a3 a4 a5 a6 a7 : Value} (hM : M.1.cls = RX6) (d : decode M.2.1 pc = .ok (.getfield 19, 3)) (he : σ.2 i = jO 5 [a0, a1, a2, a3, a4, a5, a6, a7]) (kk : J X M rm (pc + 3) lc (a1 :: st) k n σ Q) : J X M rm pc lc (.ref i :: st) k n σ Q := J.getf (T := TX6) (kf := 1) d he rfl in_X6 (by decide) (by rw [hM]; exact fl_X6_19) rfl kk
theorem pf_X6_19 {X : jX} {M : jMt} {rm : Room} {pc : Nat} {lc st : List Value} {k n : Nat} {σ : jS} {Q : jOut → jS → Prop} {i : Nat} {a0 a1 a2 a3 a4 a5 a6 a7 : Value} {x : Nat} (hM : M.1.cls = RX6) (hM2 : M.1.name = "<init>") (d : decode M.2.1 pc = .ok (.putfield 19, 3)) (he : σ.2 i = jO 5 [a0, a1, a2, a3, a4, a5, a6, a7]) (kk : J X M rm (pc + 3) lc st k n (jset σ i (jO 5 [a0, .ref x, a2, a3, a4, a5, a6, a7])) Q) : J X M rm pc lc ((.ref x) :: .ref i :: st) k n σ Q := J.putfF (T := TX6) (kf := 1) tyX6 tyX6_ok nmX6 d he rfl in_X6 (by decide) (by rw [hM]; exact fl_X6_19) rfl hM2 (by rw [hM]; rfl) rfl (Or.inr ⟨x, rfl, rfl⟩) (by simp) kk
theorem fl_X6_26 : Cond.fieldLink RX6 26 (TX6 2).1 (TX6 2).2.1 (TX6 2).2.2.1 ∈ lw_tbl := List.mem_of_getElem? (i := 158) (by decide +kernel)
theorem gf_X6_26 {X : jX} {M : jMt} {rm : Room} {pc : Nat} {lc st : List Value} {k n : Nat} {σ : jS} {Q : jOut → jS → Prop} {i : Nat} {a0 a1 a2 a3 a4 a5 a6 a7 : Value} (hM : M.1.cls = RX6) (d : decode M.2.1 pc = .ok (.getfield 26, 3)) (he : σ.2 i = jO 5 [a0, a1, a2, a3, a4, a5, a6, a7]) (kk : J X M rm (pc + 3) lc (a2 :: st) k n σ Q) : J X M rm pc lc (.ref i :: st) k n σ Q := J.getf (T := TX6) (kf := 2) d he rfl in_X6 (by decide) (by rw [hM]; exact fl_X6_26) rfl kk
theorem pf_X6_26 {X : jX} {M : jMt} {rm : Room} {pc : Nat} {lc st : List Value} {k n : Nat} {σ : jS} {Q : jOut → jS → Prop} {i : Nat} {a0 a1 a2 a3 a4 a5 a6 a7 : Value} {x : Nat} (hM : M.1.cls = RX6) (hM2 : M.1.name = "<init>") (d : decode M.2.1 pc = .ok (.putfield 26, 3)) (he : σ.2 i = jO 5 [a0, a1, a2, a3, a4, a5, a6, a7]) (kk : J X M rm (pc + 3) lc st k n (jset σ i (jO 5 [a0, a1, .ref x, a3, a4, a5, a6, a7])) Q) : J X M rm pc lc ((.ref x) :: .ref i :: st) k n σ Q := J.putfF (T := TX6) (kf := 2) tyX6 tyX6_ok nmX6 d he rfl in_X6 (by decide) (by rw [hM]; exact fl_X6_26) rfl hM2 (by rw [hM]; rfl) rfl (Or.inr ⟨x, rfl, rfl⟩) (by simp) kk
theorem fl_X6_33 : Cond.fieldLink RX6 33 (TX6 3).1 (TX6 3).2.1 (TX6 3).2.2.1 ∈ lw_tbl := List.mem_of_getElem? (i := 159) (by decide +kernel)
theorem gf_X6_33 {X : jX} {M : jMt} {rm : Room} {pc : Nat} {lc st : List Value} {k n : Nat} {σ : jS} {Q : jOut → jS → Prop} {i : Nat} {a0 a1 a2 a3 a4 a5 a6 a7 : Value} (hM : M.1.cls = RX6) (d : decode M.2.1 pc = .ok (.getfield 33, 3)) (he : σ.2 i = jO 5 [a0, a1, a2, a3, a4, a5, a6, a7]) (kk : J X M rm (pc + 3) lc (a3 :: st) k n σ Q) : J X M rm pc lc (.ref i :: st) k n σ Q := J.getf (T := TX6) (kf := 3) d he rfl in_X6 (by decide) (by rw [hM]; exact fl_X6_33) rfl kk
theorem pf_X6_33 {X : jX} {M : jMt} {rm : Room} {pc : Nat} {lc st : List Value} {k n : Nat} {σ : jS} {Q : jOut → jS → Prop} {i : Nat} {a0 a1 a2 a3 a4 a5 a6 a7 : Value} {x : Nat} (hM : M.1.cls = RX6) (hM2 : M.1.name = "<init>") (d : decode M.2.1 pc = .ok (.putfield 33, 3)) (he : σ.2 i = jO 5 [a0, a1, a2, a3, a4, a5, a6, a7]) (kk : J X M rm (pc + 3) lc st k n (jset σ i (jO 5 [a0, a1, a2, .ref x, a4, a5, a6, a7])) Q) : J X M rm pc lc ((.ref x) :: .ref i :: st) k n σ Q := J.putfF (T := TX6) (kf := 3) tyX6 tyX6_ok nmX6 d he rfl in_X6 (by decide) (by rw [hM]; exact fl_X6_33) rfl hM2 (by rw [hM]; rfl) rfl (Or.inr ⟨x, rfl, rfl⟩) (by simp) kk
theorem fl_X6_40 : Cond.fieldLink RX6 40 (TX6 4).1 (TX6 4).2.1 (TX6 4).2.2.1 ∈ lw_tbl := List.mem_of_getElem? (i := 160) (by decide +kernel)
theorem gf_X6_40 {X : jX} {M : jMt} {rm : Room} {pc : Nat} {lc st : List Value} {k n : Nat} {σ : jS} {Q : jOut → jS → Prop} {i : Nat} {a0 a1 a2 a3 a4 a5 a6 a7 : Value} (hM : M.1.cls = RX6) (d : decode M.2.1 pc = .ok (.getfield 40, 3)) (he : σ.2 i = jO 5 [a0, a1, a2, a3, a4, a5, a6, a7]) (kk : J X M rm (pc + 3) lc (a4 :: st) k n σ Q) : J X M rm pc lc (.ref i :: st) k n σ Q := J.getf (T := TX6) (kf := 4) d he rfl in_X6 (by decide) (by rw [hM]; exact fl_X6_40) rfl kk
theorem pf_X6_40 {X : jX} {M : jMt} {rm : Room} {pc : Nat} {lc st : List Value} {k n : Nat} {σ : jS} {Q : jOut → jS → Prop} {i : Nat} {a0 a1 a2 a3 a4 a5 a6 a7 : Value} {x : Nat} (hM : M.1.cls = RX6) (hM2 : M.1.name = "<init>") (d : decode M.2.1 pc = .ok (.putfield 40, 3)) (he : σ.2 i = jO 5 [a0, a1, a2, a3, a4, a5, a6, a7]) (kk : J X M rm (pc + 3) lc st k n (jset σ i (jO 5 [a0, a1, a2, a3, .ref x, a5, a6, a7])) Q) : J X M rm pc lc ((.ref x) :: .ref i :: st) k n σ Q := J.putfF (T := TX6) (kf := 4) tyX6 tyX6_ok nmX6 d he rfl in_X6 (by decide) (by rw [hM]; exact fl_X6_40) rfl hM2 (by rw [hM]; rfl) rfl (Or.inr ⟨x, rfl, rfl⟩) (by simp) kk
theorem fl_X6_44 : Cond.fieldLink RX6 44 (TX6 5).1 (TX6 5).2.1 (TX6 5).2.2.1 ∈ lw_tbl := List.mem_of_getElem? (i := 161) (by decide +kernel)
theorem gf_X6_44 {X : jX} {M : jMt} {rm : Room} {pc : Nat} {lc st : List Value} {k n : Nat} {σ : jS} {Q : jOut → jS → Prop} {i : Nat} {a0 a1 a2 a3 a4 a5 a6 a7 : Value} (hM : M.1.cls = RX6) (d : decode M.2.1 pc = .ok (.getfield 44, 3)) (he : σ.2 i = jO 5 [a0, a1, a2, a3, a4, a5, a6, a7]) (kk : J X M rm (pc + 3) lc (a5 :: st) k n σ Q) : J X M rm pc lc (.ref i :: st) k n σ Q := J.getf (T := TX6) (kf := 5) d he rfl in_X6 (by decide) (by rw [hM]; exact fl_X6_44) rfl kk
theorem pf_X6_44 {X : jX} {M : jMt} {rm : Room} {pc : Nat} {lc st : List Value} {k n : Nat} {σ : jS} {Q : jOut → jS → Prop} {i : Nat} {a0 a1 a2 a3 a4 a5 a6 a7 : Value} {x : Nat} (hM : M.1.cls = RX6) (hM2 : M.1.name = "<init>") (d : decode M.2.1 pc = .ok (.putfield 44, 3)) (he : σ.2 i = jO 5 [a0, a1, a2, a3, a4, a5, a6, a7]) (kk : J X M rm (pc + 3) lc st k n (jset σ i (jO 5 [a0, a1, a2, a3, a4, .ref x, a6, a7])) Q) : J X M rm pc lc ((.ref x) :: .ref i :: st) k n σ Q := J.putfF (T := TX6) (kf := 5) tyX6 tyX6_ok nmX6 d he rfl in_X6 (by decide) (by rw [hM]; exact fl_X6_44) rfl hM2 (by rw [hM]; rfl) rfl (Or.inr ⟨x, rfl, rfl⟩) (by simp) kk
theorem fl_X6_187 : Cond.fieldLink RX6 187 (TX6 6).1 (TX6 6).2.1 (TX6 6).2.2.1 ∈ lw_tbl := List.mem_of_getElem? (i := 162) (by decide +kernel)
theorem gf_X6_187 {X : jX} {M : jMt} {rm : Room} {pc : Nat} {lc st : List Value} {k n : Nat} {σ : jS} {Q : jOut → jS → Prop} {i : Nat} {a0 a1 a2 a3 a4 a5 a6 a7 : Value} (hM : M.1.cls = RX6) (d : decode M.2.1 pc = .ok (.getfield 187, 3)) (he : σ.2 i = jO 5 [a0, a1, a2, a3, a4, a5, a6, a7]) (kk : J X M rm (pc + 3) lc (a6 :: st) k n σ Q) : J X M rm pc lc (.ref i :: st) k n σ Q := J.getf (T := TX6) (kf := 6) d he rfl in_X6 (by decide) (by rw [hM]; exact fl_X6_187) rfl kk
theorem pf_X6_187 {X : jX} {M : jMt} {rm : Room} {pc : Nat} {lc st : List Value} {k n : Nat} {σ : jS} {Q : jOut → jS → Prop} {i : Nat} {a0 a1 a2 a3 a4 a5 a6 a7 : Value} {x : Int32} (hM : M.1.cls = RX6) (d : decode M.2.1 pc = .ok (.putfield 187, 3)) (he : σ.2 i = jO 5 [a0, a1, a2, a3, a4, a5, a6, a7]) (kk : J X M rm (pc + 3) lc st k n (jset σ i (jO 5 [a0, a1, a2, a3, a4, a5, .int x, a7])) Q) : J X M rm pc lc ((.int x) :: .ref i :: st) k n σ Q := J.putf (T := TX6) (kf := 6) tyX6 tyX6_ok nmX6 d he rfl in_X6 (by decide) (by rw [hM]; exact fl_X6_187) rfl rfl (Or.inl ⟨x, rfl, rfl⟩) (by simp) kk
theorem fl_X6_48 : Cond.fieldLink RX6 48 (TX6 7).1 (TX6 7).2.1 (TX6 7).2.2.1 ∈ lw_tbl := List.mem_of_getElem? (i := 163) (by decide +kernel)
theorem gf_X6_48 {X : jX} {M : jMt} {rm : Room} {pc : Nat} {lc st : List Value} {k n : Nat} {σ : jS} {Q : jOut → jS → Prop} {i : Nat} {a0 a1 a2 a3 a4 a5 a6 a7 : Value} (hM : M.1.cls = RX6) (d : decode M.2.1 pc = .ok (.getfield 48, 3)) (he : σ.2 i = jO 5 [a0, a1, a2, a3, a4, a5, a6, a7]) (kk : J X M rm (pc + 3) lc (a7 :: st) k n σ Q) : J X M rm pc lc (.ref i :: st) k n σ Q := J.getf (T := TX6) (kf := 7) d he rfl in_X6 (by decide) (by rw [hM]; exact fl_X6_48) rfl kk
theorem pf_X6_48 {X : jX} {M : jMt} {rm : Room} {pc : Nat} {lc st : List Value} {k n : Nat} {σ : jS} {Q : jOut → jS → Prop} {i : Nat} {a0 a1 a2 a3 a4 a5 a6 a7 : Value} {x : Int32} (hM : M.1.cls = RX6) (d : decode M.2.1 pc = .ok (.putfield 48, 3)) (he : σ.2 i = jO 5 [a0, a1, a2, a3, a4, a5, a6, a7]) (kk : J X M rm (pc + 3) lc st k n (jset σ i (jO 5 [a0, a1, a2, a3, a4, a5, a6, .int x])) Q) : J X M rm pc lc ((.int x) :: .ref i :: st) k n σ Q := J.putf (T := TX6) (kf := 7) tyX6 tyX6_ok nmX6 d he rfl in_X6 (by decide) (by rw [hM]; exact fl_X6_48) rfl rfl (Or.inl ⟨x, rfl, rfl⟩) (by simp) kk
theorem fl_X7_47 : Cond.fieldLink RX7 47 (TX7 0).1 (TX7 0).2.1 (TX7 0).2.2.1 ∈ lw_tbl := List.mem_of_getElem? (i := 685) (by decide +kernel)
theorem gf_X7_47 {X : jX} {M : jMt} {rm : Room} {pc : Nat} {lc st : List Value} {k n : Nat} {σ : jS} {Q : jOut → jS → Prop} {i : Nat} {a0 a1 a2 a3 a4 a5 a6 a7 a8 a9 a10 a11 a12 a13 a14 a15 a16 a17 a18 : Value} (hM : M.1.cls = RX7) (d : decode M.2.1 pc = .ok (.getfield 47, 3)) (he : σ.2 i = jO 6 [a0, a1, a2, a3, a4, a5, a6, a7, a8, a9, a10, a11, a12, a13, a14, a15, a16, a17, a18]) (kk : J X M rm (pc + 3) lc (a0 :: st) k n σ Q) : J X M rm pc lc (.ref i :: st) k n σ Q := J.getf (T := TX7) (kf := 0) d he rfl in_X7 (by decide) (by rw [hM]; exact fl_X7_47) rfl kk
theorem pf_X7_47 {X : jX} {M : jMt} {rm : Room} {pc : Nat} {lc st : List Value} {k n : Nat} {σ : jS} {Q : jOut → jS → Prop} {i : Nat} {a0 a1 a2 a3 a4 a5 a6 a7 a8 a9 a10 a11 a12 a13 a14 a15 a16 a17 a18 : Value} {x : Int32} (hM : M.1.cls = RX7) (d : decode M.2.1 pc = .ok (.putfield 47, 3)) (he : σ.2 i = jO 6 [a0, a1, a2, a3, a4, a5, a6, a7, a8, a9, a10, a11, a12, a13, a14, a15, a16, a17, a18]) (kk : J X M rm (pc + 3) lc st k n (jset σ i (jO 6 [.int x, a1, a2, a3, a4, a5, a6, a7, a8, a9, a10, a11, a12, a13, a14, a15, a16, a17, a18])) Q) : J X M rm pc lc ((.int x) :: .ref i :: st) k n σ Q := J.putf (T := TX7) (kf := 0) tyX7 tyX7_ok nmX7 d he rfl in_X7 (by decide) (by rw [hM]; exact fl_X7_47) rfl rfl (Or.inl ⟨x, rfl, rfl⟩) (by simp) kk
theorem fl_X7_7 : Cond.fieldLink RX7 7 (TX7 1).1 (TX7 1).2.1 (TX7 1).2.2.1 ∈ lw_tbl := List.mem_of_getElem? (i := 686) (by decide +kernel)
theorem gf_X7_7 {X : jX} {M : jMt} {rm : Room} {pc : Nat} {lc st : List Value} {k n : Nat} {σ : jS} {Q : jOut → jS → Prop} {i : Nat} {a0 a1 a2 a3 a4 a5 a6 a7 a8 a9 a10 a11 a12 a13 a14 a15 a16 a17 a18 : Value} (hM : M.1.cls = RX7) (d : decode M.2.1 pc = .ok (.getfield 7, 3)) (he : σ.2 i = jO 6 [a0, a1, a2, a3, a4, a5, a6, a7, a8, a9, a10, a11, a12, a13, a14, a15, a16, a17, a18]) (kk : J X M rm (pc + 3) lc (a1 :: st) k n σ Q) : J X M rm pc lc (.ref i :: st) k n σ Q := J.getf (T := TX7) (kf := 1) d he rfl in_X7 (by decide) (by rw [hM]; exact fl_X7_7) rfl kk
theorem pf_X7_7 {X : jX} {M : jMt} {rm : Room} {pc : Nat} {lc st : List Value} {k n : Nat} {σ : jS} {Q : jOut → jS → Prop} {i : Nat} {a0 a1 a2 a3 a4 a5 a6 a7 a8 a9 a10 a11 a12 a13 a14 a15 a16 a17 a18 : Value} {x : Int32} (hM : M.1.cls = RX7) (d : decode M.2.1 pc = .ok (.putfield 7, 3)) (he : σ.2 i = jO 6 [a0, a1, a2, a3, a4, a5, a6, a7, a8, a9, a10, a11, a12, a13, a14, a15, a16, a17, a18]) (kk : J X M rm (pc + 3) lc st k n (jset σ i (jO 6 [a0, .int x, a2, a3, a4, a5, a6, a7, a8, a9, a10, a11, a12, a13, a14, a15, a16, a17, a18])) Q) : J X M rm pc lc ((.int x) :: .ref i :: st) k n σ Q := J.putf (T := TX7) (kf := 1) tyX7 tyX7_ok nmX7 d he rfl in_X7 (by decide) (by rw [hM]; exact fl_X7_7) rfl rfl (Or.inl ⟨x, rfl, rfl⟩) (by simp) kk
theorem fl_X7_13 : Cond.fieldLink RX7 13 (TX7 2).1 (TX7 2).2.1 (TX7 2).2.2.1 ∈ lw_tbl := List.mem_of_getElem? (i := 687) (by decide +kernel)
theorem gf_X7_13 {X : jX} {M : jMt} {rm : Room} {pc : Nat} {lc st : List Value} {k n : Nat} {σ : jS} {Q : jOut → jS → Prop} {i : Nat} {a0 a1 a2 a3 a4 a5 a6 a7 a8 a9 a10 a11 a12 a13 a14 a15 a16 a17 a18 : Value} (hM : M.1.cls = RX7) (d : decode M.2.1 pc = .ok (.getfield 13, 3)) (he : σ.2 i = jO 6 [a0, a1, a2, a3, a4, a5, a6, a7, a8, a9, a10, a11, a12, a13, a14, a15, a16, a17, a18]) (kk : J X M rm (pc + 3) lc (a2 :: st) k n σ Q) : J X M rm pc lc (.ref i :: st) k n σ Q := J.getf (T := TX7) (kf := 2) d he rfl in_X7 (by decide) (by rw [hM]; exact fl_X7_13) rfl kk
theorem pf_X7_13 {X : jX} {M : jMt} {rm : Room} {pc : Nat} {lc st : List Value} {k n : Nat} {σ : jS} {Q : jOut → jS → Prop} {i : Nat} {a0 a1 a2 a3 a4 a5 a6 a7 a8 a9 a10 a11 a12 a13 a14 a15 a16 a17 a18 : Value} {x : Nat} (hM : M.1.cls = RX7) (hM2 : M.1.name = "<init>") (d : decode M.2.1 pc = .ok (.putfield 13, 3)) (he : σ.2 i = jO 6 [a0, a1, a2, a3, a4, a5, a6, a7, a8, a9, a10, a11, a12, a13, a14, a15, a16, a17, a18]) (kk : J X M rm (pc + 3) lc st k n (jset σ i (jO 6 [a0, a1, .ref x, a3, a4, a5, a6, a7, a8, a9, a10, a11, a12, a13, a14, a15, a16, a17, a18])) Q) : J X M rm pc lc ((.ref x) :: .ref i :: st) k n σ Q := J.putfF (T := TX7) (kf := 2) tyX7 tyX7_ok nmX7 d he rfl in_X7 (by decide) (by rw [hM]; exact fl_X7_13) rfl hM2 (by rw [hM]; rfl) rfl (Or.inr ⟨x, rfl, rfl⟩) (by simp) kk
theorem fl_X7_63 : Cond.fieldLink RX7 63 (TX7 3).1 (TX7 3).2.1 (TX7 3).2.2.1 ∈ lw_tbl := List.mem_of_getElem? (i := 688) (by decide +kernel)
theorem gf_X7_63 {X : jX} {M : jMt} {rm : Room} {pc : Nat} {lc st : List Value} {k n : Nat} {σ : jS} {Q : jOut → jS → Prop} {i : Nat} {a0 a1 a2 a3 a4 a5 a6 a7 a8 a9 a10 a11 a12 a13 a14 a15 a16 a17 a18 : Value} (hM : M.1.cls = RX7) (d : decode M.2.1 pc = .ok (.getfield 63, 3)) (he : σ.2 i = jO 6 [a0, a1, a2, a3, a4, a5, a6, a7, a8, a9, a10, a11, a12, a13, a14, a15, a16, a17, a18]) (kk : J X M rm (pc + 3) lc (a3 :: st) k n σ Q) : J X M rm pc lc (.ref i :: st) k n σ Q := J.getf (T := TX7) (kf := 3) d he rfl in_X7 (by decide) (by rw [hM]; exact fl_X7_63) rfl kk
theorem pf_X7_63 {X : jX} {M : jMt} {rm : Room} {pc : Nat} {lc st : List Value} {k n : Nat} {σ : jS} {Q : jOut → jS → Prop} {i : Nat} {a0 a1 a2 a3 a4 a5 a6 a7 a8 a9 a10 a11 a12 a13 a14 a15 a16 a17 a18 : Value} {x : Int32} (hM : M.1.cls = RX7) (d : decode M.2.1 pc = .ok (.putfield 63, 3)) (he : σ.2 i = jO 6 [a0, a1, a2, a3, a4, a5, a6, a7, a8, a9, a10, a11, a12, a13, a14, a15, a16, a17, a18]) (kk : J X M rm (pc + 3) lc st k n (jset σ i (jO 6 [a0, a1, a2, .int x, a4, a5, a6, a7, a8, a9, a10, a11, a12, a13, a14, a15, a16, a17, a18])) Q) : J X M rm pc lc ((.int x) :: .ref i :: st) k n σ Q := J.putf (T := TX7) (kf := 3) tyX7 tyX7_ok nmX7 d he rfl in_X7 (by decide) (by rw [hM]; exact fl_X7_63) rfl rfl (Or.inl ⟨x, rfl, rfl⟩) (by simp) kk
theorem fl_X7_66 : Cond.fieldLink RX7 66 (TX7 4).1 (TX7 4).2.1 (TX7 4).2.2.1 ∈ lw_tbl := List.mem_of_getElem? (i := 689) (by decide +kernel)
theorem gf_X7_66 {X : jX} {M : jMt} {rm : Room} {pc : Nat} {lc st : List Value} {k n : Nat} {σ : jS} {Q : jOut → jS → Prop} {i : Nat} {a0 a1 a2 a3 a4 a5 a6 a7 a8 a9 a10 a11 a12 a13 a14 a15 a16 a17 a18 : Value} (hM : M.1.cls = RX7) (d : decode M.2.1 pc = .ok (.getfield 66, 3)) (he : σ.2 i = jO 6 [a0, a1, a2, a3, a4, a5, a6, a7, a8, a9, a10, a11, a12, a13, a14, a15, a16, a17, a18]) (kk : J X M rm (pc + 3) lc (a4 :: st) k n σ Q) : J X M rm pc lc (.ref i :: st) k n σ Q := J.getf (T := TX7) (kf := 4) d he rfl in_X7 (by decide) (by rw [hM]; exact fl_X7_66) rfl kk
theorem pf_X7_66 {X : jX} {M : jMt} {rm : Room} {pc : Nat} {lc st : List Value} {k n : Nat} {σ : jS} {Q : jOut → jS → Prop} {i : Nat} {a0 a1 a2 a3 a4 a5 a6 a7 a8 a9 a10 a11 a12 a13 a14 a15 a16 a17 a18 : Value} {x : Int32} (hM : M.1.cls = RX7) (d : decode M.2.1 pc = .ok (.putfield 66, 3)) (he : σ.2 i = jO 6 [a0, a1, a2, a3, a4, a5, a6, a7, a8, a9, a10, a11, a12, a13, a14, a15, a16, a17, a18]) (kk : J X M rm (pc + 3) lc st k n (jset σ i (jO 6 [a0, a1, a2, a3, .int x, a5, a6, a7, a8, a9, a10, a11, a12, a13, a14, a15, a16, a17, a18])) Q) : J X M rm pc lc ((.int x) :: .ref i :: st) k n σ Q := J.putf (T := TX7) (kf := 4) tyX7 tyX7_ok nmX7 d he rfl in_X7 (by decide) (by rw [hM]; exact fl_X7_66) rfl rfl (Or.inl ⟨x, rfl, rfl⟩) (by simp) kk
theorem fl_X7_17 : Cond.fieldLink RX7 17 (TX7 5).1 (TX7 5).2.1 (TX7 5).2.2.1 ∈ lw_tbl := List.mem_of_getElem? (i := 690) (by decide +kernel)
theorem gf_X7_17 {X : jX} {M : jMt} {rm : Room} {pc : Nat} {lc st : List Value} {k n : Nat} {σ : jS} {Q : jOut → jS → Prop} {i : Nat} {a0 a1 a2 a3 a4 a5 a6 a7 a8 a9 a10 a11 a12 a13 a14 a15 a16 a17 a18 : Value} (hM : M.1.cls = RX7) (d : decode M.2.1 pc = .ok (.getfield 17, 3)) (he : σ.2 i = jO 6 [a0, a1, a2, a3, a4, a5, a6, a7, a8, a9, a10, a11, a12, a13, a14, a15, a16, a17, a18]) (kk : J X M rm (pc + 3) lc (a5 :: st) k n σ Q) : J X M rm pc lc (.ref i :: st) k n σ Q := J.getf (T := TX7) (kf := 5) d he rfl in_X7 (by decide) (by rw [hM]; exact fl_X7_17) rfl kk
theorem pf_X7_17 {X : jX} {M : jMt} {rm : Room} {pc : Nat} {lc st : List Value} {k n : Nat} {σ : jS} {Q : jOut → jS → Prop} {i : Nat} {a0 a1 a2 a3 a4 a5 a6 a7 a8 a9 a10 a11 a12 a13 a14 a15 a16 a17 a18 : Value} {x : Nat} (hM : M.1.cls = RX7) (hM2 : M.1.name = "<init>") (d : decode M.2.1 pc = .ok (.putfield 17, 3)) (he : σ.2 i = jO 6 [a0, a1, a2, a3, a4, a5, a6, a7, a8, a9, a10, a11, a12, a13, a14, a15, a16, a17, a18]) (kk : J X M rm (pc + 3) lc st k n (jset σ i (jO 6 [a0, a1, a2, a3, a4, .ref x, a6, a7, a8, a9, a10, a11, a12, a13, a14, a15, a16, a17, a18])) Q) : J X M rm pc lc ((.ref x) :: .ref i :: st) k n σ Q := J.putfF (T := TX7) (kf := 5) tyX7 tyX7_ok nmX7 d he rfl in_X7 (by decide) (by rw [hM]; exact fl_X7_17) rfl hM2 (by rw [hM]; rfl) rfl (Or.inr ⟨x, rfl, rfl⟩) (by simp) kk
theorem fl_X7_20 : Cond.fieldLink RX7 20 (TX7 6).1 (TX7 6).2.1 (TX7 6).2.2.1 ∈ lw_tbl := List.mem_of_getElem? (i := 691) (by decide +kernel)
theorem gf_X7_20 {X : jX} {M : jMt} {rm : Room} {pc : Nat} {lc st : List Value} {k n : Nat} {σ : jS} {Q : jOut → jS → Prop} {i : Nat} {a0 a1 a2 a3 a4 a5 a6 a7 a8 a9 a10 a11 a12 a13 a14 a15 a16 a17 a18 : Value} (hM : M.1.cls = RX7) (d : decode M.2.1 pc = .ok (.getfield 20, 3)) (he : σ.2 i = jO 6 [a0, a1, a2, a3, a4, a5, a6, a7, a8, a9, a10, a11, a12, a13, a14, a15, a16, a17, a18]) (kk : J X M rm (pc + 3) lc (a6 :: st) k n σ Q) : J X M rm pc lc (.ref i :: st) k n σ Q := J.getf (T := TX7) (kf := 6) d he rfl in_X7 (by decide) (by rw [hM]; exact fl_X7_20) rfl kk
theorem pf_X7_20 {X : jX} {M : jMt} {rm : Room} {pc : Nat} {lc st : List Value} {k n : Nat} {σ : jS} {Q : jOut → jS → Prop} {i : Nat} {a0 a1 a2 a3 a4 a5 a6 a7 a8 a9 a10 a11 a12 a13 a14 a15 a16 a17 a18 : Value} {x : Nat} (hM : M.1.cls = RX7) (hM2 : M.1.name = "<init>") (d : decode M.2.1 pc = .ok (.putfield 20, 3)) (he : σ.2 i = jO 6 [a0, a1, a2, a3, a4, a5, a6, a7, a8, a9, a10, a11, a12, a13, a14, a15, a16, a17, a18]) (kk : J X M rm (pc + 3) lc st k n (jset σ i (jO 6 [a0, a1, a2, a3, a4, a5, .ref x, a7, a8, a9, a10, a11, a12, a13, a14, a15, a16, a17, a18])) Q) : J X M rm pc lc ((.ref x) :: .ref i :: st) k n σ Q := J.putfF (T := TX7) (kf := 6) tyX7 tyX7_ok nmX7 d he rfl in_X7 (by decide) (by rw [hM]; exact fl_X7_20) rfl hM2 (by rw [hM]; rfl) rfl (Or.inr ⟨x, rfl, rfl⟩) (by simp) kk
theorem fl_X7_23 : Cond.fieldLink RX7 23 (TX7 7).1 (TX7 7).2.1 (TX7 7).2.2.1 ∈ lw_tbl := List.mem_of_getElem? (i := 692) (by decide +kernel)
theorem gf_X7_23 {X : jX} {M : jMt} {rm : Room} {pc : Nat} {lc st : List Value} {k n : Nat} {σ : jS} {Q : jOut → jS → Prop} {i : Nat} {a0 a1 a2 a3 a4 a5 a6 a7 a8 a9 a10 a11 a12 a13 a14 a15 a16 a17 a18 : Value} (hM : M.1.cls = RX7) (d : decode M.2.1 pc = .ok (.getfield 23, 3)) (he : σ.2 i = jO 6 [a0, a1, a2, a3, a4, a5, a6, a7, a8, a9, a10, a11, a12, a13, a14, a15, a16, a17, a18]) (kk : J X M rm (pc + 3) lc (a7 :: st) k n σ Q) : J X M rm pc lc (.ref i :: st) k n σ Q := J.getf (T := TX7) (kf := 7) d he rfl in_X7 (by decide) (by rw [hM]; exact fl_X7_23) rfl kk
theorem pf_X7_23 {X : jX} {M : jMt} {rm : Room} {pc : Nat} {lc st : List Value} {k n : Nat} {σ : jS} {Q : jOut → jS → Prop} {i : Nat} {a0 a1 a2 a3 a4 a5 a6 a7 a8 a9 a10 a11 a12 a13 a14 a15 a16 a17 a18 : Value} {x : Nat} (hM : M.1.cls = RX7) (hM2 : M.1.name = "<init>") (d : decode M.2.1 pc = .ok (.putfield 23, 3)) (he : σ.2 i = jO 6 [a0, a1, a2, a3, a4, a5, a6, a7, a8, a9, a10, a11, a12, a13, a14, a15, a16, a17, a18]) (kk : J X M rm (pc + 3) lc st k n (jset σ i (jO 6 [a0, a1, a2, a3, a4, a5, a6, .ref x, a8, a9, a10, a11, a12, a13, a14, a15, a16, a17, a18])) Q) : J X M rm pc lc ((.ref x) :: .ref i :: st) k n σ Q := J.putfF (T := TX7) (kf := 7) tyX7 tyX7_ok nmX7 d he rfl in_X7 (by decide) (by rw [hM]; exact fl_X7_23) rfl hM2 (by rw [hM]; rfl) rfl (Or.inr ⟨x, rfl, rfl⟩) (by simp) kk
theorem fl_X7_26 : Cond.fieldLink RX7 26 (TX7 8).1 (TX7 8).2.1 (TX7 8).2.2.1 ∈ lw_tbl := List.mem_of_getElem? (i := 693) (by decide +kernel)
theorem gf_X7_26 {X : jX} {M : jMt} {rm : Room} {pc : Nat} {lc st : List Value} {k n : Nat} {σ : jS} {Q : jOut → jS → Prop} {i : Nat} {a0 a1 a2 a3 a4 a5 a6 a7 a8 a9 a10 a11 a12 a13 a14 a15 a16 a17 a18 : Value} (hM : M.1.cls = RX7) (d : decode M.2.1 pc = .ok (.getfield 26, 3)) (he : σ.2 i = jO 6 [a0, a1, a2, a3, a4, a5, a6, a7, a8, a9, a10, a11, a12, a13, a14, a15, a16, a17, a18]) (kk : J X M rm (pc + 3) lc (a8 :: st) k n σ Q) : J X M rm pc lc (.ref i :: st) k n σ Q := J.getf (T := TX7) (kf := 8) d he rfl in_X7 (by decide) (by rw [hM]; exact fl_X7_26) rfl kk
theorem pf_X7_26 {X : jX} {M : jMt} {rm : Room} {pc : Nat} {lc st : List Value} {k n : Nat} {σ : jS} {Q : jOut → jS → Prop} {i : Nat} {a0 a1 a2 a3 a4 a5 a6 a7 a8 a9 a10 a11 a12 a13 a14 a15 a16 a17 a18 : Value} {x : Nat} (hM : M.1.cls = RX7) (hM2 : M.1.name = "<init>") (d : decode M.2.1 pc = .ok (.putfield 26, 3)) (he : σ.2 i = jO 6 [a0, a1, a2, a3, a4, a5, a6, a7, a8, a9, a10, a11, a12, a13, a14, a15, a16, a17, a18]) (kk : J X M rm (pc + 3) lc st k n (jset σ i (jO 6 [a0, a1, a2, a3, a4, a5, a6, a7, .ref x, a9, a10, a11, a12, a13, a14, a15, a16, a17, a18])) Q) : J X M rm pc lc ((.ref x) :: .ref i :: st) k n σ Q := J.putfF (T := TX7) (kf := 8) tyX7 tyX7_ok nmX7 d he rfl in_X7 (by decide) (by rw [hM]; exact fl_X7_26) rfl hM2 (by rw [hM]; rfl) rfl (Or.inr ⟨x, rfl, rfl⟩) (by simp) kk
theorem fl_X7_29 : Cond.fieldLink RX7 29 (TX7 9).1 (TX7 9).2.1 (TX7 9).2.2.1 ∈ lw_tbl := List.mem_of_getElem? (i := 694) (by decide +kernel)
theorem gf_X7_29 {X : jX} {M : jMt} {rm : Room} {pc : Nat} {lc st : List Value} {k n : Nat} {σ : jS} {Q : jOut → jS → Prop} {i : Nat} {a0 a1 a2 a3 a4 a5 a6 a7 a8 a9 a10 a11 a12 a13 a14 a15 a16 a17 a18 : Value} (hM : M.1.cls = RX7) (d : decode M.2.1 pc = .ok (.getfield 29, 3)) (he : σ.2 i = jO 6 [a0, a1, a2, a3, a4, a5, a6, a7, a8, a9, a10, a11, a12, a13, a14, a15, a16, a17, a18]) (kk : J X M rm (pc + 3) lc (a9 :: st) k n σ Q) : J X M rm pc lc (.ref i :: st) k n σ Q := J.getf (T := TX7) (kf := 9) d he rfl in_X7 (by decide) (by rw [hM]; exact fl_X7_29) rfl kk
theorem pf_X7_29 {X : jX} {M : jMt} {rm : Room} {pc : Nat} {lc st : List Value} {k n : Nat} {σ : jS} {Q : jOut → jS → Prop} {i : Nat} {a0 a1 a2 a3 a4 a5 a6 a7 a8 a9 a10 a11 a12 a13 a14 a15 a16 a17 a18 : Value} {x : Nat} (hM : M.1.cls = RX7) (hM2 : M.1.name = "<init>") (d : decode M.2.1 pc = .ok (.putfield 29, 3)) (he : σ.2 i = jO 6 [a0, a1, a2, a3, a4, a5, a6, a7, a8, a9, a10, a11, a12, a13, a14, a15, a16, a17, a18]) (kk : J X M rm (pc + 3) lc st k n (jset σ i (jO 6 [a0, a1, a2, a3, a4, a5, a6, a7, a8, .ref x, a10, a11, a12, a13, a14, a15, a16, a17, a18])) Q) : J X M rm pc lc ((.ref x) :: .ref i :: st) k n σ Q := J.putfF (T := TX7) (kf := 9) tyX7 tyX7_ok nmX7 d he rfl in_X7 (by decide) (by rw [hM]; exact fl_X7_29) rfl hM2 (by rw [hM]; rfl) rfl (Or.inr ⟨x, rfl, rfl⟩) (by simp) kk
theorem fl_X7_32 : Cond.fieldLink RX7 32 (TX7 10).1 (TX7 10).2.1 (TX7 10).2.2.1 ∈ lw_tbl := List.mem_of_getElem? (i := 695) (by decide +kernel)
theorem gf_X7_32 {X : jX} {M : jMt} {rm : Room} {pc : Nat} {lc st : List Value} {k n : Nat} {σ : jS} {Q : jOut → jS → Prop} {i : Nat} {a0 a1 a2 a3 a4 a5 a6 a7 a8 a9 a10 a11 a12 a13 a14 a15 a16 a17 a18 : Value} (hM : M.1.cls = RX7) (d : decode M.2.1 pc = .ok (.getfield 32, 3)) (he : σ.2 i = jO 6 [a0, a1, a2, a3, a4, a5, a6, a7, a8, a9, a10, a11, a12, a13, a14, a15, a16, a17, a18]) (kk : J X M rm (pc + 3) lc (a10 :: st) k n σ Q) : J X M rm pc lc (.ref i :: st) k n σ Q := J.getf (T := TX7) (kf := 10) d he rfl in_X7 (by decide) (by rw [hM]; exact fl_X7_32) rfl kk
theorem pf_X7_32 {X : jX} {M : jMt} {rm : Room} {pc : Nat} {lc st : List Value} {k n : Nat} {σ : jS} {Q : jOut → jS → Prop} {i : Nat} {a0 a1 a2 a3 a4 a5 a6 a7 a8 a9 a10 a11 a12 a13 a14 a15 a16 a17 a18 : Value} {x : Nat} (hM : M.1.cls = RX7) (hM2 : M.1.name = "<init>") (d : decode M.2.1 pc = .ok (.putfield 32, 3)) (he : σ.2 i = jO 6 [a0, a1, a2, a3, a4, a5, a6, a7, a8, a9, a10, a11, a12, a13, a14, a15, a16, a17, a18]) (kk : J X M rm (pc + 3) lc st k n (jset σ i (jO 6 [a0, a1, a2, a3, a4, a5, a6, a7, a8, a9, .ref x, a11, a12, a13, a14, a15, a16, a17, a18])) Q) : J X M rm pc lc ((.ref x) :: .ref i :: st) k n σ Q := J.putfF (T := TX7) (kf := 10) tyX7 tyX7_ok nmX7 d he rfl in_X7 (by decide) (by rw [hM]; exact fl_X7_32) rfl hM2 (by rw [hM]; rfl) rfl (Or.inr ⟨x, rfl, rfl⟩) (by simp) kk
theorem fl_X7_124 : Cond.fieldLink RX7 124 (TX7 11).1 (TX7 11).2.1 (TX7 11).2.2.1 ∈ lw_tbl := List.mem_of_getElem? (i := 696) (by decide +kernel)
theorem gf_X7_124 {X : jX} {M : jMt} {rm : Room} {pc : Nat} {lc st : List Value} {k n : Nat} {σ : jS} {Q : jOut → jS → Prop} {i : Nat} {a0 a1 a2 a3 a4 a5 a6 a7 a8 a9 a10 a11 a12 a13 a14 a15 a16 a17 a18 : Value} (hM : M.1.cls = RX7) (d : decode M.2.1 pc = .ok (.getfield 124, 3)) (he : σ.2 i = jO 6 [a0, a1, a2, a3, a4, a5, a6, a7, a8, a9, a10, a11, a12, a13, a14, a15, a16, a17, a18]) (kk : J X M rm (pc + 3) lc (a11 :: st) k n σ Q) : J X M rm pc lc (.ref i :: st) k n σ Q := J.getf (T := TX7) (kf := 11) d he rfl in_X7 (by decide) (by rw [hM]; exact fl_X7_124) rfl kk
theorem pf_X7_124 {X : jX} {M : jMt} {rm : Room} {pc : Nat} {lc st : List Value} {k n : Nat} {σ : jS} {Q : jOut → jS → Prop} {i : Nat} {a0 a1 a2 a3 a4 a5 a6 a7 a8 a9 a10 a11 a12 a13 a14 a15 a16 a17 a18 : Value} {x : Int32} (hM : M.1.cls = RX7) (d : decode M.2.1 pc = .ok (.putfield 124, 3)) (he : σ.2 i = jO 6 [a0, a1, a2, a3, a4, a5, a6, a7, a8, a9, a10, a11, a12, a13, a14, a15, a16, a17, a18]) (kk : J X M rm (pc + 3) lc st k n (jset σ i (jO 6 [a0, a1, a2, a3, a4, a5, a6, a7, a8, a9, a10, .int x, a12, a13, a14, a15, a16, a17, a18])) Q) : J X M rm pc lc ((.int x) :: .ref i :: st) k n σ Q := J.putf (T := TX7) (kf := 11) tyX7 tyX7_ok nmX7 d he rfl in_X7 (by decide) (by rw [hM]; exact fl_X7_124) rfl rfl (Or.inl ⟨x, rfl, rfl⟩) (by simp) kk
theorem fl_X7_35 : Cond.fieldLink RX7 35 (TX7 12).1 (TX7 12).2.1 (TX7 12).2.2.1 ∈ lw_tbl := List.mem_of_getElem? (i := 697) (by decide +kernel)
theorem gf_X7_35 {X : jX} {M : jMt} {rm : Room} {pc : Nat} {lc st : List Value} {k n : Nat} {σ : jS} {Q : jOut → jS → Prop} {i : Nat} {a0 a1 a2 a3 a4 a5 a6 a7 a8 a9 a10 a11 a12 a13 a14 a15 a16 a17 a18 : Value} (hM : M.1.cls = RX7) (d : decode M.2.1 pc = .ok (.getfield 35, 3)) (he : σ.2 i = jO 6 [a0, a1, a2, a3, a4, a5, a6, a7, a8, a9, a10, a11, a12, a13, a14, a15, a16, a17, a18]) (kk : J X M rm (pc + 3) lc (a12 :: st) k n σ Q) : J X M rm pc lc (.ref i :: st) k n σ Q := J.getf (T := TX7) (kf := 12) d he rfl in_X7 (by decide) (by rw [hM]; exact fl_X7_35) rfl kk
theorem pf_X7_35 {X : jX} {M : jMt} {rm : Room} {pc : Nat} {lc st : List Value} {k n : Nat} {σ : jS} {Q : jOut → jS → Prop} {i : Nat} {a0 a1 a2 a3 a4 a5 a6 a7 a8 a9 a10 a11 a12 a13 a14 a15 a16 a17 a18 : Value} {x : Nat} (hM : M.1.cls = RX7) (hM2 : M.1.name = "<init>") (d : decode M.2.1 pc = .ok (.putfield 35, 3)) (he : σ.2 i = jO 6 [a0, a1, a2, a3, a4, a5, a6, a7, a8, a9, a10, a11, a12, a13, a14, a15, a16, a17, a18]) (kk : J X M rm (pc + 3) lc st k n (jset σ i (jO 6 [a0, a1, a2, a3, a4, a5, a6, a7, a8, a9, a10, a11, .ref x, a13, a14, a15, a16, a17, a18])) Q) : J X M rm pc lc ((.ref x) :: .ref i :: st) k n σ Q := J.putfF (T := TX7) (kf := 12) tyX7 tyX7_ok nmX7 d he rfl in_X7 (by decide) (by rw [hM]; exact fl_X7_35) rfl hM2 (by rw [hM]; rfl) rfl (Or.inr ⟨x, rfl, rfl⟩) (by simp) kk
theorem fl_X7_130 : Cond.fieldLink RX7 130 (TX7 13).1 (TX7 13).2.1 (TX7 13).2.2.1 ∈ lw_tbl := List.mem_of_getElem? (i := 698) (by decide +kernel)
theorem gf_X7_130 {X : jX} {M : jMt} {rm : Room} {pc : Nat} {lc st : List Value} {k n : Nat} {σ : jS} {Q : jOut → jS → Prop} {i : Nat} {a0 a1 a2 a3 a4 a5 a6 a7 a8 a9 a10 a11 a12 a13 a14 a15 a16 a17 a18 : Value} (hM : M.1.cls = RX7) (d : decode M.2.1 pc = .ok (.getfield 130, 3)) (he : σ.2 i = jO 6 [a0, a1, a2, a3, a4, a5, a6, a7, a8, a9, a10, a11, a12, a13, a14, a15, a16, a17, a18]) (kk : J X M rm (pc + 3) lc (a13 :: st) k n σ Q) : J X M rm pc lc (.ref i :: st) k n σ Q := J.getf (T := TX7) (kf := 13) d he rfl in_X7 (by decide) (by rw [hM]; exact fl_X7_130) rfl kk
theorem pf_X7_130 {X : jX} {M : jMt} {rm : Room} {pc : Nat} {lc st : List Value} {k n : Nat} {σ : jS} {Q : jOut → jS → Prop} {i : Nat} {a0 a1 a2 a3 a4 a5 a6 a7 a8 a9 a10 a11 a12 a13 a14 a15 a16 a17 a18 : Value} {x : Int32} (hM : M.1.cls = RX7) (d : decode M.2.1 pc = .ok (.putfield 130, 3)) (he : σ.2 i = jO 6 [a0, a1, a2, a3, a4, a5, a6, a7, a8, a9, a10, a11, a12, a13, a14, a15, a16, a17, a18]) (kk : J X M rm (pc + 3) lc st k n (jset σ i (jO 6 [a0, a1, a2, a3, a4, a5, a6, a7, a8, a9, a10, a11, a12, .int x, a14, a15, a16, a17, a18])) Q) : J X M rm pc lc ((.int x) :: .ref i :: st) k n σ Q := J.putf (T := TX7) (kf := 13) tyX7 tyX7_ok nmX7 d he rfl in_X7 (by decide) (by rw [hM]; exact fl_X7_130) rfl rfl (Or.inl ⟨x, rfl, rfl⟩) (by simp) kk
theorem fl_X7_38 : Cond.fieldLink RX7 38 (TX7 14).1 (TX7 14).2.1 (TX7 14).2.2.1 ∈ lw_tbl := List.mem_of_getElem? (i := 699) (by decide +kernel)
theorem gf_X7_38 {X : jX} {M : jMt} {rm : Room} {pc : Nat} {lc st : List Value} {k n : Nat} {σ : jS} {Q : jOut → jS → Prop} {i : Nat} {a0 a1 a2 a3 a4 a5 a6 a7 a8 a9 a10 a11 a12 a13 a14 a15 a16 a17 a18 : Value} (hM : M.1.cls = RX7) (d : decode M.2.1 pc = .ok (.getfield 38, 3)) (he : σ.2 i = jO 6 [a0, a1, a2, a3, a4, a5, a6, a7, a8, a9, a10, a11, a12, a13, a14, a15, a16, a17, a18]) (kk : J X M rm (pc + 3) lc (a14 :: st) k n σ Q) : J X M rm pc lc (.ref i :: st) k n σ Q := J.getf (T := TX7) (kf := 14) d he rfl in_X7 (by decide) (by rw [hM]; exact fl_X7_38) rfl kk
theorem pf_X7_38 {X : jX} {M : jMt} {rm : Room} {pc : Nat} {lc st : List Value} {k n : Nat} {σ : jS} {Q : jOut → jS → Prop} {i : Nat} {a0 a1 a2 a3 a4 a5 a6 a7 a8 a9 a10 a11 a12 a13 a14 a15 a16 a17 a18 : Value} {x : Nat} (hM : M.1.cls = RX7) (hM2 : M.1.name = "<init>") (d : decode M.2.1 pc = .ok (.putfield 38, 3)) (he : σ.2 i = jO 6 [a0, a1, a2, a3, a4, a5, a6, a7, a8, a9, a10, a11, a12, a13, a14, a15, a16, a17, a18]) (kk : J X M rm (pc + 3) lc st k n (jset σ i (jO 6 [a0, a1, a2, a3, a4, a5, a6, a7, a8, a9, a10, a11, a12, a13, .ref x, a15, a16, a17, a18])) Q) : J X M rm pc lc ((.ref x) :: .ref i :: st) k n σ Q := J.putfF (T := TX7) (kf := 14) tyX7 tyX7_ok nmX7 d he rfl in_X7 (by decide) (by rw [hM]; exact fl_X7_38) rfl hM2 (by rw [hM]; rfl) rfl (Or.inr ⟨x, rfl, rfl⟩) (by simp) kk
theorem fl_X7_41 : Cond.fieldLink RX7 41 (TX7 15).1 (TX7 15).2.1 (TX7 15).2.2.1 ∈ lw_tbl := List.mem_of_getElem? (i := 700) (by decide +kernel)
theorem gf_X7_41 {X : jX} {M : jMt} {rm : Room} {pc : Nat} {lc st : List Value} {k n : Nat} {σ : jS} {Q : jOut → jS → Prop} {i : Nat} {a0 a1 a2 a3 a4 a5 a6 a7 a8 a9 a10 a11 a12 a13 a14 a15 a16 a17 a18 : Value} (hM : M.1.cls = RX7) (d : decode M.2.1 pc = .ok (.getfield 41, 3)) (he : σ.2 i = jO 6 [a0, a1, a2, a3, a4, a5, a6, a7, a8, a9, a10, a11, a12, a13, a14, a15, a16, a17, a18]) (kk : J X M rm (pc + 3) lc (a15 :: st) k n σ Q) : J X M rm pc lc (.ref i :: st) k n σ Q := J.getf (T := TX7) (kf := 15) d he rfl in_X7 (by decide) (by rw [hM]; exact fl_X7_41) rfl kk
theorem pf_X7_41 {X : jX} {M : jMt} {rm : Room} {pc : Nat} {lc st : List Value} {k n : Nat} {σ : jS} {Q : jOut → jS → Prop} {i : Nat} {a0 a1 a2 a3 a4 a5 a6 a7 a8 a9 a10 a11 a12 a13 a14 a15 a16 a17 a18 : Value} {x : Nat} (hM : M.1.cls = RX7) (hM2 : M.1.name = "<init>") (d : decode M.2.1 pc = .ok (.putfield 41, 3)) (he : σ.2 i = jO 6 [a0, a1, a2, a3, a4, a5, a6, a7, a8, a9, a10, a11, a12, a13, a14, a15, a16, a17, a18]) (kk : J X M rm (pc + 3) lc st k n (jset σ i (jO 6 [a0, a1, a2, a3, a4, a5, a6, a7, a8, a9, a10, a11, a12, a13, a14, .ref x, a16, a17, a18])) Q) : J X M rm pc lc ((.ref x) :: .ref i :: st) k n σ Q := J.putfF (T := TX7) (kf := 15) tyX7 tyX7_ok nmX7 d he rfl in_X7 (by decide) (by rw [hM]; exact fl_X7_41) rfl hM2 (by rw [hM]; rfl) rfl (Or.inr ⟨x, rfl, rfl⟩) (by simp) kk
theorem fl_X7_44 : Cond.fieldLink RX7 44 (TX7 16).1 (TX7 16).2.1 (TX7 16).2.2.1 ∈ lw_tbl := List.mem_of_getElem? (i := 701) (by decide +kernel)
theorem gf_X7_44 {X : jX} {M : jMt} {rm : Room} {pc : Nat} {lc st : List Value} {k n : Nat} {σ : jS} {Q : jOut → jS → Prop} {i : Nat} {a0 a1 a2 a3 a4 a5 a6 a7 a8 a9 a10 a11 a12 a13 a14 a15 a16 a17 a18 : Value} (hM : M.1.cls = RX7) (d : decode M.2.1 pc = .ok (.getfield 44, 3)) (he : σ.2 i = jO 6 [a0, a1, a2, a3, a4, a5, a6, a7, a8, a9, a10, a11, a12, a13, a14, a15, a16, a17, a18]) (kk : J X M rm (pc + 3) lc (a16 :: st) k n σ Q) : J X M rm pc lc (.ref i :: st) k n σ Q := J.getf (T := TX7) (kf := 16) d he rfl in_X7 (by decide) (by rw [hM]; exact fl_X7_44) rfl kk
theorem pf_X7_44 {X : jX} {M : jMt} {rm : Room} {pc : Nat} {lc st : List Value} {k n : Nat} {σ : jS} {Q : jOut → jS → Prop} {i : Nat} {a0 a1 a2 a3 a4 a5 a6 a7 a8 a9 a10 a11 a12 a13 a14 a15 a16 a17 a18 : Value} {x : Nat} (hM : M.1.cls = RX7) (hM2 : M.1.name = "<init>") (d : decode M.2.1 pc = .ok (.putfield 44, 3)) (he : σ.2 i = jO 6 [a0, a1, a2, a3, a4, a5, a6, a7, a8, a9, a10, a11, a12, a13, a14, a15, a16, a17, a18]) (kk : J X M rm (pc + 3) lc st k n (jset σ i (jO 6 [a0, a1, a2, a3, a4, a5, a6, a7, a8, a9, a10, a11, a12, a13, a14, a15, .ref x, a17, a18])) Q) : J X M rm pc lc ((.ref x) :: .ref i :: st) k n σ Q := J.putfF (T := TX7) (kf := 16) tyX7 tyX7_ok nmX7 d he rfl in_X7 (by decide) (by rw [hM]; exact fl_X7_44) rfl hM2 (by rw [hM]; rfl) rfl (Or.inr ⟨x, rfl, rfl⟩) (by simp) kk
theorem fl_X7_158 : Cond.fieldLink RX7 158 (TX7 17).1 (TX7 17).2.1 (TX7 17).2.2.1 ∈ lw_tbl := List.mem_of_getElem? (i := 702) (by decide +kernel)
theorem gf_X7_158 {X : jX} {M : jMt} {rm : Room} {pc : Nat} {lc st : List Value} {k n : Nat} {σ : jS} {Q : jOut → jS → Prop} {i : Nat} {a0 a1 a2 a3 a4 a5 a6 a7 a8 a9 a10 a11 a12 a13 a14 a15 a16 a17 a18 : Value} (hM : M.1.cls = RX7) (d : decode M.2.1 pc = .ok (.getfield 158, 3)) (he : σ.2 i = jO 6 [a0, a1, a2, a3, a4, a5, a6, a7, a8, a9, a10, a11, a12, a13, a14, a15, a16, a17, a18]) (kk : J X M rm (pc + 3) lc (a17 :: st) k n σ Q) : J X M rm pc lc (.ref i :: st) k n σ Q := J.getf (T := TX7) (kf := 17) d he rfl in_X7 (by decide) (by rw [hM]; exact fl_X7_158) rfl kk
theorem pf_X7_158 {X : jX} {M : jMt} {rm : Room} {pc : Nat} {lc st : List Value} {k n : Nat} {σ : jS} {Q : jOut → jS → Prop} {i : Nat} {a0 a1 a2 a3 a4 a5 a6 a7 a8 a9 a10 a11 a12 a13 a14 a15 a16 a17 a18 : Value} {x : Int32} (hM : M.1.cls = RX7) (d : decode M.2.1 pc = .ok (.putfield 158, 3)) (he : σ.2 i = jO 6 [a0, a1, a2, a3, a4, a5, a6, a7, a8, a9, a10, a11, a12, a13, a14, a15, a16, a17, a18]) (kk : J X M rm (pc + 3) lc st k n (jset σ i (jO 6 [a0, a1, a2, a3, a4, a5, a6, a7, a8, a9, a10, a11, a12, a13, a14, a15, a16, .int x, a18])) Q) : J X M rm pc lc ((.int x) :: .ref i :: st) k n σ Q := J.putf (T := TX7) (kf := 17) tyX7 tyX7_ok nmX7 d he rfl in_X7 (by decide) (by rw [hM]; exact fl_X7_158) rfl rfl (Or.inl ⟨x, rfl, rfl⟩) (by simp) kk
theorem fl_X7_161 : Cond.fieldLink RX7 161 (TX7 18).1 (TX7 18).2.1 (TX7 18).2.2.1 ∈ lw_tbl := List.mem_of_getElem? (i := 703) (by decide +kernel)
theorem gf_X7_161 {X : jX} {M : jMt} {rm : Room} {pc : Nat} {lc st : List Value} {k n : Nat} {σ : jS} {Q : jOut → jS → Prop} {i : Nat} {a0 a1 a2 a3 a4 a5 a6 a7 a8 a9 a10 a11 a12 a13 a14 a15 a16 a17 a18 : Value} (hM : M.1.cls = RX7) (d : decode M.2.1 pc = .ok (.getfield 161, 3)) (he : σ.2 i = jO 6 [a0, a1, a2, a3, a4, a5, a6, a7, a8, a9, a10, a11, a12, a13, a14, a15, a16, a17, a18]) (kk : J X M rm (pc + 3) lc (a18 :: st) k n σ Q) : J X M rm pc lc (.ref i :: st) k n σ Q := J.getf (T := TX7) (kf := 18) d he rfl in_X7 (by decide) (by rw [hM]; exact fl_X7_161) rfl kk
theorem pf_X7_161 {X : jX} {M : jMt} {rm : Room} {pc : Nat} {lc st : List Value} {k n : Nat} {σ : jS} {Q : jOut → jS → Prop} {i : Nat} {a0 a1 a2 a3 a4 a5 a6 a7 a8 a9 a10 a11 a12 a13 a14 a15 a16 a17 a18 : Value} {x : Int32} (hM : M.1.cls = RX7) (d : decode M.2.1 pc = .ok (.putfield 161, 3)) (he : σ.2 i = jO 6 [a0, a1, a2, a3, a4, a5, a6, a7, a8, a9, a10, a11, a12, a13, a14, a15, a16, a17, a18]) (kk : J X M rm (pc + 3) lc st k n (jset σ i (jO 6 [a0, a1, a2, a3, a4, a5, a6, a7, a8, a9, a10, a11, a12, a13, a14, a15, a16, a17, .int x])) Q) : J X M rm pc lc ((.int x) :: .ref i :: st) k n σ Q := J.putf (T := TX7) (kf := 18) tyX7 tyX7_ok nmX7 d he rfl in_X7 (by decide) (by rw [hM]; exact fl_X7_161) rfl rfl (Or.inl ⟨x, rfl, rfl⟩) (by simp) kk
