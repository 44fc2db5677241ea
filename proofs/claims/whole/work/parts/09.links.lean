/-! METHODS (name, code, locals, answer) and LINKS of the pools -/
abbrev mt_LS_init : Mt := (⟨"LateSeekers", "<init>", "()V"⟩, prog_1_method_1_code, 1, none)
abbrev mt_Obj_init : Mt := (⟨"java/lang/Object", "<init>", "()V"⟩, object_method_1_code, 1, none)
abbrev mt_Tr_init : Mt := (⟨"LateSeekers$Trials", "<init>", "()V"⟩, prog_8_method_1_code, 1, none)
abbrev mt_Pk_init : Mt := (⟨"LateSeekers$Park", "<init>", "()V"⟩, prog_3_method_1_code, 1, none)
abbrev mt_Pk_becomeAsAtFirst : Mt := (⟨"LateSeekers$Park", "becomeAsAtFirst", "()V"⟩, prog_3_method_2_code, 2, none)
abbrev mt_Tp_init : Mt := (⟨"LateSeekers$TapeReader", "<init>", "()V"⟩, prog_7_method_1_code, 1, none)
abbrev mt_Rw_init : Mt := (⟨"LateSeekers$Rows", "<init>", "()V"⟩, prog_4_method_1_code, 1, none)
abbrev mt_Sh_init : Mt := (⟨"LateSeekers$Sheets", "<init>", "()V"⟩, prog_5_method_1_code, 1, none)
abbrev mt_Sv_init : Mt := (⟨"LateSeekers$Shelves", "<init>", "()V"⟩, prog_6_method_1_code, 1, none)
abbrev mt_Ac_init : Mt := (⟨"LateSeekers$Actor", "<init>", "()V"⟩, prog_2_method_1_code, 1, none)
abbrev mt_LS_feed : Mt := (⟨"LateSeekers", "feed", "(JI)I"⟩, prog_1_method_8_code, 4, (some .int))
abbrev mt_LS_within : Mt := (⟨"LateSeekers", "within", "(III)Z"⟩, prog_1_method_2_code, 3, (some .boolean))
abbrev mt_Tp_append : Mt := (⟨"LateSeekers$TapeReader", "append", "(JI)V"⟩, prog_7_method_2_code, 5, none)
abbrev mt_LS_park : Mt := (⟨"LateSeekers", "park", "()I"⟩, prog_1_method_9_code, 3, (some .int))
abbrev mt_Tp_readInto : Mt := (⟨"LateSeekers$TapeReader", "readInto", "(LLateSeekers$Park;)I"⟩, prog_7_method_3_code, 3, (some .int))
abbrev mt_Tp_advance : Mt := (⟨"LateSeekers$TapeReader", "advance", "()V"⟩, prog_7_method_14_code, 1, none)
abbrev mt_Tp_sortAt : Mt := (⟨"LateSeekers$TapeReader", "sortAt", "(I)I"⟩, prog_7_method_15_code, 2, (some .int))
abbrev mt_Tp_readStatement : Mt := (⟨"LateSeekers$TapeReader", "readStatement", "(LLateSeekers$Park;)V"⟩, prog_7_method_4_code, 3, none)
abbrev mt_Tp_kindName : Mt := (⟨"LateSeekers$TapeReader", "kindName", "(I)Ljava/lang/String;"⟩, prog_7_method_16_code, 1, (some (.object "java/lang/String")))
abbrev mt_Tp_isNext : Mt := (⟨"LateSeekers$TapeReader", "isNext", "(Ljava/lang/String;)Z"⟩, prog_7_method_13_code, 3, (some .boolean))
abbrev mt_Str_length : Mt := (⟨"java/lang/String", "length", "()I"⟩, prog_13_method_54_code, 1, (some .int))
abbrev mt_Str_coder : Mt := (⟨"java/lang/String", "coder", "()B"⟩, prog_13_method_152_code, 1, (some .byte))
abbrev mt_Str_charAt : Mt := (⟨"java/lang/String", "charAt", "(I)C"⟩, prog_13_method_56_code, 2, (some .char))
abbrev mt_Str_isLatin1 : Mt := (⟨"java/lang/String", "isLatin1", "()Z"⟩, prog_13_method_154_code, 1, (some .boolean))
abbrev mt_Lat_charAt : Mt := (⟨"java/lang/StringLatin1", "charAt", "([BI)C"⟩, prog_14_method_2_code, 2, (some .char))
abbrev mt_Str_checkIndex : Mt := (⟨"java/lang/String", "checkIndex", "(II)V"⟩, prog_13_method_155_code, 2, none)
abbrev mt_Pre_checkIndex : Mt := (⟨"jdk/internal/util/Preconditions", "checkIndex", "(IILjava/util/function/BiFunction;)I"⟩, prog_17_method_11_code, 3, (some .int))
abbrev mt_Utf_charAt : Mt := (⟨"java/lang/StringUTF16", "charAt", "([BI)C"⟩, prog_15_method_83_code, 2, (some .char))
abbrev mt_Utf_checkIndex : Mt := (⟨"java/lang/StringUTF16", "checkIndex", "(I[B)V"⟩, prog_15_method_91_code, 2, none)
abbrev mt_Utf_length : Mt := (⟨"java/lang/StringUTF16", "length", "([B)I"⟩, prog_15_method_6_code, 1, (some .int))
abbrev mt_Utf_getChar : Mt := (⟨"java/lang/StringUTF16", "getChar", "([BI)C"⟩, prog_15_method_5_code, 2, (some .char))
abbrev mt_Tp_readPerson : Mt := (⟨"LateSeekers$TapeReader", "readPerson", "(LLateSeekers$Park;I)V"⟩, prog_7_method_5_code, 7, none)
abbrev mt_Tp_fail : Mt := (⟨"LateSeekers$TapeReader", "fail", "()V"⟩, prog_7_method_12_code, 1, none)
abbrev mt_Tp_takeName : Mt := (⟨"LateSeekers$TapeReader", "takeName", "(Ljava/lang/String;)V"⟩, prog_7_method_8_code, 2, none)
abbrev mt_Tp_takeNumber : Mt := (⟨"LateSeekers$TapeReader", "takeNumber", "(I)I"⟩, prog_7_method_10_code, 4, (some .int))
abbrev mt_Tp_takeNumberIfNamed : Mt := (⟨"LateSeekers$TapeReader", "takeNumberIfNamed", "(Ljava/lang/String;I)I"⟩, prog_7_method_9_code, 3, (some .int))
abbrev mt_Tp_takeSemicolon : Mt := (⟨"LateSeekers$TapeReader", "takeSemicolon", "()V"⟩, prog_7_method_11_code, 1, none)
/-- the method that a row of the tables names -/
def nmC : Cond → MethodName := fun w => match w with
  | .instanceMethod m => m
  | _ => ⟨"", "", ""⟩
/-- by its row of the tables: the hand-in refuses its own name as a word -/
abbrev mt_Pk_adm : Mt := (nmC (tables_1_2.getD 134 (.count 0)), prog_3_method_5_code, 7, none)
abbrev mt_Pk_hide : Mt := (⟨"LateSeekers$Park", "hide", "(IZ)V"⟩, prog_3_method_7_code, 3, none)
abbrev mt_Tp_lawName : Mt := (⟨"LateSeekers$TapeReader", "lawName", "(I)Ljava/lang/String;"⟩, prog_7_method_17_code, 1, (some (.object "java/lang/String")))
abbrev mt_Tp_readLaw : Mt := (⟨"LateSeekers$TapeReader", "readLaw", "(LLateSeekers$Park;I)V"⟩, prog_7_method_6_code, 4, none)
abbrev mt_Tp_readCover : Mt := (⟨"LateSeekers$TapeReader", "readCover", "(LLateSeekers$Park;)V"⟩, prog_7_method_7_code, 4, none)
abbrev mt_Pk_become : Mt := (⟨"LateSeekers$Park", "become", "(LLateSeekers$Park;)V"⟩, prog_3_method_3_code, 2, none)
abbrev mt_LS_set : Mt := (⟨"LateSeekers", "set", "(II)I"⟩, prog_1_method_10_code, 4, (some .int))
abbrev mt_LS_isLaw : Mt := (⟨"LateSeekers", "isLaw", "(I)Z"⟩, prog_1_method_5_code, 1, (some .boolean))
abbrev mt_LS_lawOf : Mt := (⟨"LateSeekers", "lawOf", "(I)I"⟩, prog_1_method_11_code, 2, (some .int))
abbrev mt_LS_person : Mt := (⟨"LateSeekers", "person", "(IIIII)I"⟩, prog_1_method_12_code, 7, (some .int))
abbrev mt_LS_isKind : Mt := (⟨"LateSeekers", "isKind", "(I)Z"⟩, prog_1_method_3_code, 1, (some .boolean))
abbrev mt_LS_isPlace : Mt := (⟨"LateSeekers", "isPlace", "(I)Z"⟩, prog_1_method_4_code, 1, (some .boolean))
abbrev mt_LS_of : Mt := (⟨"LateSeekers", "of", "(II)I"⟩, prog_1_method_13_code, 3, (some .int))
abbrev mt_Pk_has : Mt := (⟨"LateSeekers$Park", "has", "(I)Z"⟩, prog_3_method_4_code, 2, (some .boolean))
abbrev mt_Pk_isHidden : Mt := (⟨"LateSeekers$Park", "isHidden", "(I)Z"⟩, prog_3_method_6_code, 2, (some .boolean))
abbrev mt_LS_does : Mt := (⟨"LateSeekers", "does", "(II)I"⟩, prog_1_method_14_code, 3, (some .int))
abbrev mt_Pk_hides : Mt := (⟨"LateSeekers$Park", "hides", "(I)I"⟩, prog_3_method_12_code, 3, (some .int))
abbrev mt_Pk_sees : Mt := (⟨"LateSeekers$Park", "sees", "(I)I"⟩, prog_3_method_13_code, 3, (some .int))
abbrev mt_Pk_strides : Mt := (⟨"LateSeekers$Park", "strides", "(I)I"⟩, prog_3_method_14_code, 2, (some .int))
abbrev mt_LS_mind : Mt := (⟨"LateSeekers", "mind", "(III)I"⟩, prog_1_method_15_code, 5, (some .int))
abbrev mt_LS_age : Mt := (⟨"LateSeekers", "age", "(II)I"⟩, prog_1_method_16_code, 4, (some .int))
abbrev mt_LS_bring : Mt := (⟨"LateSeekers", "bring", "(II)I"⟩, prog_1_method_17_code, 4, (some .int))
abbrev mt_LS_seek : Mt := (⟨"LateSeekers", "seek", "(II)I"⟩, prog_1_method_18_code, 4, (some .int))
abbrev mt_LS_place : Mt := (⟨"LateSeekers", "place", "(II)I"⟩, prog_1_method_19_code, 3, (some .int))
abbrev mt_Pk_peopleAt : Mt := (⟨"LateSeekers$Park", "peopleAt", "(I)I"⟩, prog_3_method_9_code, 4, (some .int))
abbrev mt_Integer_bitCount : Mt := (⟨"java/lang/Integer", "bitCount", "(I)I"⟩, prog_11_method_49_code, 1, (some .int))
abbrev mt_LS_cover : Mt := (⟨"LateSeekers", "cover", "(II)I"⟩, prog_1_method_20_code, 4, (some .int))
abbrev mt_LS_years : Mt := (⟨"LateSeekers", "years", "(I)I"⟩, prog_1_method_21_code, 2, (some .int))
abbrev mt_Pk_passYears : Mt := (⟨"LateSeekers$Park", "passYears", "(II)V"⟩, prog_3_method_15_code, 4, none)
abbrev mt_Pk_passYear : Mt := (⟨"LateSeekers$Park", "passYear", "(I)V"⟩, prog_3_method_16_code, 4, none)
abbrev mt_Pk_growOlder : Mt := (⟨"LateSeekers$Park", "growOlder", "()V"⟩, prog_3_method_17_code, 2, none)
abbrev mt_Pk_goSeeking : Mt := (⟨"LateSeekers$Park", "goSeeking", "(IZ)V"⟩, prog_3_method_18_code, 3, none)
abbrev mt_Math_floorMod : Mt := (⟨"java/lang/Math", "floorMod", "(II)I"⟩, prog_12_method_50_code, 3, (some .int))
abbrev mt_Pk_findOne : Mt := (⟨"LateSeekers$Park", "findOne", "(I)V"⟩, prog_3_method_19_code, 4, none)
abbrev mt_Pk_hiddenOnes : Mt := (⟨"LateSeekers$Park", "hiddenOnes", "()I"⟩, prog_3_method_8_code, 1, (some .int))
abbrev mt_LS_seed : Mt := (⟨"LateSeekers", "seed", "(I)I"⟩, prog_1_method_22_code, 3, (some .int))
abbrev mt_LS_year : Mt := (⟨"LateSeekers", "year", "()I"⟩, prog_1_method_23_code, 1, (some .int))
abbrev mt_Pk_passYearByDraws : Mt := (⟨"LateSeekers$Park", "passYearByDraws", "()V"⟩, prog_3_method_20_code, 2, none)
abbrev mt_Pk_drawn : Mt := (⟨"LateSeekers$Park", "drawn", "()I"⟩, prog_3_method_21_code, 1, (some .int))
abbrev mt_LS_nights : Mt := (⟨"LateSeekers", "nights", "(I)I"⟩, prog_1_method_24_code, 2, (some .int))
abbrev mt_Tr_nightsWithMoreHidden : Mt := (⟨"LateSeekers$Trials", "nightsWithMoreHidden", "(I)I"⟩, prog_8_method_12_code, 5, (some .int))
abbrev mt_LS_state : Mt := (⟨"LateSeekers", "state", "(I)I"⟩, prog_1_method_25_code, 2, (some .int))
abbrev mt_LS_sumOf : Mt := (⟨"LateSeekers", "sumOf", "([II)I"⟩, prog_1_method_26_code, 4, (some .int))
abbrev mt_Pk_hidingPlaces : Mt := (⟨"LateSeekers$Park", "hidingPlaces", "()I"⟩, prog_3_method_10_code, 3, (some .int))
abbrev mt_LS_where : Mt := (⟨"LateSeekers", "where", "(II)I"⟩, prog_1_method_27_code, 3, (some .int))
abbrev mt_LS_shown : Mt := (⟨"LateSeekers", "shown", "(I)I"⟩, prog_1_method_28_code, 3, (some .int))
abbrev mt_Tr_shownBehind : Mt := (⟨"LateSeekers$Trials", "shownBehind", "(II)I"⟩, prog_8_method_2_code, 3, (some .int))
abbrev mt_Tr_yearsUntilShown : Mt := (⟨"LateSeekers$Trials", "yearsUntilShown", "(II)I"⟩, prog_8_method_3_code, 4, (some .int))
abbrev mt_LS_all : Mt := (⟨"LateSeekers", "all", "()I"⟩, prog_1_method_29_code, 2, (some .int))
abbrev mt_Tr_allShownBehind : Mt := (⟨"LateSeekers$Trials", "allShownBehind", "()I"⟩, prog_8_method_4_code, 2, (some .int))
abbrev mt_LS_finder : Mt := (⟨"LateSeekers", "finder", "(I)I"⟩, prog_1_method_30_code, 3, (some .int))
abbrev mt_LS_safeFor : Mt := (⟨"LateSeekers", "safeFor", "(I)I"⟩, prog_1_method_31_code, 2, (some .int))
abbrev mt_Tr_safestPlace : Mt := (⟨"LateSeekers$Trials", "safestPlace", "(I)I"⟩, prog_8_method_5_code, 6, (some .int))
abbrev mt_LS_kindFor : Mt := (⟨"LateSeekers", "kindFor", "(I)I"⟩, prog_1_method_32_code, 2, (some .int))
abbrev mt_Tr_safestKind : Mt := (⟨"LateSeekers$Trials", "safestKind", "(I)I"⟩, prog_8_method_6_code, 6, (some .int))
abbrev mt_LS_witFor : Mt := (⟨"LateSeekers", "witFor", "(II)I"⟩, prog_1_method_33_code, 3, (some .int))
abbrev mt_Tr_leastHidingWit : Mt := (⟨"LateSeekers$Trials", "leastHidingWit", "(II)I"⟩, prog_8_method_7_code, 4, (some .int))
abbrev mt_LS_needed : Mt := (⟨"LateSeekers", "needed", "(I)I"⟩, prog_1_method_34_code, 2, (some .int))
abbrev mt_Tr_mostNeeded : Mt := (⟨"LateSeekers$Trials", "mostNeeded", "(I)I"⟩, prog_8_method_8_code, 6, (some .int))
abbrev mt_LS_fewest : Mt := (⟨"LateSeekers", "fewest", "(II)I"⟩, prog_1_method_35_code, 3, (some .int))
abbrev mt_Tr_fewestFinders : Mt := (⟨"LateSeekers$Trials", "fewestFinders", "(II)I"⟩, prog_8_method_9_code, 6, (some .int))
abbrev mt_Tr_seeksBehind : Mt := (⟨"LateSeekers$Trials", "seeksBehind", "(III)Z"⟩, prog_8_method_10_code, 4, (some .boolean))
abbrev mt_LS_round : Mt := (⟨"LateSeekers", "round", "(I)I"⟩, prog_1_method_36_code, 2, (some .int))
abbrev mt_LS_stepsRound : Mt := (⟨"LateSeekers", "stepsRound", "(II)I"⟩, prog_1_method_37_code, 6, (some .int))
abbrev mt_Math_min : Mt := (⟨"java/lang/Math", "min", "(II)I"⟩, prog_12_method_69_code, 2, (some .int))
abbrev mt_LS_fits : Mt := (⟨"LateSeekers", "fits", "(III)I"⟩, prog_1_method_38_code, 7, (some .int))
abbrev mt_LS_isSheet : Mt := (⟨"LateSeekers", "isSheet", "(I)Z"⟩, prog_1_method_6_code, 1, (some .boolean))
abbrev mt_Sh_isMissing : Mt := (⟨"LateSeekers$Sheets", "isMissing", "(I)Z"⟩, prog_5_method_2_code, 2, (some .boolean))
abbrev mt_Tr_wouldFit : Mt := (⟨"LateSeekers$Trials", "wouldFit", "(IILLateSeekers$Sheets;I)Z"⟩, prog_8_method_11_code, 7, (some .boolean))
abbrev mt_Sh_read : Mt := (⟨"LateSeekers$Sheets", "read", "(II)I"⟩, prog_5_method_6_code, 3, (some .int))
abbrev mt_LS_odds : Mt := (⟨"LateSeekers", "odds", "(III)J"⟩, prog_1_method_39_code, 9, (some .long))
abbrev mt_LS_partOf : Mt := (⟨"LateSeekers", "partOf", "(JJI)J"⟩, prog_1_method_41_code, 7, (some .long))
abbrev mt_LS_commonDivisor : Mt := (⟨"LateSeekers", "commonDivisor", "(JJ)J"⟩, prog_1_method_42_code, 7, (some .long))
abbrev mt_LS_hope : Mt := (⟨"LateSeekers", "hope", "(II)J"⟩, prog_1_method_40_code, 3, (some .long))
abbrev mt_LS_prove : Mt := (⟨"LateSeekers", "prove", "(II)I"⟩, prog_1_method_43_code, 5, (some .int))
abbrev mt_Rw_write : Mt := (⟨"LateSeekers$Rows", "write", "(ILLateSeekers$Park;I)V"⟩, prog_4_method_3_code, 5, none)
abbrev mt_Rw_due : Mt := (⟨"LateSeekers$Rows", "due", "(LLateSeekers$Park;II)I"⟩, prog_4_method_5_code, 3, (some .int))
abbrev mt_LS_row : Mt := (⟨"LateSeekers", "row", "(II)I"⟩, prog_1_method_44_code, 3, (some .int))
abbrev mt_Rw_has : Mt := (⟨"LateSeekers$Rows", "has", "(II)Z"⟩, prog_4_method_2_code, 3, (some .boolean))
abbrev mt_LS_alterRow : Mt := (⟨"LateSeekers", "alterRow", "(III)I"⟩, prog_1_method_45_code, 5, (some .int))
abbrev mt_LS_judge : Mt := (⟨"LateSeekers", "judge", "(I)I"⟩, prog_1_method_46_code, 4, (some .int))
abbrev mt_Rw_isRight : Mt := (⟨"LateSeekers$Rows", "isRight", "(ILLateSeekers$Park;I)Z"⟩, prog_4_method_4_code, 5, (some .boolean))
abbrev mt_LS_minds : Mt := (⟨"LateSeekers", "minds", "(IIII)I"⟩, prog_1_method_47_code, 6, (some .int))
abbrev mt_Math_max : Mt := (⟨"java/lang/Math", "max", "(II)I"⟩, prog_12_method_65_code, 2, (some .int))
abbrev mt_LS_sheet : Mt := (⟨"LateSeekers", "sheet", "(III)I"⟩, prog_1_method_48_code, 4, (some .int))
abbrev mt_Sh_remove : Mt := (⟨"LateSeekers$Sheets", "remove", "(I)V"⟩, prog_5_method_5_code, 2, none)
abbrev mt_Sh_lay : Mt := (⟨"LateSeekers$Sheets", "lay", "(III)V"⟩, prog_5_method_4_code, 5, none)
abbrev mt_LS_put : Mt := (⟨"LateSeekers", "put", "(III)I"⟩, prog_1_method_49_code, 4, (some .int))
abbrev mt_Sh_hasItem : Mt := (⟨"LateSeekers$Sheets", "hasItem", "(II)Z"⟩, prog_5_method_3_code, 3, (some .boolean))
abbrev mt_Sh_write : Mt := (⟨"LateSeekers$Sheets", "write", "(III)V"⟩, prog_5_method_7_code, 4, none)
abbrev mt_Sh_narrowed : Mt := (⟨"LateSeekers$Sheets", "narrowed", "(II)I"⟩, prog_5_method_8_code, 2, (some .int))
abbrev mt_LS_item : Mt := (⟨"LateSeekers", "item", "(III)I"⟩, prog_1_method_50_code, 4, (some .int))
abbrev mt_LS_shelf : Mt := (⟨"LateSeekers", "shelf", "(III)I"⟩, prog_1_method_51_code, 4, (some .int))
abbrev mt_LS_isShelf : Mt := (⟨"LateSeekers", "isShelf", "(I)Z"⟩, prog_1_method_7_code, 1, (some .boolean))
abbrev mt_Sv_holdPerson : Mt := (⟨"LateSeekers$Shelves", "holdPerson", "(II)V"⟩, prog_6_method_3_code, 3, none)
abbrev mt_Sv_holdNothing : Mt := (⟨"LateSeekers$Shelves", "holdNothing", "(I)V"⟩, prog_6_method_5_code, 2, none)
abbrev mt_Sv_holdRow : Mt := (⟨"LateSeekers$Shelves", "holdRow", "(III)V"⟩, prog_6_method_4_code, 4, none)
abbrev mt_LS_taken : Mt := (⟨"LateSeekers", "taken", "(II)I"⟩, prog_1_method_52_code, 5, (some .int))
abbrev mt_Sv_holdsRow : Mt := (⟨"LateSeekers$Shelves", "holdsRow", "(I)Z"⟩, prog_6_method_2_code, 2, (some .boolean))
abbrev mt_LS_isUnder : Mt := (⟨"LateSeekers", "isUnder", "(II)Z"⟩, prog_1_method_53_code, 4, (some .boolean))
abbrev mt_LS_act : Mt := (⟨"LateSeekers", "act", "(III)I"⟩, prog_1_method_54_code, 5, (some .int))
abbrev mt_Ac_perform : Mt := (⟨"LateSeekers$Actor", "perform", "(LLateSeekers$Park;III)I"⟩, prog_2_method_2_code, 6, (some .int))
abbrev mt_Ac_run : Mt := (⟨"LateSeekers$Actor", "run", "(IIII)I"⟩, prog_2_method_3_code, 8, (some .int))
abbrev mt_Ac_quotient : Mt := (⟨"LateSeekers$Actor", "quotient", "(II)I"⟩, prog_2_method_4_code, 3, (some .int))
abbrev mt_LS_trace : Mt := (⟨"LateSeekers", "trace", "(I)I"⟩, prog_1_method_55_code, 2, (some .int))
abbrev mt_LS_many : Mt := (⟨"LateSeekers", "many", "(I)I"⟩, prog_1_method_56_code, 2, (some .int))
abbrev mt_Pk_peopleInCompany : Mt := (⟨"LateSeekers$Park", "peopleInCompany", "()I"⟩, prog_3_method_11_code, 3, (some .int))
abbrev mt_LS_keep : Mt := (⟨"LateSeekers", "keep", "()I"⟩, prog_1_method_57_code, 1, (some .int))
abbrev mt_LS_again : Mt := (⟨"LateSeekers", "again", "()I"⟩, prog_1_method_58_code, 1, (some .int))
abbrev mt_Md_init : Mt := (⟨"LateSeekersModel", "<init>", "()V"⟩, prog_10_method_1_code, 1, none)
abbrev mt_Md_begins : Mt := (⟨"LateSeekersModel", "begins", "()V"⟩, prog_10_method_2_code, 3, none)
abbrev mt_Md_feed : Mt := (⟨"LateSeekersModel", "feed", "(JI)I"⟩, prog_10_method_13_code, 5, (some .int))
abbrev mt_Md_isIn : Mt := (⟨"LateSeekersModel", "isIn", "(JJJ)Z"⟩, prog_10_method_3_code, 6, (some .boolean))
abbrev mt_Md_park : Mt := (⟨"LateSeekersModel", "park", "()I"⟩, prog_10_method_31_code, 1, (some .int))
abbrev mt_Md_copyRow : Mt := (⟨"LateSeekersModel", "copyRow", "([I[I)V"⟩, prog_10_method_8_code, 3, none)
abbrev mt_Md_nextToken : Mt := (⟨"LateSeekersModel", "nextToken", "()V"⟩, prog_10_method_17_code, 2, none)
abbrev mt_Md_byteAt : Mt := (⟨"LateSeekersModel", "byteAt", "(I)I"⟩, prog_10_method_16_code, 2, (some .int))
abbrev mt_Md_isAlpha : Mt := (⟨"LateSeekersModel", "isAlpha", "(I)Z"⟩, prog_10_method_14_code, 1, (some .boolean))
abbrev mt_Md_isDigit : Mt := (⟨"LateSeekersModel", "isDigit", "(I)Z"⟩, prog_10_method_15_code, 1, (some .boolean))
abbrev mt_Md_itemHere : Mt := (⟨"LateSeekersModel", "itemHere", "()V"⟩, prog_10_method_30_code, 3, none)
abbrev mt_Md_kindHere : Mt := (⟨"LateSeekersModel", "kindHere", "()I"⟩, prog_10_method_23_code, 1, (some .int))
abbrev mt_Md_isFive : Mt := (⟨"LateSeekersModel", "isFive", "(IIIII)Z"⟩, prog_10_method_22_code, 6, (some .boolean))
abbrev mt_Md_isName : Mt := (⟨"LateSeekersModel", "isName", "(IIIII)Z"⟩, prog_10_method_19_code, 6, (some .boolean))
abbrev mt_Md_isSame : Mt := (⟨"LateSeekersModel", "isSame", "(IIII)Z"⟩, prog_10_method_20_code, 5, (some .boolean))
abbrev mt_Md_isFour : Mt := (⟨"LateSeekersModel", "isFour", "(IIII)Z"⟩, prog_10_method_21_code, 5, (some .boolean))
abbrev mt_Md_lawHere : Mt := (⟨"LateSeekersModel", "lawHere", "()I"⟩, prog_10_method_29_code, 1, (some .int))
abbrev mt_Md_personHere : Mt := (⟨"LateSeekersModel", "personHere", "(I)V"⟩, prog_10_method_27_code, 3, none)
abbrev mt_Md_needs : Mt := (⟨"LateSeekersModel", "needs", "(Z)V"⟩, prog_10_method_18_code, 2, none)
abbrev mt_Md_isTwo : Mt := (⟨"LateSeekersModel", "isTwo", "(II)Z"⟩, prog_10_method_26_code, 3, (some .boolean))
abbrev mt_Md_numberTo : Mt := (⟨"LateSeekersModel", "numberTo", "(II)V"⟩, prog_10_method_24_code, 4, none)
abbrev mt_Md_perhaps : Mt := (⟨"LateSeekersModel", "perhaps", "(ZII)V"⟩, prog_10_method_25_code, 4, none)
abbrev mt_Md_coverHere : Mt := (⟨"LateSeekersModel", "coverHere", "()V"⟩, prog_10_method_28_code, 2, none)
abbrev mt_Md_set : Mt := (⟨"LateSeekersModel", "set", "(II)I"⟩, prog_10_method_33_code, 3, (some .int))
abbrev mt_Md_mostOf : Mt := (⟨"LateSeekersModel", "mostOf", "(I)I"⟩, prog_10_method_32_code, 1, (some .int))
abbrev mt_Md_becomes : Mt := (⟨"LateSeekersModel", "becomes", "(II)I"⟩, prog_10_method_7_code, 4, (some .int))
abbrev mt_Md_lawOf : Mt := (⟨"LateSeekersModel", "lawOf", "(I)I"⟩, prog_10_method_34_code, 2, (some .int))
abbrev mt_Md_person : Mt := (⟨"LateSeekersModel", "person", "(IIIII)I"⟩, prog_10_method_35_code, 7, (some .int))
abbrev mt_Md_isPlace : Mt := (⟨"LateSeekersModel", "isPlace", "(I)Z"⟩, prog_10_method_4_code, 1, (some .boolean))
abbrev mt_Md_of : Mt := (⟨"LateSeekersModel", "of", "(II)I"⟩, prog_10_method_39_code, 3, (some .int))
abbrev mt_Md_isOne : Mt := (⟨"LateSeekersModel", "isOne", "(I)Z"⟩, prog_10_method_5_code, 2, (some .boolean))
abbrev mt_Md_its : Mt := (⟨"LateSeekersModel", "its", "(II)I"⟩, prog_10_method_6_code, 3, (some .int))
abbrev mt_Md_does : Mt := (⟨"LateSeekersModel", "does", "(II)I"⟩, prog_10_method_40_code, 3, (some .int))
abbrev mt_Md_hides : Mt := (⟨"LateSeekersModel", "hides", "(I)I"⟩, prog_10_method_36_code, 3, (some .int))
abbrev mt_Md_sees : Mt := (⟨"LateSeekersModel", "sees", "(I)I"⟩, prog_10_method_37_code, 3, (some .int))
abbrev mt_Md_strides : Mt := (⟨"LateSeekersModel", "strides", "(I)I"⟩, prog_10_method_38_code, 2, (some .int))
abbrev mt_Md_mind : Mt := (⟨"LateSeekersModel", "mind", "(III)I"⟩, prog_10_method_41_code, 4, (some .int))
abbrev mt_Md_age : Mt := (⟨"LateSeekersModel", "age", "(II)I"⟩, prog_10_method_42_code, 3, (some .int))
abbrev mt_Md_bring : Mt := (⟨"LateSeekersModel", "bring", "(II)I"⟩, prog_10_method_43_code, 3, (some .int))
abbrev mt_Md_seek : Mt := (⟨"LateSeekersModel", "seek", "(II)I"⟩, prog_10_method_44_code, 3, (some .int))
abbrev mt_Md_place : Mt := (⟨"LateSeekersModel", "place", "(II)I"⟩, prog_10_method_47_code, 3, (some .int))
abbrev mt_Md_thoseAt : Mt := (⟨"LateSeekersModel", "thoseAt", "(I)I"⟩, prog_10_method_45_code, 4, (some .int))
abbrev mt_Md_hiddenOnes : Mt := (⟨"LateSeekersModel", "hiddenOnes", "()I"⟩, prog_10_method_46_code, 3, (some .int))
abbrev mt_Md_size : Mt := (⟨"LateSeekersModel", "size", "(I)I"⟩, prog_10_method_11_code, 3, (some .int))
abbrev mt_Md_cover : Mt := (⟨"LateSeekersModel", "cover", "(II)I"⟩, prog_10_method_48_code, 3, (some .int))
abbrev mt_Md_years : Mt := (⟨"LateSeekersModel", "years", "(I)I"⟩, prog_10_method_52_code, 2, (some .int))
abbrev mt_Md_goes : Mt := (⟨"LateSeekersModel", "goes", "(I)V"⟩, prog_10_method_51_code, 3, none)
abbrev mt_Md_goesBy : Mt := (⟨"LateSeekersModel", "goesBy", "(I)V"⟩, prog_10_method_50_code, 4, none)
abbrev mt_Md_least : Mt := (⟨"LateSeekersModel", "least", "(II)I"⟩, prog_10_method_9_code, 2, (some .int))
abbrev mt_Md_seeks : Mt := (⟨"LateSeekersModel", "seeks", "(IZ)V"⟩, prog_10_method_49_code, 4, none)
abbrev mt_Md_seed : Mt := (⟨"LateSeekersModel", "seed", "(I)I"⟩, prog_10_method_53_code, 2, (some .int))
abbrev mt_Md_year : Mt := (⟨"LateSeekersModel", "year", "()I"⟩, prog_10_method_55_code, 2, (some .int))
abbrev mt_Md_drawn : Mt := (⟨"LateSeekersModel", "drawn", "()I"⟩, prog_10_method_54_code, 1, (some .int))
abbrev mt_Md_nights : Mt := (⟨"LateSeekersModel", "nights", "(I)I"⟩, prog_10_method_56_code, 6, (some .int))
abbrev mt_Md_state : Mt := (⟨"LateSeekersModel", "state", "(I)I"⟩, prog_10_method_60_code, 2, (some .int))
abbrev mt_Md_sumOf : Mt := (⟨"LateSeekersModel", "sumOf", "(I)I"⟩, prog_10_method_57_code, 4, (some .int))
abbrev mt_Md_hidingPlaces : Mt := (⟨"LateSeekersModel", "hidingPlaces", "()I"⟩, prog_10_method_58_code, 3, (some .int))
abbrev mt_Md_coverOfAll : Mt := (⟨"LateSeekersModel", "coverOfAll", "()I"⟩, prog_10_method_59_code, 3, (some .int))
abbrev mt_Md_where : Mt := (⟨"LateSeekersModel", "where", "(II)I"⟩, prog_10_method_61_code, 4, (some .int))
abbrev mt_Md_shown : Mt := (⟨"LateSeekersModel", "shown", "(I)I"⟩, prog_10_method_63_code, 3, (some .int))
abbrev mt_Md_shownBy : Mt := (⟨"LateSeekersModel", "shownBy", "(II)I"⟩, prog_10_method_62_code, 4, (some .int))
abbrev mt_Md_all : Mt := (⟨"LateSeekersModel", "all", "()I"⟩, prog_10_method_64_code, 2, (some .int))
abbrev mt_Md_finder : Mt := (⟨"LateSeekersModel", "finder", "(I)I"⟩, prog_10_method_65_code, 3, (some .int))
abbrev mt_Md_safeFor : Mt := (⟨"LateSeekersModel", "safeFor", "(I)I"⟩, prog_10_method_66_code, 9, (some .int))
abbrev mt_Md_kindFor : Mt := (⟨"LateSeekersModel", "kindFor", "(I)I"⟩, prog_10_method_67_code, 8, (some .int))
abbrev mt_Md_witFor : Mt := (⟨"LateSeekersModel", "witFor", "(II)I"⟩, prog_10_method_70_code, 7, (some .int))
abbrev mt_Md_isShort : Mt := (⟨"LateSeekersModel", "isShort", "(I)Z"⟩, prog_10_method_68_code, 1, (some .boolean))
abbrev mt_Md_isHiddenBy : Mt := (⟨"LateSeekersModel", "isHiddenBy", "(III)Z"⟩, prog_10_method_69_code, 5, (some .boolean))
abbrev mt_Md_needed : Mt := (⟨"LateSeekersModel", "needed", "(I)I"⟩, prog_10_method_71_code, 6, (some .int))
abbrev mt_Md_fewest : Mt := (⟨"LateSeekersModel", "fewest", "(II)I"⟩, prog_10_method_72_code, 5, (some .int))
abbrev mt_Md_round : Mt := (⟨"LateSeekersModel", "round", "(I)I"⟩, prog_10_method_73_code, 8, (some .int))
abbrev mt_Md_fits : Mt := (⟨"LateSeekersModel", "fits", "(III)I"⟩, prog_10_method_77_code, 10, (some .int))
abbrev mt_Md_isSheet : Mt := (⟨"LateSeekersModel", "isSheet", "(I)Z"⟩, prog_10_method_85_code, 1, (some .boolean))
abbrev mt_Md_isTold : Mt := (⟨"LateSeekersModel", "isTold", "(II)Z"⟩, prog_10_method_76_code, 5, (some .boolean))
abbrev mt_Md_odds : Mt := (⟨"LateSeekersModel", "odds", "(III)J"⟩, prog_10_method_78_code, 9, (some .long))
abbrev mt_Md_product : Mt := (⟨"LateSeekersModel", "product", "(I)J"⟩, prog_10_method_74_code, 4, (some .long))
abbrev mt_Md_partOf : Mt := (⟨"LateSeekersModel", "partOf", "(JJI)J"⟩, prog_10_method_75_code, 11, (some .long))
abbrev mt_Md_hope : Mt := (⟨"LateSeekersModel", "hope", "(II)J"⟩, prog_10_method_79_code, 3, (some .long))
abbrev mt_Md_prove : Mt := (⟨"LateSeekersModel", "prove", "(II)I"⟩, prog_10_method_80_code, 4, (some .int))
abbrev mt_Md_row : Mt := (⟨"LateSeekersModel", "row", "(II)I"⟩, prog_10_method_82_code, 3, (some .int))
abbrev mt_Md_isRow : Mt := (⟨"LateSeekersModel", "isRow", "(II)Z"⟩, prog_10_method_81_code, 3, (some .boolean))
abbrev mt_Md_alterRow : Mt := (⟨"LateSeekersModel", "alterRow", "(III)I"⟩, prog_10_method_83_code, 5, (some .int))
abbrev mt_Md_judge : Mt := (⟨"LateSeekersModel", "judge", "(I)I"⟩, prog_10_method_84_code, 4, (some .int))
abbrev mt_Md_sheet : Mt := (⟨"LateSeekersModel", "sheet", "(III)I"⟩, prog_10_method_87_code, 5, (some .int))
abbrev mt_Md_put : Mt := (⟨"LateSeekersModel", "put", "(III)I"⟩, prog_10_method_88_code, 4, (some .int))
abbrev mt_Md_item : Mt := (⟨"LateSeekersModel", "item", "(III)I"⟩, prog_10_method_90_code, 4, (some .int))
abbrev mt_Md_lacks : Mt := (⟨"LateSeekersModel", "lacks", "(II)I"⟩, prog_10_method_89_code, 3, (some .int))
abbrev mt_Md_minds : Mt := (⟨"LateSeekersModel", "minds", "(IIII)I"⟩, prog_10_method_91_code, 6, (some .int))
abbrev mt_Md_within : Mt := (⟨"LateSeekersModel", "within", "(I)I"⟩, prog_10_method_10_code, 1, (some .int))
abbrev mt_Md_shelf : Mt := (⟨"LateSeekersModel", "shelf", "(III)I"⟩, prog_10_method_92_code, 5, (some .int))
abbrev mt_Md_isShelf : Mt := (⟨"LateSeekersModel", "isShelf", "(I)Z"⟩, prog_10_method_86_code, 1, (some .boolean))
abbrev mt_Md_taken : Mt := (⟨"LateSeekersModel", "taken", "(II)I"⟩, prog_10_method_94_code, 4, (some .int))
abbrev mt_Md_heldOn : Mt := (⟨"LateSeekersModel", "heldOn", "(I)I"⟩, prog_10_method_93_code, 2, (some .int))
abbrev mt_Md_isUnder : Mt := (⟨"LateSeekersModel", "isUnder", "(II)Z"⟩, prog_10_method_12_code, 2, (some .boolean))
abbrev mt_Md_act : Mt := (⟨"LateSeekersModel", "act", "(III)I"⟩, prog_10_method_105_code, 5, (some .int))
abbrev mt_Md_counts : Mt := (⟨"LateSeekersModel", "counts", "(I)I"⟩, prog_10_method_98_code, 2, (some .int))
abbrev mt_Md_countsOfKeeper : Mt := (⟨"LateSeekersModel", "countsOfKeeper", "(I)I"⟩, prog_10_method_97_code, 2, (some .int))
abbrev mt_Md_runs : Mt := (⟨"LateSeekersModel", "runs", "(I)V"⟩, prog_10_method_95_code, 2, none)
abbrev mt_Md_countsPlain : Mt := (⟨"LateSeekersModel", "countsPlain", "(I)I"⟩, prog_10_method_96_code, 2, (some .int))
abbrev mt_Md_calls : Mt := (⟨"LateSeekersModel", "calls", "(I)I"⟩, prog_10_method_100_code, 3, (some .int))
abbrev mt_Md_callsPlain : Mt := (⟨"LateSeekersModel", "callsPlain", "(I)I"⟩, prog_10_method_99_code, 2, (some .int))
abbrev mt_Md_parts : Mt := (⟨"LateSeekersModel", "parts", "(I)I"⟩, prog_10_method_102_code, 3, (some .int))
abbrev mt_Md_partsPlain : Mt := (⟨"LateSeekersModel", "partsPlain", "(I)I"⟩, prog_10_method_101_code, 2, (some .int))
abbrev mt_Md_looks : Mt := (⟨"LateSeekersModel", "looks", "(I)I"⟩, prog_10_method_104_code, 3, (some .int))
abbrev mt_Md_looksPlain : Mt := (⟨"LateSeekersModel", "looksPlain", "(I)I"⟩, prog_10_method_103_code, 2, (some .int))
abbrev mt_Md_trace : Mt := (⟨"LateSeekersModel", "trace", "(I)I"⟩, prog_10_method_106_code, 2, (some .int))
abbrev mt_Md_many : Mt := (⟨"LateSeekersModel", "many", "(I)I"⟩, prog_10_method_108_code, 2, (some .int))
abbrev mt_Md_crowded : Mt := (⟨"LateSeekersModel", "crowded", "()I"⟩, prog_10_method_107_code, 3, (some .int))
abbrev mt_Md_keep : Mt := (⟨"LateSeekersModel", "keep", "()I"⟩, prog_10_method_109_code, 2, (some .int))
abbrev mt_Md_again : Mt := (⟨"LateSeekersModel", "again", "()I"⟩, prog_10_method_110_code, 2, (some .int))
set_option maxRecDepth 20000 in
theorem fv_Pk_becomeAsAtFirst : Cond.instanceMethod mt_Pk_becomeAsAtFirst.1 ∈ tb ∧ Cond.selects mt_Pk_becomeAsAtFirst.1.cls mt_Pk_becomeAsAtFirst.1 mt_Pk_becomeAsAtFirst.1 ∈ tb ∧ Cond.initialized mt_Pk_becomeAsAtFirst.1.cls ∈ tb ∧ Cond.code mt_Pk_becomeAsAtFirst.1 mt_Pk_becomeAsAtFirst.2.1 mt_Pk_becomeAsAtFirst.2.2.1 mt_Pk_becomeAsAtFirst.2.2.2 ∈ tb := ⟨tb_mem 106 rfl rfl, tb_mem 107 rfl rfl, tb_mem 71 rfl rfl, tb_mem 108 rfl rfl⟩
set_option maxRecDepth 20000 in
theorem fv_LS_feed : Cond.instanceMethod mt_LS_feed.1 ∈ tb ∧ Cond.selects mt_LS_feed.1.cls mt_LS_feed.1 mt_LS_feed.1 ∈ tb ∧ Cond.initialized mt_LS_feed.1.cls ∈ tb ∧ Cond.code mt_LS_feed.1 mt_LS_feed.2.1 mt_LS_feed.2.2.1 mt_LS_feed.2.2.2 ∈ tb := ⟨tb_mem 321 rfl rfl, tb_mem 322 rfl rfl, tb_mem 69 rfl rfl, tb_mem 323 rfl rfl⟩
set_option maxRecDepth 20000 in
theorem fs_LS_within : Cond.static mt_LS_within.1 ∈ tb ∧ Cond.initialized mt_LS_within.1.cls ∈ tb ∧ Cond.code mt_LS_within.1 mt_LS_within.2.1 mt_LS_within.2.2.1 mt_LS_within.2.2.2 ∈ tb := ⟨tb_mem 325 rfl rfl, tb_mem 69 rfl rfl, tb_mem 326 rfl rfl⟩
set_option maxRecDepth 20000 in
theorem fv_Tp_append : Cond.instanceMethod mt_Tp_append.1 ∈ tb ∧ Cond.selects mt_Tp_append.1.cls mt_Tp_append.1 mt_Tp_append.1 ∈ tb ∧ Cond.initialized mt_Tp_append.1.cls ∈ tb ∧ Cond.code mt_Tp_append.1 mt_Tp_append.2.1 mt_Tp_append.2.2.1 mt_Tp_append.2.2.2 ∈ tb := ⟨tb_mem 328 rfl rfl, tb_mem 329 rfl rfl, tb_mem 72 rfl rfl, tb_mem 330 rfl rfl⟩
set_option maxRecDepth 20000 in
theorem fv_LS_park : Cond.instanceMethod mt_LS_park.1 ∈ tb ∧ Cond.selects mt_LS_park.1.cls mt_LS_park.1 mt_LS_park.1 ∈ tb ∧ Cond.initialized mt_LS_park.1.cls ∈ tb ∧ Cond.code mt_LS_park.1 mt_LS_park.2.1 mt_LS_park.2.2.1 mt_LS_park.2.2.2 ∈ tb := ⟨tb_mem 332 rfl rfl, tb_mem 333 rfl rfl, tb_mem 69 rfl rfl, tb_mem 334 rfl rfl⟩
set_option maxRecDepth 20000 in
theorem fv_Tp_readInto : Cond.instanceMethod mt_Tp_readInto.1 ∈ tb ∧ Cond.selects mt_Tp_readInto.1.cls mt_Tp_readInto.1 mt_Tp_readInto.1 ∈ tb ∧ Cond.initialized mt_Tp_readInto.1.cls ∈ tb ∧ Cond.code mt_Tp_readInto.1 mt_Tp_readInto.2.1 mt_Tp_readInto.2.2.1 mt_Tp_readInto.2.2.2 ∈ tb := ⟨tb_mem 337 rfl rfl, tb_mem 338 rfl rfl, tb_mem 72 rfl rfl, tb_mem 339 rfl rfl⟩
set_option maxRecDepth 20000 in
theorem fv_Tp_advance : Cond.instanceMethod mt_Tp_advance.1 ∈ tb ∧ Cond.selects mt_Tp_advance.1.cls mt_Tp_advance.1 mt_Tp_advance.1 ∈ tb ∧ Cond.initialized mt_Tp_advance.1.cls ∈ tb ∧ Cond.code mt_Tp_advance.1 mt_Tp_advance.2.1 mt_Tp_advance.2.2.1 mt_Tp_advance.2.2.2 ∈ tb := ⟨tb_mem 342 rfl rfl, tb_mem 0 rfl rfl, tb_mem 72 rfl rfl, tb_mem 343 rfl rfl⟩
set_option maxRecDepth 20000 in
theorem fv_Tp_sortAt : Cond.instanceMethod mt_Tp_sortAt.1 ∈ tb ∧ Cond.selects mt_Tp_sortAt.1.cls mt_Tp_sortAt.1 mt_Tp_sortAt.1 ∈ tb ∧ Cond.initialized mt_Tp_sortAt.1.cls ∈ tb ∧ Cond.code mt_Tp_sortAt.1 mt_Tp_sortAt.2.1 mt_Tp_sortAt.2.2.1 mt_Tp_sortAt.2.2.2 ∈ tb := ⟨tb_mem 346 rfl rfl, tb_mem 1 rfl rfl, tb_mem 72 rfl rfl, tb_mem 347 rfl rfl⟩
set_option maxRecDepth 20000 in
theorem fv_Tp_readStatement : Cond.instanceMethod mt_Tp_readStatement.1 ∈ tb ∧ Cond.selects mt_Tp_readStatement.1.cls mt_Tp_readStatement.1 mt_Tp_readStatement.1 ∈ tb ∧ Cond.initialized mt_Tp_readStatement.1.cls ∈ tb ∧ Cond.code mt_Tp_readStatement.1 mt_Tp_readStatement.2.1 mt_Tp_readStatement.2.2.1 mt_Tp_readStatement.2.2.2 ∈ tb := ⟨tb_mem 350 rfl rfl, tb_mem 2 rfl rfl, tb_mem 72 rfl rfl, tb_mem 351 rfl rfl⟩
set_option maxRecDepth 20000 in
theorem fs_Tp_kindName : Cond.static mt_Tp_kindName.1 ∈ tb ∧ Cond.initialized mt_Tp_kindName.1.cls ∈ tb ∧ Cond.code mt_Tp_kindName.1 mt_Tp_kindName.2.1 mt_Tp_kindName.2.2.1 mt_Tp_kindName.2.2.2 ∈ tb := ⟨tb_mem 353 rfl rfl, tb_mem 72 rfl rfl, tb_mem 354 rfl rfl⟩
set_option maxRecDepth 20000 in
theorem fv_Tp_isNext : Cond.instanceMethod mt_Tp_isNext.1 ∈ tb ∧ Cond.selects mt_Tp_isNext.1.cls mt_Tp_isNext.1 mt_Tp_isNext.1 ∈ tb ∧ Cond.initialized mt_Tp_isNext.1.cls ∈ tb ∧ Cond.code mt_Tp_isNext.1 mt_Tp_isNext.2.1 mt_Tp_isNext.2.2.1 mt_Tp_isNext.2.2.2 ∈ tb := ⟨tb_mem 363 rfl rfl, tb_mem 3 rfl rfl, tb_mem 72 rfl rfl, tb_mem 364 rfl rfl⟩
set_option maxRecDepth 20000 in
theorem fv_Str_length : Cond.instanceMethod mt_Str_length.1 ∈ tb ∧ Cond.selects mt_Str_length.1.cls mt_Str_length.1 mt_Str_length.1 ∈ tb ∧ Cond.initialized mt_Str_length.1.cls ∈ tb ∧ Cond.code mt_Str_length.1 mt_Str_length.2.1 mt_Str_length.2.2.1 mt_Str_length.2.2.2 ∈ tb := ⟨tb_mem 366 rfl rfl, tb_mem 367 rfl rfl, tb_mem 78 rfl rfl, tb_mem 368 rfl rfl⟩
set_option maxRecDepth 20000 in
theorem fv_Str_coder : Cond.instanceMethod mt_Str_coder.1 ∈ tb ∧ Cond.selects mt_Str_coder.1.cls mt_Str_coder.1 mt_Str_coder.1 ∈ tb ∧ Cond.initialized mt_Str_coder.1.cls ∈ tb ∧ Cond.code mt_Str_coder.1 mt_Str_coder.2.1 mt_Str_coder.2.2.1 mt_Str_coder.2.2.2 ∈ tb := ⟨tb_mem 370 rfl rfl, tb_mem 371 rfl rfl, tb_mem 78 rfl rfl, tb_mem 372 rfl rfl⟩
set_option maxRecDepth 20000 in
theorem fv_Str_charAt : Cond.instanceMethod mt_Str_charAt.1 ∈ tb ∧ Cond.selects mt_Str_charAt.1.cls mt_Str_charAt.1 mt_Str_charAt.1 ∈ tb ∧ Cond.initialized mt_Str_charAt.1.cls ∈ tb ∧ Cond.code mt_Str_charAt.1 mt_Str_charAt.2.1 mt_Str_charAt.2.2.1 mt_Str_charAt.2.2.2 ∈ tb := ⟨tb_mem 376 rfl rfl, tb_mem 377 rfl rfl, tb_mem 78 rfl rfl, tb_mem 378 rfl rfl⟩
set_option maxRecDepth 20000 in
theorem fv_Str_isLatin1 : Cond.instanceMethod mt_Str_isLatin1.1 ∈ tb ∧ Cond.selects mt_Str_isLatin1.1.cls mt_Str_isLatin1.1 mt_Str_isLatin1.1 ∈ tb ∧ Cond.initialized mt_Str_isLatin1.1.cls ∈ tb ∧ Cond.code mt_Str_isLatin1.1 mt_Str_isLatin1.2.1 mt_Str_isLatin1.2.2.1 mt_Str_isLatin1.2.2.2 ∈ tb := ⟨tb_mem 380 rfl rfl, tb_mem 381 rfl rfl, tb_mem 78 rfl rfl, tb_mem 382 rfl rfl⟩
set_option maxRecDepth 20000 in
theorem fs_Lat_charAt : Cond.static mt_Lat_charAt.1 ∈ tb ∧ Cond.initialized mt_Lat_charAt.1.cls ∈ tb ∧ Cond.code mt_Lat_charAt.1 mt_Lat_charAt.2.1 mt_Lat_charAt.2.2.1 mt_Lat_charAt.2.2.2 ∈ tb := ⟨tb_mem 384 rfl rfl, tb_mem 79 rfl rfl, tb_mem 385 rfl rfl⟩
set_option maxRecDepth 20000 in
theorem fs_Str_checkIndex : Cond.static mt_Str_checkIndex.1 ∈ tb ∧ Cond.initialized mt_Str_checkIndex.1.cls ∈ tb ∧ Cond.code mt_Str_checkIndex.1 mt_Str_checkIndex.2.1 mt_Str_checkIndex.2.2.1 mt_Str_checkIndex.2.2.2 ∈ tb := ⟨tb_mem 387 rfl rfl, tb_mem 78 rfl rfl, tb_mem 388 rfl rfl⟩
set_option maxRecDepth 20000 in
theorem fs_Pre_checkIndex : Cond.static mt_Pre_checkIndex.1 ∈ tb ∧ Cond.initialized mt_Pre_checkIndex.1.cls ∈ tb ∧ Cond.code mt_Pre_checkIndex.1 mt_Pre_checkIndex.2.1 mt_Pre_checkIndex.2.2.1 mt_Pre_checkIndex.2.2.2 ∈ tb := ⟨tb_mem 392 rfl rfl, tb_mem 80 rfl rfl, tb_mem 393 rfl rfl⟩
set_option maxRecDepth 20000 in
theorem fs_Utf_charAt : Cond.static mt_Utf_charAt.1 ∈ tb ∧ Cond.initialized mt_Utf_charAt.1.cls ∈ tb ∧ Cond.code mt_Utf_charAt.1 mt_Utf_charAt.2.1 mt_Utf_charAt.2.2.1 mt_Utf_charAt.2.2.2 ∈ tb := ⟨tb_mem 395 rfl rfl, tb_mem 81 rfl rfl, tb_mem 396 rfl rfl⟩
set_option maxRecDepth 20000 in
theorem fs_Utf_checkIndex : Cond.static mt_Utf_checkIndex.1 ∈ tb ∧ Cond.initialized mt_Utf_checkIndex.1.cls ∈ tb ∧ Cond.code mt_Utf_checkIndex.1 mt_Utf_checkIndex.2.1 mt_Utf_checkIndex.2.2.1 mt_Utf_checkIndex.2.2.2 ∈ tb := ⟨tb_mem 398 rfl rfl, tb_mem 81 rfl rfl, tb_mem 399 rfl rfl⟩
set_option maxRecDepth 20000 in
theorem fs_Utf_length : Cond.static mt_Utf_length.1 ∈ tb ∧ Cond.initialized mt_Utf_length.1.cls ∈ tb ∧ Cond.code mt_Utf_length.1 mt_Utf_length.2.1 mt_Utf_length.2.2.1 mt_Utf_length.2.2.2 ∈ tb := ⟨tb_mem 401 rfl rfl, tb_mem 81 rfl rfl, tb_mem 402 rfl rfl⟩
set_option maxRecDepth 20000 in
theorem fs_Utf_getChar : Cond.static mt_Utf_getChar.1 ∈ tb ∧ Cond.initialized mt_Utf_getChar.1.cls ∈ tb ∧ Cond.code mt_Utf_getChar.1 mt_Utf_getChar.2.1 mt_Utf_getChar.2.2.1 mt_Utf_getChar.2.2.2 ∈ tb := ⟨tb_mem 405 rfl rfl, tb_mem 81 rfl rfl, tb_mem 406 rfl rfl⟩
set_option maxRecDepth 20000 in
theorem fv_Tp_readPerson : Cond.instanceMethod mt_Tp_readPerson.1 ∈ tb ∧ Cond.selects mt_Tp_readPerson.1.cls mt_Tp_readPerson.1 mt_Tp_readPerson.1 ∈ tb ∧ Cond.initialized mt_Tp_readPerson.1.cls ∈ tb ∧ Cond.code mt_Tp_readPerson.1 mt_Tp_readPerson.2.1 mt_Tp_readPerson.2.2.1 mt_Tp_readPerson.2.2.2 ∈ tb := ⟨tb_mem 415 rfl rfl, tb_mem 4 rfl rfl, tb_mem 72 rfl rfl, tb_mem 416 rfl rfl⟩
set_option maxRecDepth 20000 in
theorem fv_Tp_fail : Cond.instanceMethod mt_Tp_fail.1 ∈ tb ∧ Cond.selects mt_Tp_fail.1.cls mt_Tp_fail.1 mt_Tp_fail.1 ∈ tb ∧ Cond.initialized mt_Tp_fail.1.cls ∈ tb ∧ Cond.code mt_Tp_fail.1 mt_Tp_fail.2.1 mt_Tp_fail.2.2.1 mt_Tp_fail.2.2.2 ∈ tb := ⟨tb_mem 419 rfl rfl, tb_mem 5 rfl rfl, tb_mem 72 rfl rfl, tb_mem 420 rfl rfl⟩
set_option maxRecDepth 20000 in
theorem fv_Tp_takeName : Cond.instanceMethod mt_Tp_takeName.1 ∈ tb ∧ Cond.selects mt_Tp_takeName.1.cls mt_Tp_takeName.1 mt_Tp_takeName.1 ∈ tb ∧ Cond.initialized mt_Tp_takeName.1.cls ∈ tb ∧ Cond.code mt_Tp_takeName.1 mt_Tp_takeName.2.1 mt_Tp_takeName.2.2.1 mt_Tp_takeName.2.2.2 ∈ tb := ⟨tb_mem 424 rfl rfl, tb_mem 6 rfl rfl, tb_mem 72 rfl rfl, tb_mem 425 rfl rfl⟩
set_option maxRecDepth 20000 in
theorem fv_Tp_takeNumber : Cond.instanceMethod mt_Tp_takeNumber.1 ∈ tb ∧ Cond.selects mt_Tp_takeNumber.1.cls mt_Tp_takeNumber.1 mt_Tp_takeNumber.1 ∈ tb ∧ Cond.initialized mt_Tp_takeNumber.1.cls ∈ tb ∧ Cond.code mt_Tp_takeNumber.1 mt_Tp_takeNumber.2.1 mt_Tp_takeNumber.2.2.1 mt_Tp_takeNumber.2.2.2 ∈ tb := ⟨tb_mem 428 rfl rfl, tb_mem 7 rfl rfl, tb_mem 72 rfl rfl, tb_mem 429 rfl rfl⟩
set_option maxRecDepth 20000 in
theorem fv_Tp_takeNumberIfNamed : Cond.instanceMethod mt_Tp_takeNumberIfNamed.1 ∈ tb ∧ Cond.selects mt_Tp_takeNumberIfNamed.1.cls mt_Tp_takeNumberIfNamed.1 mt_Tp_takeNumberIfNamed.1 ∈ tb ∧ Cond.initialized mt_Tp_takeNumberIfNamed.1.cls ∈ tb ∧ Cond.code mt_Tp_takeNumberIfNamed.1 mt_Tp_takeNumberIfNamed.2.1 mt_Tp_takeNumberIfNamed.2.2.1 mt_Tp_takeNumberIfNamed.2.2.2 ∈ tb := ⟨tb_mem 433 rfl rfl, tb_mem 8 rfl rfl, tb_mem 72 rfl rfl, tb_mem 434 rfl rfl⟩
set_option maxRecDepth 20000 in
theorem fv_Tp_takeSemicolon : Cond.instanceMethod mt_Tp_takeSemicolon.1 ∈ tb ∧ Cond.selects mt_Tp_takeSemicolon.1.cls mt_Tp_takeSemicolon.1 mt_Tp_takeSemicolon.1 ∈ tb ∧ Cond.initialized mt_Tp_takeSemicolon.1.cls ∈ tb ∧ Cond.code mt_Tp_takeSemicolon.1 mt_Tp_takeSemicolon.2.1 mt_Tp_takeSemicolon.2.2.1 mt_Tp_takeSemicolon.2.2.2 ∈ tb := ⟨tb_mem 439 rfl rfl, tb_mem 9 rfl rfl, tb_mem 72 rfl rfl, tb_mem 440 rfl rfl⟩
set_option maxRecDepth 20000 in
theorem fv_Pk_adm : Cond.instanceMethod mt_Pk_adm.1 ∈ tb ∧ Cond.selects mt_Pk_adm.1.cls mt_Pk_adm.1 mt_Pk_adm.1 ∈ tb ∧ Cond.initialized mt_Pk_adm.1.cls ∈ tb ∧ Cond.code mt_Pk_adm.1 mt_Pk_adm.2.1 mt_Pk_adm.2.2.1 mt_Pk_adm.2.2.2 ∈ tb := ⟨tb_mem 442 rfl rfl, tb_mem 443 rfl rfl, tb_mem 71 rfl rfl, tb_mem 444 rfl rfl⟩
set_option maxRecDepth 20000 in
theorem fv_Pk_hide : Cond.instanceMethod mt_Pk_hide.1 ∈ tb ∧ Cond.selects mt_Pk_hide.1.cls mt_Pk_hide.1 mt_Pk_hide.1 ∈ tb ∧ Cond.initialized mt_Pk_hide.1.cls ∈ tb ∧ Cond.code mt_Pk_hide.1 mt_Pk_hide.2.1 mt_Pk_hide.2.2.1 mt_Pk_hide.2.2.2 ∈ tb := ⟨tb_mem 446 rfl rfl, tb_mem 447 rfl rfl, tb_mem 71 rfl rfl, tb_mem 448 rfl rfl⟩
set_option maxRecDepth 20000 in
theorem fs_Tp_lawName : Cond.static mt_Tp_lawName.1 ∈ tb ∧ Cond.initialized mt_Tp_lawName.1.cls ∈ tb ∧ Cond.code mt_Tp_lawName.1 mt_Tp_lawName.2.1 mt_Tp_lawName.2.2.1 mt_Tp_lawName.2.2.2 ∈ tb := ⟨tb_mem 450 rfl rfl, tb_mem 72 rfl rfl, tb_mem 451 rfl rfl⟩
set_option maxRecDepth 20000 in
theorem fv_Tp_readLaw : Cond.instanceMethod mt_Tp_readLaw.1 ∈ tb ∧ Cond.selects mt_Tp_readLaw.1.cls mt_Tp_readLaw.1 mt_Tp_readLaw.1 ∈ tb ∧ Cond.initialized mt_Tp_readLaw.1.cls ∈ tb ∧ Cond.code mt_Tp_readLaw.1 mt_Tp_readLaw.2.1 mt_Tp_readLaw.2.2.1 mt_Tp_readLaw.2.2.2 ∈ tb := ⟨tb_mem 458 rfl rfl, tb_mem 10 rfl rfl, tb_mem 72 rfl rfl, tb_mem 459 rfl rfl⟩
set_option maxRecDepth 20000 in
theorem fv_Tp_readCover : Cond.instanceMethod mt_Tp_readCover.1 ∈ tb ∧ Cond.selects mt_Tp_readCover.1.cls mt_Tp_readCover.1 mt_Tp_readCover.1 ∈ tb ∧ Cond.initialized mt_Tp_readCover.1.cls ∈ tb ∧ Cond.code mt_Tp_readCover.1 mt_Tp_readCover.2.1 mt_Tp_readCover.2.2.1 mt_Tp_readCover.2.2.2 ∈ tb := ⟨tb_mem 464 rfl rfl, tb_mem 11 rfl rfl, tb_mem 72 rfl rfl, tb_mem 465 rfl rfl⟩
set_option maxRecDepth 20000 in
theorem fv_Pk_become : Cond.instanceMethod mt_Pk_become.1 ∈ tb ∧ Cond.selects mt_Pk_become.1.cls mt_Pk_become.1 mt_Pk_become.1 ∈ tb ∧ Cond.initialized mt_Pk_become.1.cls ∈ tb ∧ Cond.code mt_Pk_become.1 mt_Pk_become.2.1 mt_Pk_become.2.2.1 mt_Pk_become.2.2.2 ∈ tb := ⟨tb_mem 469 rfl rfl, tb_mem 470 rfl rfl, tb_mem 71 rfl rfl, tb_mem 471 rfl rfl⟩
set_option maxRecDepth 20000 in
theorem fv_LS_set : Cond.instanceMethod mt_LS_set.1 ∈ tb ∧ Cond.selects mt_LS_set.1.cls mt_LS_set.1 mt_LS_set.1 ∈ tb ∧ Cond.initialized mt_LS_set.1.cls ∈ tb ∧ Cond.code mt_LS_set.1 mt_LS_set.2.1 mt_LS_set.2.2.1 mt_LS_set.2.2.2 ∈ tb := ⟨tb_mem 476 rfl rfl, tb_mem 477 rfl rfl, tb_mem 69 rfl rfl, tb_mem 478 rfl rfl⟩
set_option maxRecDepth 20000 in
theorem fs_LS_isLaw : Cond.static mt_LS_isLaw.1 ∈ tb ∧ Cond.initialized mt_LS_isLaw.1.cls ∈ tb ∧ Cond.code mt_LS_isLaw.1 mt_LS_isLaw.2.1 mt_LS_isLaw.2.2.1 mt_LS_isLaw.2.2.2 ∈ tb := ⟨tb_mem 480 rfl rfl, tb_mem 69 rfl rfl, tb_mem 481 rfl rfl⟩
set_option maxRecDepth 20000 in
theorem fv_LS_lawOf : Cond.instanceMethod mt_LS_lawOf.1 ∈ tb ∧ Cond.selects mt_LS_lawOf.1.cls mt_LS_lawOf.1 mt_LS_lawOf.1 ∈ tb ∧ Cond.initialized mt_LS_lawOf.1.cls ∈ tb ∧ Cond.code mt_LS_lawOf.1 mt_LS_lawOf.2.1 mt_LS_lawOf.2.2.1 mt_LS_lawOf.2.2.2 ∈ tb := ⟨tb_mem 484 rfl rfl, tb_mem 485 rfl rfl, tb_mem 69 rfl rfl, tb_mem 486 rfl rfl⟩
set_option maxRecDepth 20000 in
theorem fv_LS_person : Cond.instanceMethod mt_LS_person.1 ∈ tb ∧ Cond.selects mt_LS_person.1.cls mt_LS_person.1 mt_LS_person.1 ∈ tb ∧ Cond.initialized mt_LS_person.1.cls ∈ tb ∧ Cond.code mt_LS_person.1 mt_LS_person.2.1 mt_LS_person.2.2.1 mt_LS_person.2.2.2 ∈ tb := ⟨tb_mem 488 rfl rfl, tb_mem 489 rfl rfl, tb_mem 69 rfl rfl, tb_mem 490 rfl rfl⟩
set_option maxRecDepth 20000 in
theorem fs_LS_isKind : Cond.static mt_LS_isKind.1 ∈ tb ∧ Cond.initialized mt_LS_isKind.1.cls ∈ tb ∧ Cond.code mt_LS_isKind.1 mt_LS_isKind.2.1 mt_LS_isKind.2.2.1 mt_LS_isKind.2.2.2 ∈ tb := ⟨tb_mem 492 rfl rfl, tb_mem 69 rfl rfl, tb_mem 493 rfl rfl⟩
set_option maxRecDepth 20000 in
theorem fs_LS_isPlace : Cond.static mt_LS_isPlace.1 ∈ tb ∧ Cond.initialized mt_LS_isPlace.1.cls ∈ tb ∧ Cond.code mt_LS_isPlace.1 mt_LS_isPlace.2.1 mt_LS_isPlace.2.2.1 mt_LS_isPlace.2.2.2 ∈ tb := ⟨tb_mem 495 rfl rfl, tb_mem 69 rfl rfl, tb_mem 496 rfl rfl⟩
set_option maxRecDepth 20000 in
theorem fv_LS_of : Cond.instanceMethod mt_LS_of.1 ∈ tb ∧ Cond.selects mt_LS_of.1.cls mt_LS_of.1 mt_LS_of.1 ∈ tb ∧ Cond.initialized mt_LS_of.1.cls ∈ tb ∧ Cond.code mt_LS_of.1 mt_LS_of.2.1 mt_LS_of.2.2.1 mt_LS_of.2.2.2 ∈ tb := ⟨tb_mem 499 rfl rfl, tb_mem 500 rfl rfl, tb_mem 69 rfl rfl, tb_mem 501 rfl rfl⟩
set_option maxRecDepth 20000 in
theorem fv_Pk_has : Cond.instanceMethod mt_Pk_has.1 ∈ tb ∧ Cond.selects mt_Pk_has.1.cls mt_Pk_has.1 mt_Pk_has.1 ∈ tb ∧ Cond.initialized mt_Pk_has.1.cls ∈ tb ∧ Cond.code mt_Pk_has.1 mt_Pk_has.2.1 mt_Pk_has.2.2.1 mt_Pk_has.2.2.2 ∈ tb := ⟨tb_mem 503 rfl rfl, tb_mem 504 rfl rfl, tb_mem 71 rfl rfl, tb_mem 505 rfl rfl⟩
set_option maxRecDepth 20000 in
theorem fv_Pk_isHidden : Cond.instanceMethod mt_Pk_isHidden.1 ∈ tb ∧ Cond.selects mt_Pk_isHidden.1.cls mt_Pk_isHidden.1 mt_Pk_isHidden.1 ∈ tb ∧ Cond.initialized mt_Pk_isHidden.1.cls ∈ tb ∧ Cond.code mt_Pk_isHidden.1 mt_Pk_isHidden.2.1 mt_Pk_isHidden.2.2.1 mt_Pk_isHidden.2.2.2 ∈ tb := ⟨tb_mem 507 rfl rfl, tb_mem 508 rfl rfl, tb_mem 71 rfl rfl, tb_mem 509 rfl rfl⟩
set_option maxRecDepth 20000 in
theorem fv_LS_does : Cond.instanceMethod mt_LS_does.1 ∈ tb ∧ Cond.selects mt_LS_does.1.cls mt_LS_does.1 mt_LS_does.1 ∈ tb ∧ Cond.initialized mt_LS_does.1.cls ∈ tb ∧ Cond.code mt_LS_does.1 mt_LS_does.2.1 mt_LS_does.2.2.1 mt_LS_does.2.2.2 ∈ tb := ⟨tb_mem 511 rfl rfl, tb_mem 512 rfl rfl, tb_mem 69 rfl rfl, tb_mem 513 rfl rfl⟩
set_option maxRecDepth 20000 in
theorem fv_Pk_hides : Cond.instanceMethod mt_Pk_hides.1 ∈ tb ∧ Cond.selects mt_Pk_hides.1.cls mt_Pk_hides.1 mt_Pk_hides.1 ∈ tb ∧ Cond.initialized mt_Pk_hides.1.cls ∈ tb ∧ Cond.code mt_Pk_hides.1 mt_Pk_hides.2.1 mt_Pk_hides.2.2.1 mt_Pk_hides.2.2.2 ∈ tb := ⟨tb_mem 515 rfl rfl, tb_mem 516 rfl rfl, tb_mem 71 rfl rfl, tb_mem 517 rfl rfl⟩
set_option maxRecDepth 20000 in
theorem fv_Pk_sees : Cond.instanceMethod mt_Pk_sees.1 ∈ tb ∧ Cond.selects mt_Pk_sees.1.cls mt_Pk_sees.1 mt_Pk_sees.1 ∈ tb ∧ Cond.initialized mt_Pk_sees.1.cls ∈ tb ∧ Cond.code mt_Pk_sees.1 mt_Pk_sees.2.1 mt_Pk_sees.2.2.1 mt_Pk_sees.2.2.2 ∈ tb := ⟨tb_mem 519 rfl rfl, tb_mem 520 rfl rfl, tb_mem 71 rfl rfl, tb_mem 521 rfl rfl⟩
set_option maxRecDepth 20000 in
theorem fv_Pk_strides : Cond.instanceMethod mt_Pk_strides.1 ∈ tb ∧ Cond.selects mt_Pk_strides.1.cls mt_Pk_strides.1 mt_Pk_strides.1 ∈ tb ∧ Cond.initialized mt_Pk_strides.1.cls ∈ tb ∧ Cond.code mt_Pk_strides.1 mt_Pk_strides.2.1 mt_Pk_strides.2.2.1 mt_Pk_strides.2.2.2 ∈ tb := ⟨tb_mem 523 rfl rfl, tb_mem 524 rfl rfl, tb_mem 71 rfl rfl, tb_mem 525 rfl rfl⟩
set_option maxRecDepth 20000 in
theorem fv_LS_mind : Cond.instanceMethod mt_LS_mind.1 ∈ tb ∧ Cond.selects mt_LS_mind.1.cls mt_LS_mind.1 mt_LS_mind.1 ∈ tb ∧ Cond.initialized mt_LS_mind.1.cls ∈ tb ∧ Cond.code mt_LS_mind.1 mt_LS_mind.2.1 mt_LS_mind.2.2.1 mt_LS_mind.2.2.2 ∈ tb := ⟨tb_mem 527 rfl rfl, tb_mem 528 rfl rfl, tb_mem 69 rfl rfl, tb_mem 529 rfl rfl⟩
set_option maxRecDepth 20000 in
theorem fv_LS_age : Cond.instanceMethod mt_LS_age.1 ∈ tb ∧ Cond.selects mt_LS_age.1.cls mt_LS_age.1 mt_LS_age.1 ∈ tb ∧ Cond.initialized mt_LS_age.1.cls ∈ tb ∧ Cond.code mt_LS_age.1 mt_LS_age.2.1 mt_LS_age.2.2.1 mt_LS_age.2.2.2 ∈ tb := ⟨tb_mem 531 rfl rfl, tb_mem 532 rfl rfl, tb_mem 69 rfl rfl, tb_mem 533 rfl rfl⟩
set_option maxRecDepth 20000 in
theorem fv_LS_bring : Cond.instanceMethod mt_LS_bring.1 ∈ tb ∧ Cond.selects mt_LS_bring.1.cls mt_LS_bring.1 mt_LS_bring.1 ∈ tb ∧ Cond.initialized mt_LS_bring.1.cls ∈ tb ∧ Cond.code mt_LS_bring.1 mt_LS_bring.2.1 mt_LS_bring.2.2.1 mt_LS_bring.2.2.2 ∈ tb := ⟨tb_mem 535 rfl rfl, tb_mem 536 rfl rfl, tb_mem 69 rfl rfl, tb_mem 537 rfl rfl⟩
set_option maxRecDepth 20000 in
theorem fv_LS_seek : Cond.instanceMethod mt_LS_seek.1 ∈ tb ∧ Cond.selects mt_LS_seek.1.cls mt_LS_seek.1 mt_LS_seek.1 ∈ tb ∧ Cond.initialized mt_LS_seek.1.cls ∈ tb ∧ Cond.code mt_LS_seek.1 mt_LS_seek.2.1 mt_LS_seek.2.2.1 mt_LS_seek.2.2.2 ∈ tb := ⟨tb_mem 539 rfl rfl, tb_mem 540 rfl rfl, tb_mem 69 rfl rfl, tb_mem 541 rfl rfl⟩
set_option maxRecDepth 20000 in
theorem fv_LS_place : Cond.instanceMethod mt_LS_place.1 ∈ tb ∧ Cond.selects mt_LS_place.1.cls mt_LS_place.1 mt_LS_place.1 ∈ tb ∧ Cond.initialized mt_LS_place.1.cls ∈ tb ∧ Cond.code mt_LS_place.1 mt_LS_place.2.1 mt_LS_place.2.2.1 mt_LS_place.2.2.2 ∈ tb := ⟨tb_mem 544 rfl rfl, tb_mem 545 rfl rfl, tb_mem 69 rfl rfl, tb_mem 546 rfl rfl⟩
set_option maxRecDepth 20000 in
theorem fv_Pk_peopleAt : Cond.instanceMethod mt_Pk_peopleAt.1 ∈ tb ∧ Cond.selects mt_Pk_peopleAt.1.cls mt_Pk_peopleAt.1 mt_Pk_peopleAt.1 ∈ tb ∧ Cond.initialized mt_Pk_peopleAt.1.cls ∈ tb ∧ Cond.code mt_Pk_peopleAt.1 mt_Pk_peopleAt.2.1 mt_Pk_peopleAt.2.2.1 mt_Pk_peopleAt.2.2.2 ∈ tb := ⟨tb_mem 548 rfl rfl, tb_mem 549 rfl rfl, tb_mem 71 rfl rfl, tb_mem 550 rfl rfl⟩
set_option maxRecDepth 20000 in
theorem fs_Integer_bitCount : Cond.static mt_Integer_bitCount.1 ∈ tb ∧ Cond.initialized mt_Integer_bitCount.1.cls ∈ tb ∧ Cond.code mt_Integer_bitCount.1 mt_Integer_bitCount.2.1 mt_Integer_bitCount.2.2.1 mt_Integer_bitCount.2.2.2 ∈ tb := ⟨tb_mem 552 rfl rfl, tb_mem 83 rfl rfl, tb_mem 553 rfl rfl⟩
set_option maxRecDepth 20000 in
theorem fv_LS_cover : Cond.instanceMethod mt_LS_cover.1 ∈ tb ∧ Cond.selects mt_LS_cover.1.cls mt_LS_cover.1 mt_LS_cover.1 ∈ tb ∧ Cond.initialized mt_LS_cover.1.cls ∈ tb ∧ Cond.code mt_LS_cover.1 mt_LS_cover.2.1 mt_LS_cover.2.2.1 mt_LS_cover.2.2.2 ∈ tb := ⟨tb_mem 558 rfl rfl, tb_mem 559 rfl rfl, tb_mem 69 rfl rfl, tb_mem 560 rfl rfl⟩
set_option maxRecDepth 20000 in
theorem fv_LS_years : Cond.instanceMethod mt_LS_years.1 ∈ tb ∧ Cond.selects mt_LS_years.1.cls mt_LS_years.1 mt_LS_years.1 ∈ tb ∧ Cond.initialized mt_LS_years.1.cls ∈ tb ∧ Cond.code mt_LS_years.1 mt_LS_years.2.1 mt_LS_years.2.2.1 mt_LS_years.2.2.2 ∈ tb := ⟨tb_mem 562 rfl rfl, tb_mem 563 rfl rfl, tb_mem 69 rfl rfl, tb_mem 564 rfl rfl⟩
set_option maxRecDepth 20000 in
theorem fv_Pk_passYears : Cond.instanceMethod mt_Pk_passYears.1 ∈ tb ∧ Cond.selects mt_Pk_passYears.1.cls mt_Pk_passYears.1 mt_Pk_passYears.1 ∈ tb ∧ Cond.initialized mt_Pk_passYears.1.cls ∈ tb ∧ Cond.code mt_Pk_passYears.1 mt_Pk_passYears.2.1 mt_Pk_passYears.2.2.1 mt_Pk_passYears.2.2.2 ∈ tb := ⟨tb_mem 566 rfl rfl, tb_mem 567 rfl rfl, tb_mem 71 rfl rfl, tb_mem 568 rfl rfl⟩
set_option maxRecDepth 20000 in
theorem fv_Pk_passYear : Cond.instanceMethod mt_Pk_passYear.1 ∈ tb ∧ Cond.selects mt_Pk_passYear.1.cls mt_Pk_passYear.1 mt_Pk_passYear.1 ∈ tb ∧ Cond.initialized mt_Pk_passYear.1.cls ∈ tb ∧ Cond.code mt_Pk_passYear.1 mt_Pk_passYear.2.1 mt_Pk_passYear.2.2.1 mt_Pk_passYear.2.2.2 ∈ tb := ⟨tb_mem 570 rfl rfl, tb_mem 571 rfl rfl, tb_mem 71 rfl rfl, tb_mem 572 rfl rfl⟩
set_option maxRecDepth 20000 in
theorem fv_Pk_growOlder : Cond.instanceMethod mt_Pk_growOlder.1 ∈ tb ∧ Cond.selects mt_Pk_growOlder.1.cls mt_Pk_growOlder.1 mt_Pk_growOlder.1 ∈ tb ∧ Cond.initialized mt_Pk_growOlder.1.cls ∈ tb ∧ Cond.code mt_Pk_growOlder.1 mt_Pk_growOlder.2.1 mt_Pk_growOlder.2.2.1 mt_Pk_growOlder.2.2.2 ∈ tb := ⟨tb_mem 575 rfl rfl, tb_mem 12 rfl rfl, tb_mem 71 rfl rfl, tb_mem 576 rfl rfl⟩
set_option maxRecDepth 20000 in
theorem fv_Pk_goSeeking : Cond.instanceMethod mt_Pk_goSeeking.1 ∈ tb ∧ Cond.selects mt_Pk_goSeeking.1.cls mt_Pk_goSeeking.1 mt_Pk_goSeeking.1 ∈ tb ∧ Cond.initialized mt_Pk_goSeeking.1.cls ∈ tb ∧ Cond.code mt_Pk_goSeeking.1 mt_Pk_goSeeking.2.1 mt_Pk_goSeeking.2.2.1 mt_Pk_goSeeking.2.2.2 ∈ tb := ⟨tb_mem 579 rfl rfl, tb_mem 13 rfl rfl, tb_mem 71 rfl rfl, tb_mem 580 rfl rfl⟩
set_option maxRecDepth 20000 in
theorem fs_Math_floorMod : Cond.static mt_Math_floorMod.1 ∈ tb ∧ Cond.initialized mt_Math_floorMod.1.cls ∈ tb ∧ Cond.code mt_Math_floorMod.1 mt_Math_floorMod.2.1 mt_Math_floorMod.2.2.1 mt_Math_floorMod.2.2.2 ∈ tb := ⟨tb_mem 583 rfl rfl, tb_mem 84 rfl rfl, tb_mem 584 rfl rfl⟩
set_option maxRecDepth 20000 in
theorem fv_Pk_findOne : Cond.instanceMethod mt_Pk_findOne.1 ∈ tb ∧ Cond.selects mt_Pk_findOne.1.cls mt_Pk_findOne.1 mt_Pk_findOne.1 ∈ tb ∧ Cond.initialized mt_Pk_findOne.1.cls ∈ tb ∧ Cond.code mt_Pk_findOne.1 mt_Pk_findOne.2.1 mt_Pk_findOne.2.2.1 mt_Pk_findOne.2.2.2 ∈ tb := ⟨tb_mem 587 rfl rfl, tb_mem 14 rfl rfl, tb_mem 71 rfl rfl, tb_mem 588 rfl rfl⟩
set_option maxRecDepth 20000 in
theorem fv_Pk_hiddenOnes : Cond.instanceMethod mt_Pk_hiddenOnes.1 ∈ tb ∧ Cond.selects mt_Pk_hiddenOnes.1.cls mt_Pk_hiddenOnes.1 mt_Pk_hiddenOnes.1 ∈ tb ∧ Cond.initialized mt_Pk_hiddenOnes.1.cls ∈ tb ∧ Cond.code mt_Pk_hiddenOnes.1 mt_Pk_hiddenOnes.2.1 mt_Pk_hiddenOnes.2.2.1 mt_Pk_hiddenOnes.2.2.2 ∈ tb := ⟨tb_mem 593 rfl rfl, tb_mem 594 rfl rfl, tb_mem 71 rfl rfl, tb_mem 595 rfl rfl⟩
set_option maxRecDepth 20000 in
theorem fv_LS_seed : Cond.instanceMethod mt_LS_seed.1 ∈ tb ∧ Cond.selects mt_LS_seed.1.cls mt_LS_seed.1 mt_LS_seed.1 ∈ tb ∧ Cond.initialized mt_LS_seed.1.cls ∈ tb ∧ Cond.code mt_LS_seed.1 mt_LS_seed.2.1 mt_LS_seed.2.2.1 mt_LS_seed.2.2.2 ∈ tb := ⟨tb_mem 598 rfl rfl, tb_mem 599 rfl rfl, tb_mem 69 rfl rfl, tb_mem 600 rfl rfl⟩
set_option maxRecDepth 20000 in
theorem fv_LS_year : Cond.instanceMethod mt_LS_year.1 ∈ tb ∧ Cond.selects mt_LS_year.1.cls mt_LS_year.1 mt_LS_year.1 ∈ tb ∧ Cond.initialized mt_LS_year.1.cls ∈ tb ∧ Cond.code mt_LS_year.1 mt_LS_year.2.1 mt_LS_year.2.2.1 mt_LS_year.2.2.2 ∈ tb := ⟨tb_mem 602 rfl rfl, tb_mem 603 rfl rfl, tb_mem 69 rfl rfl, tb_mem 604 rfl rfl⟩
set_option maxRecDepth 20000 in
theorem fv_Pk_passYearByDraws : Cond.instanceMethod mt_Pk_passYearByDraws.1 ∈ tb ∧ Cond.selects mt_Pk_passYearByDraws.1.cls mt_Pk_passYearByDraws.1 mt_Pk_passYearByDraws.1 ∈ tb ∧ Cond.initialized mt_Pk_passYearByDraws.1.cls ∈ tb ∧ Cond.code mt_Pk_passYearByDraws.1 mt_Pk_passYearByDraws.2.1 mt_Pk_passYearByDraws.2.2.1 mt_Pk_passYearByDraws.2.2.2 ∈ tb := ⟨tb_mem 606 rfl rfl, tb_mem 607 rfl rfl, tb_mem 71 rfl rfl, tb_mem 608 rfl rfl⟩
set_option maxRecDepth 20000 in
theorem fv_Pk_drawn : Cond.instanceMethod mt_Pk_drawn.1 ∈ tb ∧ Cond.selects mt_Pk_drawn.1.cls mt_Pk_drawn.1 mt_Pk_drawn.1 ∈ tb ∧ Cond.initialized mt_Pk_drawn.1.cls ∈ tb ∧ Cond.code mt_Pk_drawn.1 mt_Pk_drawn.2.1 mt_Pk_drawn.2.2.1 mt_Pk_drawn.2.2.2 ∈ tb := ⟨tb_mem 611 rfl rfl, tb_mem 15 rfl rfl, tb_mem 71 rfl rfl, tb_mem 612 rfl rfl⟩
set_option maxRecDepth 20000 in
theorem fv_LS_nights : Cond.instanceMethod mt_LS_nights.1 ∈ tb ∧ Cond.selects mt_LS_nights.1.cls mt_LS_nights.1 mt_LS_nights.1 ∈ tb ∧ Cond.initialized mt_LS_nights.1.cls ∈ tb ∧ Cond.code mt_LS_nights.1 mt_LS_nights.2.1 mt_LS_nights.2.2.1 mt_LS_nights.2.2.2 ∈ tb := ⟨tb_mem 615 rfl rfl, tb_mem 616 rfl rfl, tb_mem 69 rfl rfl, tb_mem 617 rfl rfl⟩
set_option maxRecDepth 20000 in
theorem fv_Tr_nightsWithMoreHidden : Cond.instanceMethod mt_Tr_nightsWithMoreHidden.1 ∈ tb ∧ Cond.selects mt_Tr_nightsWithMoreHidden.1.cls mt_Tr_nightsWithMoreHidden.1 mt_Tr_nightsWithMoreHidden.1 ∈ tb ∧ Cond.initialized mt_Tr_nightsWithMoreHidden.1.cls ∈ tb ∧ Cond.code mt_Tr_nightsWithMoreHidden.1 mt_Tr_nightsWithMoreHidden.2.1 mt_Tr_nightsWithMoreHidden.2.2.1 mt_Tr_nightsWithMoreHidden.2.2.2 ∈ tb := ⟨tb_mem 619 rfl rfl, tb_mem 620 rfl rfl, tb_mem 70 rfl rfl, tb_mem 621 rfl rfl⟩
set_option maxRecDepth 20000 in
theorem fv_LS_state : Cond.instanceMethod mt_LS_state.1 ∈ tb ∧ Cond.selects mt_LS_state.1.cls mt_LS_state.1 mt_LS_state.1 ∈ tb ∧ Cond.initialized mt_LS_state.1.cls ∈ tb ∧ Cond.code mt_LS_state.1 mt_LS_state.2.1 mt_LS_state.2.2.1 mt_LS_state.2.2.2 ∈ tb := ⟨tb_mem 626 rfl rfl, tb_mem 627 rfl rfl, tb_mem 69 rfl rfl, tb_mem 628 rfl rfl⟩
set_option maxRecDepth 20000 in
theorem fs_LS_sumOf : Cond.static mt_LS_sumOf.1 ∈ tb ∧ Cond.initialized mt_LS_sumOf.1.cls ∈ tb ∧ Cond.code mt_LS_sumOf.1 mt_LS_sumOf.2.1 mt_LS_sumOf.2.2.1 mt_LS_sumOf.2.2.2 ∈ tb := ⟨tb_mem 630 rfl rfl, tb_mem 69 rfl rfl, tb_mem 631 rfl rfl⟩
set_option maxRecDepth 20000 in
theorem fv_Pk_hidingPlaces : Cond.instanceMethod mt_Pk_hidingPlaces.1 ∈ tb ∧ Cond.selects mt_Pk_hidingPlaces.1.cls mt_Pk_hidingPlaces.1 mt_Pk_hidingPlaces.1 ∈ tb ∧ Cond.initialized mt_Pk_hidingPlaces.1.cls ∈ tb ∧ Cond.code mt_Pk_hidingPlaces.1 mt_Pk_hidingPlaces.2.1 mt_Pk_hidingPlaces.2.2.1 mt_Pk_hidingPlaces.2.2.2 ∈ tb := ⟨tb_mem 633 rfl rfl, tb_mem 634 rfl rfl, tb_mem 71 rfl rfl, tb_mem 635 rfl rfl⟩
set_option maxRecDepth 20000 in
theorem fv_LS_where : Cond.instanceMethod mt_LS_where.1 ∈ tb ∧ Cond.selects mt_LS_where.1.cls mt_LS_where.1 mt_LS_where.1 ∈ tb ∧ Cond.initialized mt_LS_where.1.cls ∈ tb ∧ Cond.code mt_LS_where.1 mt_LS_where.2.1 mt_LS_where.2.2.1 mt_LS_where.2.2.2 ∈ tb := ⟨tb_mem 637 rfl rfl, tb_mem 638 rfl rfl, tb_mem 69 rfl rfl, tb_mem 639 rfl rfl⟩
set_option maxRecDepth 20000 in
theorem fv_LS_shown : Cond.instanceMethod mt_LS_shown.1 ∈ tb ∧ Cond.selects mt_LS_shown.1.cls mt_LS_shown.1 mt_LS_shown.1 ∈ tb ∧ Cond.initialized mt_LS_shown.1.cls ∈ tb ∧ Cond.code mt_LS_shown.1 mt_LS_shown.2.1 mt_LS_shown.2.2.1 mt_LS_shown.2.2.2 ∈ tb := ⟨tb_mem 641 rfl rfl, tb_mem 642 rfl rfl, tb_mem 69 rfl rfl, tb_mem 643 rfl rfl⟩
set_option maxRecDepth 20000 in
theorem fv_Tr_shownBehind : Cond.instanceMethod mt_Tr_shownBehind.1 ∈ tb ∧ Cond.selects mt_Tr_shownBehind.1.cls mt_Tr_shownBehind.1 mt_Tr_shownBehind.1 ∈ tb ∧ Cond.initialized mt_Tr_shownBehind.1.cls ∈ tb ∧ Cond.code mt_Tr_shownBehind.1 mt_Tr_shownBehind.2.1 mt_Tr_shownBehind.2.2.1 mt_Tr_shownBehind.2.2.2 ∈ tb := ⟨tb_mem 645 rfl rfl, tb_mem 646 rfl rfl, tb_mem 70 rfl rfl, tb_mem 647 rfl rfl⟩
set_option maxRecDepth 20000 in
theorem fv_Tr_yearsUntilShown : Cond.instanceMethod mt_Tr_yearsUntilShown.1 ∈ tb ∧ Cond.selects mt_Tr_yearsUntilShown.1.cls mt_Tr_yearsUntilShown.1 mt_Tr_yearsUntilShown.1 ∈ tb ∧ Cond.initialized mt_Tr_yearsUntilShown.1.cls ∈ tb ∧ Cond.code mt_Tr_yearsUntilShown.1 mt_Tr_yearsUntilShown.2.1 mt_Tr_yearsUntilShown.2.2.1 mt_Tr_yearsUntilShown.2.2.2 ∈ tb := ⟨tb_mem 650 rfl rfl, tb_mem 16 rfl rfl, tb_mem 70 rfl rfl, tb_mem 651 rfl rfl⟩
set_option maxRecDepth 20000 in
theorem fv_LS_all : Cond.instanceMethod mt_LS_all.1 ∈ tb ∧ Cond.selects mt_LS_all.1.cls mt_LS_all.1 mt_LS_all.1 ∈ tb ∧ Cond.initialized mt_LS_all.1.cls ∈ tb ∧ Cond.code mt_LS_all.1 mt_LS_all.2.1 mt_LS_all.2.2.1 mt_LS_all.2.2.2 ∈ tb := ⟨tb_mem 655 rfl rfl, tb_mem 656 rfl rfl, tb_mem 69 rfl rfl, tb_mem 657 rfl rfl⟩
set_option maxRecDepth 20000 in
theorem fv_Tr_allShownBehind : Cond.instanceMethod mt_Tr_allShownBehind.1 ∈ tb ∧ Cond.selects mt_Tr_allShownBehind.1.cls mt_Tr_allShownBehind.1 mt_Tr_allShownBehind.1 ∈ tb ∧ Cond.initialized mt_Tr_allShownBehind.1.cls ∈ tb ∧ Cond.code mt_Tr_allShownBehind.1 mt_Tr_allShownBehind.2.1 mt_Tr_allShownBehind.2.2.1 mt_Tr_allShownBehind.2.2.2 ∈ tb := ⟨tb_mem 659 rfl rfl, tb_mem 660 rfl rfl, tb_mem 70 rfl rfl, tb_mem 661 rfl rfl⟩
set_option maxRecDepth 20000 in
theorem fv_LS_finder : Cond.instanceMethod mt_LS_finder.1 ∈ tb ∧ Cond.selects mt_LS_finder.1.cls mt_LS_finder.1 mt_LS_finder.1 ∈ tb ∧ Cond.initialized mt_LS_finder.1.cls ∈ tb ∧ Cond.code mt_LS_finder.1 mt_LS_finder.2.1 mt_LS_finder.2.2.1 mt_LS_finder.2.2.2 ∈ tb := ⟨tb_mem 663 rfl rfl, tb_mem 664 rfl rfl, tb_mem 69 rfl rfl, tb_mem 665 rfl rfl⟩
set_option maxRecDepth 20000 in
theorem fv_LS_safeFor : Cond.instanceMethod mt_LS_safeFor.1 ∈ tb ∧ Cond.selects mt_LS_safeFor.1.cls mt_LS_safeFor.1 mt_LS_safeFor.1 ∈ tb ∧ Cond.initialized mt_LS_safeFor.1.cls ∈ tb ∧ Cond.code mt_LS_safeFor.1 mt_LS_safeFor.2.1 mt_LS_safeFor.2.2.1 mt_LS_safeFor.2.2.2 ∈ tb := ⟨tb_mem 667 rfl rfl, tb_mem 668 rfl rfl, tb_mem 69 rfl rfl, tb_mem 669 rfl rfl⟩
set_option maxRecDepth 20000 in
theorem fv_Tr_safestPlace : Cond.instanceMethod mt_Tr_safestPlace.1 ∈ tb ∧ Cond.selects mt_Tr_safestPlace.1.cls mt_Tr_safestPlace.1 mt_Tr_safestPlace.1 ∈ tb ∧ Cond.initialized mt_Tr_safestPlace.1.cls ∈ tb ∧ Cond.code mt_Tr_safestPlace.1 mt_Tr_safestPlace.2.1 mt_Tr_safestPlace.2.2.1 mt_Tr_safestPlace.2.2.2 ∈ tb := ⟨tb_mem 671 rfl rfl, tb_mem 672 rfl rfl, tb_mem 70 rfl rfl, tb_mem 673 rfl rfl⟩
set_option maxRecDepth 20000 in
theorem fv_LS_kindFor : Cond.instanceMethod mt_LS_kindFor.1 ∈ tb ∧ Cond.selects mt_LS_kindFor.1.cls mt_LS_kindFor.1 mt_LS_kindFor.1 ∈ tb ∧ Cond.initialized mt_LS_kindFor.1.cls ∈ tb ∧ Cond.code mt_LS_kindFor.1 mt_LS_kindFor.2.1 mt_LS_kindFor.2.2.1 mt_LS_kindFor.2.2.2 ∈ tb := ⟨tb_mem 676 rfl rfl, tb_mem 677 rfl rfl, tb_mem 69 rfl rfl, tb_mem 678 rfl rfl⟩
set_option maxRecDepth 20000 in
theorem fv_Tr_safestKind : Cond.instanceMethod mt_Tr_safestKind.1 ∈ tb ∧ Cond.selects mt_Tr_safestKind.1.cls mt_Tr_safestKind.1 mt_Tr_safestKind.1 ∈ tb ∧ Cond.initialized mt_Tr_safestKind.1.cls ∈ tb ∧ Cond.code mt_Tr_safestKind.1 mt_Tr_safestKind.2.1 mt_Tr_safestKind.2.2.1 mt_Tr_safestKind.2.2.2 ∈ tb := ⟨tb_mem 680 rfl rfl, tb_mem 681 rfl rfl, tb_mem 70 rfl rfl, tb_mem 682 rfl rfl⟩
set_option maxRecDepth 20000 in
theorem fv_LS_witFor : Cond.instanceMethod mt_LS_witFor.1 ∈ tb ∧ Cond.selects mt_LS_witFor.1.cls mt_LS_witFor.1 mt_LS_witFor.1 ∈ tb ∧ Cond.initialized mt_LS_witFor.1.cls ∈ tb ∧ Cond.code mt_LS_witFor.1 mt_LS_witFor.2.1 mt_LS_witFor.2.2.1 mt_LS_witFor.2.2.2 ∈ tb := ⟨tb_mem 684 rfl rfl, tb_mem 685 rfl rfl, tb_mem 69 rfl rfl, tb_mem 686 rfl rfl⟩
set_option maxRecDepth 20000 in
theorem fv_Tr_leastHidingWit : Cond.instanceMethod mt_Tr_leastHidingWit.1 ∈ tb ∧ Cond.selects mt_Tr_leastHidingWit.1.cls mt_Tr_leastHidingWit.1 mt_Tr_leastHidingWit.1 ∈ tb ∧ Cond.initialized mt_Tr_leastHidingWit.1.cls ∈ tb ∧ Cond.code mt_Tr_leastHidingWit.1 mt_Tr_leastHidingWit.2.1 mt_Tr_leastHidingWit.2.2.1 mt_Tr_leastHidingWit.2.2.2 ∈ tb := ⟨tb_mem 688 rfl rfl, tb_mem 689 rfl rfl, tb_mem 70 rfl rfl, tb_mem 690 rfl rfl⟩
set_option maxRecDepth 20000 in
theorem fv_LS_needed : Cond.instanceMethod mt_LS_needed.1 ∈ tb ∧ Cond.selects mt_LS_needed.1.cls mt_LS_needed.1 mt_LS_needed.1 ∈ tb ∧ Cond.initialized mt_LS_needed.1.cls ∈ tb ∧ Cond.code mt_LS_needed.1 mt_LS_needed.2.1 mt_LS_needed.2.2.1 mt_LS_needed.2.2.2 ∈ tb := ⟨tb_mem 693 rfl rfl, tb_mem 694 rfl rfl, tb_mem 69 rfl rfl, tb_mem 695 rfl rfl⟩
set_option maxRecDepth 20000 in
theorem fv_Tr_mostNeeded : Cond.instanceMethod mt_Tr_mostNeeded.1 ∈ tb ∧ Cond.selects mt_Tr_mostNeeded.1.cls mt_Tr_mostNeeded.1 mt_Tr_mostNeeded.1 ∈ tb ∧ Cond.initialized mt_Tr_mostNeeded.1.cls ∈ tb ∧ Cond.code mt_Tr_mostNeeded.1 mt_Tr_mostNeeded.2.1 mt_Tr_mostNeeded.2.2.1 mt_Tr_mostNeeded.2.2.2 ∈ tb := ⟨tb_mem 697 rfl rfl, tb_mem 698 rfl rfl, tb_mem 70 rfl rfl, tb_mem 699 rfl rfl⟩
set_option maxRecDepth 20000 in
theorem fv_LS_fewest : Cond.instanceMethod mt_LS_fewest.1 ∈ tb ∧ Cond.selects mt_LS_fewest.1.cls mt_LS_fewest.1 mt_LS_fewest.1 ∈ tb ∧ Cond.initialized mt_LS_fewest.1.cls ∈ tb ∧ Cond.code mt_LS_fewest.1 mt_LS_fewest.2.1 mt_LS_fewest.2.2.1 mt_LS_fewest.2.2.2 ∈ tb := ⟨tb_mem 702 rfl rfl, tb_mem 703 rfl rfl, tb_mem 69 rfl rfl, tb_mem 704 rfl rfl⟩
set_option maxRecDepth 20000 in
theorem fv_Tr_fewestFinders : Cond.instanceMethod mt_Tr_fewestFinders.1 ∈ tb ∧ Cond.selects mt_Tr_fewestFinders.1.cls mt_Tr_fewestFinders.1 mt_Tr_fewestFinders.1 ∈ tb ∧ Cond.initialized mt_Tr_fewestFinders.1.cls ∈ tb ∧ Cond.code mt_Tr_fewestFinders.1 mt_Tr_fewestFinders.2.1 mt_Tr_fewestFinders.2.2.1 mt_Tr_fewestFinders.2.2.2 ∈ tb := ⟨tb_mem 706 rfl rfl, tb_mem 707 rfl rfl, tb_mem 70 rfl rfl, tb_mem 708 rfl rfl⟩
set_option maxRecDepth 20000 in
theorem fv_Tr_seeksBehind : Cond.instanceMethod mt_Tr_seeksBehind.1 ∈ tb ∧ Cond.selects mt_Tr_seeksBehind.1.cls mt_Tr_seeksBehind.1 mt_Tr_seeksBehind.1 ∈ tb ∧ Cond.initialized mt_Tr_seeksBehind.1.cls ∈ tb ∧ Cond.code mt_Tr_seeksBehind.1 mt_Tr_seeksBehind.2.1 mt_Tr_seeksBehind.2.2.1 mt_Tr_seeksBehind.2.2.2 ∈ tb := ⟨tb_mem 712 rfl rfl, tb_mem 17 rfl rfl, tb_mem 70 rfl rfl, tb_mem 713 rfl rfl⟩
set_option maxRecDepth 20000 in
theorem fv_LS_round : Cond.instanceMethod mt_LS_round.1 ∈ tb ∧ Cond.selects mt_LS_round.1.cls mt_LS_round.1 mt_LS_round.1 ∈ tb ∧ Cond.initialized mt_LS_round.1.cls ∈ tb ∧ Cond.code mt_LS_round.1 mt_LS_round.2.1 mt_LS_round.2.2.1 mt_LS_round.2.2.2 ∈ tb := ⟨tb_mem 715 rfl rfl, tb_mem 716 rfl rfl, tb_mem 69 rfl rfl, tb_mem 717 rfl rfl⟩
set_option maxRecDepth 20000 in
theorem fs_LS_stepsRound : Cond.static mt_LS_stepsRound.1 ∈ tb ∧ Cond.initialized mt_LS_stepsRound.1.cls ∈ tb ∧ Cond.code mt_LS_stepsRound.1 mt_LS_stepsRound.2.1 mt_LS_stepsRound.2.2.1 mt_LS_stepsRound.2.2.2 ∈ tb := ⟨tb_mem 719 rfl rfl, tb_mem 69 rfl rfl, tb_mem 720 rfl rfl⟩
set_option maxRecDepth 20000 in
theorem fs_Math_min : Cond.static mt_Math_min.1 ∈ tb ∧ Cond.initialized mt_Math_min.1.cls ∈ tb ∧ Cond.code mt_Math_min.1 mt_Math_min.2.1 mt_Math_min.2.2.1 mt_Math_min.2.2.2 ∈ tb := ⟨tb_mem 722 rfl rfl, tb_mem 84 rfl rfl, tb_mem 723 rfl rfl⟩
set_option maxRecDepth 20000 in
theorem fv_LS_fits : Cond.instanceMethod mt_LS_fits.1 ∈ tb ∧ Cond.selects mt_LS_fits.1.cls mt_LS_fits.1 mt_LS_fits.1 ∈ tb ∧ Cond.initialized mt_LS_fits.1.cls ∈ tb ∧ Cond.code mt_LS_fits.1 mt_LS_fits.2.1 mt_LS_fits.2.2.1 mt_LS_fits.2.2.2 ∈ tb := ⟨tb_mem 725 rfl rfl, tb_mem 726 rfl rfl, tb_mem 69 rfl rfl, tb_mem 727 rfl rfl⟩
set_option maxRecDepth 20000 in
theorem fs_LS_isSheet : Cond.static mt_LS_isSheet.1 ∈ tb ∧ Cond.initialized mt_LS_isSheet.1.cls ∈ tb ∧ Cond.code mt_LS_isSheet.1 mt_LS_isSheet.2.1 mt_LS_isSheet.2.2.1 mt_LS_isSheet.2.2.2 ∈ tb := ⟨tb_mem 729 rfl rfl, tb_mem 69 rfl rfl, tb_mem 730 rfl rfl⟩
set_option maxRecDepth 20000 in
theorem fv_Sh_isMissing : Cond.instanceMethod mt_Sh_isMissing.1 ∈ tb ∧ Cond.selects mt_Sh_isMissing.1.cls mt_Sh_isMissing.1 mt_Sh_isMissing.1 ∈ tb ∧ Cond.initialized mt_Sh_isMissing.1.cls ∈ tb ∧ Cond.code mt_Sh_isMissing.1 mt_Sh_isMissing.2.1 mt_Sh_isMissing.2.2.1 mt_Sh_isMissing.2.2.2 ∈ tb := ⟨tb_mem 732 rfl rfl, tb_mem 733 rfl rfl, tb_mem 74 rfl rfl, tb_mem 734 rfl rfl⟩
set_option maxRecDepth 20000 in
theorem fv_Tr_wouldFit : Cond.instanceMethod mt_Tr_wouldFit.1 ∈ tb ∧ Cond.selects mt_Tr_wouldFit.1.cls mt_Tr_wouldFit.1 mt_Tr_wouldFit.1 ∈ tb ∧ Cond.initialized mt_Tr_wouldFit.1.cls ∈ tb ∧ Cond.code mt_Tr_wouldFit.1 mt_Tr_wouldFit.2.1 mt_Tr_wouldFit.2.2.1 mt_Tr_wouldFit.2.2.2 ∈ tb := ⟨tb_mem 736 rfl rfl, tb_mem 737 rfl rfl, tb_mem 70 rfl rfl, tb_mem 738 rfl rfl⟩
set_option maxRecDepth 20000 in
theorem fv_Sh_read : Cond.instanceMethod mt_Sh_read.1 ∈ tb ∧ Cond.selects mt_Sh_read.1.cls mt_Sh_read.1 mt_Sh_read.1 ∈ tb ∧ Cond.initialized mt_Sh_read.1.cls ∈ tb ∧ Cond.code mt_Sh_read.1 mt_Sh_read.2.1 mt_Sh_read.2.2.1 mt_Sh_read.2.2.2 ∈ tb := ⟨tb_mem 740 rfl rfl, tb_mem 741 rfl rfl, tb_mem 74 rfl rfl, tb_mem 742 rfl rfl⟩
set_option maxRecDepth 20000 in
theorem fv_LS_odds : Cond.instanceMethod mt_LS_odds.1 ∈ tb ∧ Cond.selects mt_LS_odds.1.cls mt_LS_odds.1 mt_LS_odds.1 ∈ tb ∧ Cond.initialized mt_LS_odds.1.cls ∈ tb ∧ Cond.code mt_LS_odds.1 mt_LS_odds.2.1 mt_LS_odds.2.2.1 mt_LS_odds.2.2.2 ∈ tb := ⟨tb_mem 744 rfl rfl, tb_mem 745 rfl rfl, tb_mem 69 rfl rfl, tb_mem 746 rfl rfl⟩
set_option maxRecDepth 20000 in
theorem fs_LS_partOf : Cond.static mt_LS_partOf.1 ∈ tb ∧ Cond.initialized mt_LS_partOf.1.cls ∈ tb ∧ Cond.code mt_LS_partOf.1 mt_LS_partOf.2.1 mt_LS_partOf.2.2.1 mt_LS_partOf.2.2.2 ∈ tb := ⟨tb_mem 750 rfl rfl, tb_mem 69 rfl rfl, tb_mem 751 rfl rfl⟩
set_option maxRecDepth 20000 in
theorem fs_LS_commonDivisor : Cond.static mt_LS_commonDivisor.1 ∈ tb ∧ Cond.initialized mt_LS_commonDivisor.1.cls ∈ tb ∧ Cond.code mt_LS_commonDivisor.1 mt_LS_commonDivisor.2.1 mt_LS_commonDivisor.2.2.1 mt_LS_commonDivisor.2.2.2 ∈ tb := ⟨tb_mem 753 rfl rfl, tb_mem 69 rfl rfl, tb_mem 754 rfl rfl⟩
set_option maxRecDepth 20000 in
theorem fv_LS_hope : Cond.instanceMethod mt_LS_hope.1 ∈ tb ∧ Cond.selects mt_LS_hope.1.cls mt_LS_hope.1 mt_LS_hope.1 ∈ tb ∧ Cond.initialized mt_LS_hope.1.cls ∈ tb ∧ Cond.code mt_LS_hope.1 mt_LS_hope.2.1 mt_LS_hope.2.2.1 mt_LS_hope.2.2.2 ∈ tb := ⟨tb_mem 756 rfl rfl, tb_mem 757 rfl rfl, tb_mem 69 rfl rfl, tb_mem 758 rfl rfl⟩
set_option maxRecDepth 20000 in
theorem fv_LS_prove : Cond.instanceMethod mt_LS_prove.1 ∈ tb ∧ Cond.selects mt_LS_prove.1.cls mt_LS_prove.1 mt_LS_prove.1 ∈ tb ∧ Cond.initialized mt_LS_prove.1.cls ∈ tb ∧ Cond.code mt_LS_prove.1 mt_LS_prove.2.1 mt_LS_prove.2.2.1 mt_LS_prove.2.2.2 ∈ tb := ⟨tb_mem 760 rfl rfl, tb_mem 761 rfl rfl, tb_mem 69 rfl rfl, tb_mem 762 rfl rfl⟩
set_option maxRecDepth 20000 in
theorem fv_Rw_write : Cond.instanceMethod mt_Rw_write.1 ∈ tb ∧ Cond.selects mt_Rw_write.1.cls mt_Rw_write.1 mt_Rw_write.1 ∈ tb ∧ Cond.initialized mt_Rw_write.1.cls ∈ tb ∧ Cond.code mt_Rw_write.1 mt_Rw_write.2.1 mt_Rw_write.2.2.1 mt_Rw_write.2.2.2 ∈ tb := ⟨tb_mem 765 rfl rfl, tb_mem 766 rfl rfl, tb_mem 73 rfl rfl, tb_mem 767 rfl rfl⟩
set_option maxRecDepth 20000 in
theorem fs_Rw_due : Cond.static mt_Rw_due.1 ∈ tb ∧ Cond.initialized mt_Rw_due.1.cls ∈ tb ∧ Cond.code mt_Rw_due.1 mt_Rw_due.2.1 mt_Rw_due.2.2.1 mt_Rw_due.2.2.2 ∈ tb := ⟨tb_mem 769 rfl rfl, tb_mem 73 rfl rfl, tb_mem 770 rfl rfl⟩
set_option maxRecDepth 20000 in
theorem fv_LS_row : Cond.instanceMethod mt_LS_row.1 ∈ tb ∧ Cond.selects mt_LS_row.1.cls mt_LS_row.1 mt_LS_row.1 ∈ tb ∧ Cond.initialized mt_LS_row.1.cls ∈ tb ∧ Cond.code mt_LS_row.1 mt_LS_row.2.1 mt_LS_row.2.2.1 mt_LS_row.2.2.2 ∈ tb := ⟨tb_mem 773 rfl rfl, tb_mem 774 rfl rfl, tb_mem 69 rfl rfl, tb_mem 775 rfl rfl⟩
set_option maxRecDepth 20000 in
theorem fv_Rw_has : Cond.instanceMethod mt_Rw_has.1 ∈ tb ∧ Cond.selects mt_Rw_has.1.cls mt_Rw_has.1 mt_Rw_has.1 ∈ tb ∧ Cond.initialized mt_Rw_has.1.cls ∈ tb ∧ Cond.code mt_Rw_has.1 mt_Rw_has.2.1 mt_Rw_has.2.2.1 mt_Rw_has.2.2.2 ∈ tb := ⟨tb_mem 777 rfl rfl, tb_mem 778 rfl rfl, tb_mem 73 rfl rfl, tb_mem 779 rfl rfl⟩
set_option maxRecDepth 20000 in
theorem fv_LS_alterRow : Cond.instanceMethod mt_LS_alterRow.1 ∈ tb ∧ Cond.selects mt_LS_alterRow.1.cls mt_LS_alterRow.1 mt_LS_alterRow.1 ∈ tb ∧ Cond.initialized mt_LS_alterRow.1.cls ∈ tb ∧ Cond.code mt_LS_alterRow.1 mt_LS_alterRow.2.1 mt_LS_alterRow.2.2.1 mt_LS_alterRow.2.2.2 ∈ tb := ⟨tb_mem 781 rfl rfl, tb_mem 782 rfl rfl, tb_mem 69 rfl rfl, tb_mem 783 rfl rfl⟩
set_option maxRecDepth 20000 in
theorem fv_LS_judge : Cond.instanceMethod mt_LS_judge.1 ∈ tb ∧ Cond.selects mt_LS_judge.1.cls mt_LS_judge.1 mt_LS_judge.1 ∈ tb ∧ Cond.initialized mt_LS_judge.1.cls ∈ tb ∧ Cond.code mt_LS_judge.1 mt_LS_judge.2.1 mt_LS_judge.2.2.1 mt_LS_judge.2.2.2 ∈ tb := ⟨tb_mem 785 rfl rfl, tb_mem 786 rfl rfl, tb_mem 69 rfl rfl, tb_mem 787 rfl rfl⟩
set_option maxRecDepth 20000 in
theorem fv_Rw_isRight : Cond.instanceMethod mt_Rw_isRight.1 ∈ tb ∧ Cond.selects mt_Rw_isRight.1.cls mt_Rw_isRight.1 mt_Rw_isRight.1 ∈ tb ∧ Cond.initialized mt_Rw_isRight.1.cls ∈ tb ∧ Cond.code mt_Rw_isRight.1 mt_Rw_isRight.2.1 mt_Rw_isRight.2.2.1 mt_Rw_isRight.2.2.2 ∈ tb := ⟨tb_mem 789 rfl rfl, tb_mem 790 rfl rfl, tb_mem 73 rfl rfl, tb_mem 791 rfl rfl⟩
set_option maxRecDepth 20000 in
theorem fv_LS_minds : Cond.instanceMethod mt_LS_minds.1 ∈ tb ∧ Cond.selects mt_LS_minds.1.cls mt_LS_minds.1 mt_LS_minds.1 ∈ tb ∧ Cond.initialized mt_LS_minds.1.cls ∈ tb ∧ Cond.code mt_LS_minds.1 mt_LS_minds.2.1 mt_LS_minds.2.2.1 mt_LS_minds.2.2.2 ∈ tb := ⟨tb_mem 793 rfl rfl, tb_mem 794 rfl rfl, tb_mem 69 rfl rfl, tb_mem 795 rfl rfl⟩
set_option maxRecDepth 20000 in
theorem fs_Math_max : Cond.static mt_Math_max.1 ∈ tb ∧ Cond.initialized mt_Math_max.1.cls ∈ tb ∧ Cond.code mt_Math_max.1 mt_Math_max.2.1 mt_Math_max.2.2.1 mt_Math_max.2.2.2 ∈ tb := ⟨tb_mem 798 rfl rfl, tb_mem 84 rfl rfl, tb_mem 799 rfl rfl⟩
set_option maxRecDepth 20000 in
theorem fv_LS_sheet : Cond.instanceMethod mt_LS_sheet.1 ∈ tb ∧ Cond.selects mt_LS_sheet.1.cls mt_LS_sheet.1 mt_LS_sheet.1 ∈ tb ∧ Cond.initialized mt_LS_sheet.1.cls ∈ tb ∧ Cond.code mt_LS_sheet.1 mt_LS_sheet.2.1 mt_LS_sheet.2.2.1 mt_LS_sheet.2.2.2 ∈ tb := ⟨tb_mem 801 rfl rfl, tb_mem 802 rfl rfl, tb_mem 69 rfl rfl, tb_mem 803 rfl rfl⟩
set_option maxRecDepth 20000 in
theorem fv_Sh_remove : Cond.instanceMethod mt_Sh_remove.1 ∈ tb ∧ Cond.selects mt_Sh_remove.1.cls mt_Sh_remove.1 mt_Sh_remove.1 ∈ tb ∧ Cond.initialized mt_Sh_remove.1.cls ∈ tb ∧ Cond.code mt_Sh_remove.1 mt_Sh_remove.2.1 mt_Sh_remove.2.2.1 mt_Sh_remove.2.2.2 ∈ tb := ⟨tb_mem 805 rfl rfl, tb_mem 806 rfl rfl, tb_mem 74 rfl rfl, tb_mem 807 rfl rfl⟩
set_option maxRecDepth 20000 in
theorem fv_Sh_lay : Cond.instanceMethod mt_Sh_lay.1 ∈ tb ∧ Cond.selects mt_Sh_lay.1.cls mt_Sh_lay.1 mt_Sh_lay.1 ∈ tb ∧ Cond.initialized mt_Sh_lay.1.cls ∈ tb ∧ Cond.code mt_Sh_lay.1 mt_Sh_lay.2.1 mt_Sh_lay.2.2.1 mt_Sh_lay.2.2.2 ∈ tb := ⟨tb_mem 809 rfl rfl, tb_mem 810 rfl rfl, tb_mem 74 rfl rfl, tb_mem 811 rfl rfl⟩
set_option maxRecDepth 20000 in
theorem fv_LS_put : Cond.instanceMethod mt_LS_put.1 ∈ tb ∧ Cond.selects mt_LS_put.1.cls mt_LS_put.1 mt_LS_put.1 ∈ tb ∧ Cond.initialized mt_LS_put.1.cls ∈ tb ∧ Cond.code mt_LS_put.1 mt_LS_put.2.1 mt_LS_put.2.2.1 mt_LS_put.2.2.2 ∈ tb := ⟨tb_mem 813 rfl rfl, tb_mem 814 rfl rfl, tb_mem 69 rfl rfl, tb_mem 815 rfl rfl⟩
set_option maxRecDepth 20000 in
theorem fv_Sh_hasItem : Cond.instanceMethod mt_Sh_hasItem.1 ∈ tb ∧ Cond.selects mt_Sh_hasItem.1.cls mt_Sh_hasItem.1 mt_Sh_hasItem.1 ∈ tb ∧ Cond.initialized mt_Sh_hasItem.1.cls ∈ tb ∧ Cond.code mt_Sh_hasItem.1 mt_Sh_hasItem.2.1 mt_Sh_hasItem.2.2.1 mt_Sh_hasItem.2.2.2 ∈ tb := ⟨tb_mem 817 rfl rfl, tb_mem 818 rfl rfl, tb_mem 74 rfl rfl, tb_mem 819 rfl rfl⟩
set_option maxRecDepth 20000 in
theorem fv_Sh_write : Cond.instanceMethod mt_Sh_write.1 ∈ tb ∧ Cond.selects mt_Sh_write.1.cls mt_Sh_write.1 mt_Sh_write.1 ∈ tb ∧ Cond.initialized mt_Sh_write.1.cls ∈ tb ∧ Cond.code mt_Sh_write.1 mt_Sh_write.2.1 mt_Sh_write.2.2.1 mt_Sh_write.2.2.2 ∈ tb := ⟨tb_mem 821 rfl rfl, tb_mem 822 rfl rfl, tb_mem 74 rfl rfl, tb_mem 823 rfl rfl⟩
set_option maxRecDepth 20000 in
theorem fs_Sh_narrowed : Cond.static mt_Sh_narrowed.1 ∈ tb ∧ Cond.initialized mt_Sh_narrowed.1.cls ∈ tb ∧ Cond.code mt_Sh_narrowed.1 mt_Sh_narrowed.2.1 mt_Sh_narrowed.2.2.1 mt_Sh_narrowed.2.2.2 ∈ tb := ⟨tb_mem 825 rfl rfl, tb_mem 74 rfl rfl, tb_mem 826 rfl rfl⟩
set_option maxRecDepth 20000 in
theorem fv_LS_item : Cond.instanceMethod mt_LS_item.1 ∈ tb ∧ Cond.selects mt_LS_item.1.cls mt_LS_item.1 mt_LS_item.1 ∈ tb ∧ Cond.initialized mt_LS_item.1.cls ∈ tb ∧ Cond.code mt_LS_item.1 mt_LS_item.2.1 mt_LS_item.2.2.1 mt_LS_item.2.2.2 ∈ tb := ⟨tb_mem 828 rfl rfl, tb_mem 829 rfl rfl, tb_mem 69 rfl rfl, tb_mem 830 rfl rfl⟩
set_option maxRecDepth 20000 in
theorem fv_LS_shelf : Cond.instanceMethod mt_LS_shelf.1 ∈ tb ∧ Cond.selects mt_LS_shelf.1.cls mt_LS_shelf.1 mt_LS_shelf.1 ∈ tb ∧ Cond.initialized mt_LS_shelf.1.cls ∈ tb ∧ Cond.code mt_LS_shelf.1 mt_LS_shelf.2.1 mt_LS_shelf.2.2.1 mt_LS_shelf.2.2.2 ∈ tb := ⟨tb_mem 832 rfl rfl, tb_mem 833 rfl rfl, tb_mem 69 rfl rfl, tb_mem 834 rfl rfl⟩
set_option maxRecDepth 20000 in
theorem fs_LS_isShelf : Cond.static mt_LS_isShelf.1 ∈ tb ∧ Cond.initialized mt_LS_isShelf.1.cls ∈ tb ∧ Cond.code mt_LS_isShelf.1 mt_LS_isShelf.2.1 mt_LS_isShelf.2.2.1 mt_LS_isShelf.2.2.2 ∈ tb := ⟨tb_mem 836 rfl rfl, tb_mem 69 rfl rfl, tb_mem 837 rfl rfl⟩
set_option maxRecDepth 20000 in
theorem fv_Sv_holdPerson : Cond.instanceMethod mt_Sv_holdPerson.1 ∈ tb ∧ Cond.selects mt_Sv_holdPerson.1.cls mt_Sv_holdPerson.1 mt_Sv_holdPerson.1 ∈ tb ∧ Cond.initialized mt_Sv_holdPerson.1.cls ∈ tb ∧ Cond.code mt_Sv_holdPerson.1 mt_Sv_holdPerson.2.1 mt_Sv_holdPerson.2.2.1 mt_Sv_holdPerson.2.2.2 ∈ tb := ⟨tb_mem 839 rfl rfl, tb_mem 840 rfl rfl, tb_mem 75 rfl rfl, tb_mem 841 rfl rfl⟩
set_option maxRecDepth 20000 in
theorem fv_Sv_holdNothing : Cond.instanceMethod mt_Sv_holdNothing.1 ∈ tb ∧ Cond.selects mt_Sv_holdNothing.1.cls mt_Sv_holdNothing.1 mt_Sv_holdNothing.1 ∈ tb ∧ Cond.initialized mt_Sv_holdNothing.1.cls ∈ tb ∧ Cond.code mt_Sv_holdNothing.1 mt_Sv_holdNothing.2.1 mt_Sv_holdNothing.2.2.1 mt_Sv_holdNothing.2.2.2 ∈ tb := ⟨tb_mem 843 rfl rfl, tb_mem 844 rfl rfl, tb_mem 75 rfl rfl, tb_mem 845 rfl rfl⟩
set_option maxRecDepth 20000 in
theorem fv_Sv_holdRow : Cond.instanceMethod mt_Sv_holdRow.1 ∈ tb ∧ Cond.selects mt_Sv_holdRow.1.cls mt_Sv_holdRow.1 mt_Sv_holdRow.1 ∈ tb ∧ Cond.initialized mt_Sv_holdRow.1.cls ∈ tb ∧ Cond.code mt_Sv_holdRow.1 mt_Sv_holdRow.2.1 mt_Sv_holdRow.2.2.1 mt_Sv_holdRow.2.2.2 ∈ tb := ⟨tb_mem 847 rfl rfl, tb_mem 848 rfl rfl, tb_mem 75 rfl rfl, tb_mem 849 rfl rfl⟩
set_option maxRecDepth 20000 in
theorem fv_LS_taken : Cond.instanceMethod mt_LS_taken.1 ∈ tb ∧ Cond.selects mt_LS_taken.1.cls mt_LS_taken.1 mt_LS_taken.1 ∈ tb ∧ Cond.initialized mt_LS_taken.1.cls ∈ tb ∧ Cond.code mt_LS_taken.1 mt_LS_taken.2.1 mt_LS_taken.2.2.1 mt_LS_taken.2.2.2 ∈ tb := ⟨tb_mem 852 rfl rfl, tb_mem 853 rfl rfl, tb_mem 69 rfl rfl, tb_mem 854 rfl rfl⟩
set_option maxRecDepth 20000 in
theorem fv_Sv_holdsRow : Cond.instanceMethod mt_Sv_holdsRow.1 ∈ tb ∧ Cond.selects mt_Sv_holdsRow.1.cls mt_Sv_holdsRow.1 mt_Sv_holdsRow.1 ∈ tb ∧ Cond.initialized mt_Sv_holdsRow.1.cls ∈ tb ∧ Cond.code mt_Sv_holdsRow.1 mt_Sv_holdsRow.2.1 mt_Sv_holdsRow.2.2.1 mt_Sv_holdsRow.2.2.2 ∈ tb := ⟨tb_mem 856 rfl rfl, tb_mem 857 rfl rfl, tb_mem 75 rfl rfl, tb_mem 858 rfl rfl⟩
set_option maxRecDepth 20000 in
theorem fs_LS_isUnder : Cond.static mt_LS_isUnder.1 ∈ tb ∧ Cond.initialized mt_LS_isUnder.1.cls ∈ tb ∧ Cond.code mt_LS_isUnder.1 mt_LS_isUnder.2.1 mt_LS_isUnder.2.2.1 mt_LS_isUnder.2.2.2 ∈ tb := ⟨tb_mem 860 rfl rfl, tb_mem 69 rfl rfl, tb_mem 861 rfl rfl⟩
set_option maxRecDepth 20000 in
theorem fv_LS_act : Cond.instanceMethod mt_LS_act.1 ∈ tb ∧ Cond.selects mt_LS_act.1.cls mt_LS_act.1 mt_LS_act.1 ∈ tb ∧ Cond.initialized mt_LS_act.1.cls ∈ tb ∧ Cond.code mt_LS_act.1 mt_LS_act.2.1 mt_LS_act.2.2.1 mt_LS_act.2.2.2 ∈ tb := ⟨tb_mem 865 rfl rfl, tb_mem 866 rfl rfl, tb_mem 69 rfl rfl, tb_mem 867 rfl rfl⟩
set_option maxRecDepth 20000 in
theorem fv_Ac_perform : Cond.instanceMethod mt_Ac_perform.1 ∈ tb ∧ Cond.selects mt_Ac_perform.1.cls mt_Ac_perform.1 mt_Ac_perform.1 ∈ tb ∧ Cond.initialized mt_Ac_perform.1.cls ∈ tb ∧ Cond.code mt_Ac_perform.1 mt_Ac_perform.2.1 mt_Ac_perform.2.2.1 mt_Ac_perform.2.2.2 ∈ tb := ⟨tb_mem 869 rfl rfl, tb_mem 870 rfl rfl, tb_mem 76 rfl rfl, tb_mem 871 rfl rfl⟩
set_option maxRecDepth 20000 in
theorem fv_Ac_run : Cond.instanceMethod mt_Ac_run.1 ∈ tb ∧ Cond.selects mt_Ac_run.1.cls mt_Ac_run.1 mt_Ac_run.1 ∈ tb ∧ Cond.initialized mt_Ac_run.1.cls ∈ tb ∧ Cond.code mt_Ac_run.1 mt_Ac_run.2.1 mt_Ac_run.2.2.1 mt_Ac_run.2.2.2 ∈ tb := ⟨tb_mem 874 rfl rfl, tb_mem 18 rfl rfl, tb_mem 76 rfl rfl, tb_mem 875 rfl rfl⟩
set_option maxRecDepth 20000 in
theorem fv_Ac_quotient : Cond.instanceMethod mt_Ac_quotient.1 ∈ tb ∧ Cond.selects mt_Ac_quotient.1.cls mt_Ac_quotient.1 mt_Ac_quotient.1 ∈ tb ∧ Cond.initialized mt_Ac_quotient.1.cls ∈ tb ∧ Cond.code mt_Ac_quotient.1 mt_Ac_quotient.2.1 mt_Ac_quotient.2.2.1 mt_Ac_quotient.2.2.2 ∈ tb := ⟨tb_mem 880 rfl rfl, tb_mem 19 rfl rfl, tb_mem 76 rfl rfl, tb_mem 881 rfl rfl⟩
set_option maxRecDepth 20000 in
theorem fv_LS_trace : Cond.instanceMethod mt_LS_trace.1 ∈ tb ∧ Cond.selects mt_LS_trace.1.cls mt_LS_trace.1 mt_LS_trace.1 ∈ tb ∧ Cond.initialized mt_LS_trace.1.cls ∈ tb ∧ Cond.code mt_LS_trace.1 mt_LS_trace.2.1 mt_LS_trace.2.2.1 mt_LS_trace.2.2.2 ∈ tb := ⟨tb_mem 883 rfl rfl, tb_mem 884 rfl rfl, tb_mem 69 rfl rfl, tb_mem 885 rfl rfl⟩
set_option maxRecDepth 20000 in
theorem fv_LS_many : Cond.instanceMethod mt_LS_many.1 ∈ tb ∧ Cond.selects mt_LS_many.1.cls mt_LS_many.1 mt_LS_many.1 ∈ tb ∧ Cond.initialized mt_LS_many.1.cls ∈ tb ∧ Cond.code mt_LS_many.1 mt_LS_many.2.1 mt_LS_many.2.2.1 mt_LS_many.2.2.2 ∈ tb := ⟨tb_mem 887 rfl rfl, tb_mem 888 rfl rfl, tb_mem 69 rfl rfl, tb_mem 889 rfl rfl⟩
set_option maxRecDepth 20000 in
theorem fv_Pk_peopleInCompany : Cond.instanceMethod mt_Pk_peopleInCompany.1 ∈ tb ∧ Cond.selects mt_Pk_peopleInCompany.1.cls mt_Pk_peopleInCompany.1 mt_Pk_peopleInCompany.1 ∈ tb ∧ Cond.initialized mt_Pk_peopleInCompany.1.cls ∈ tb ∧ Cond.code mt_Pk_peopleInCompany.1 mt_Pk_peopleInCompany.2.1 mt_Pk_peopleInCompany.2.2.1 mt_Pk_peopleInCompany.2.2.2 ∈ tb := ⟨tb_mem 891 rfl rfl, tb_mem 892 rfl rfl, tb_mem 71 rfl rfl, tb_mem 893 rfl rfl⟩
set_option maxRecDepth 20000 in
theorem fv_LS_keep : Cond.instanceMethod mt_LS_keep.1 ∈ tb ∧ Cond.selects mt_LS_keep.1.cls mt_LS_keep.1 mt_LS_keep.1 ∈ tb ∧ Cond.initialized mt_LS_keep.1.cls ∈ tb ∧ Cond.code mt_LS_keep.1 mt_LS_keep.2.1 mt_LS_keep.2.2.1 mt_LS_keep.2.2.2 ∈ tb := ⟨tb_mem 896 rfl rfl, tb_mem 897 rfl rfl, tb_mem 69 rfl rfl, tb_mem 898 rfl rfl⟩
set_option maxRecDepth 20000 in
theorem fv_LS_again : Cond.instanceMethod mt_LS_again.1 ∈ tb ∧ Cond.selects mt_LS_again.1.cls mt_LS_again.1 mt_LS_again.1 ∈ tb ∧ Cond.initialized mt_LS_again.1.cls ∈ tb ∧ Cond.code mt_LS_again.1 mt_LS_again.2.1 mt_LS_again.2.2.1 mt_LS_again.2.2.2 ∈ tb := ⟨tb_mem 900 rfl rfl, tb_mem 901 rfl rfl, tb_mem 69 rfl rfl, tb_mem 902 rfl rfl⟩
set_option maxRecDepth 20000 in
theorem fv_Md_begins : Cond.instanceMethod mt_Md_begins.1 ∈ tb ∧ Cond.selects mt_Md_begins.1.cls mt_Md_begins.1 mt_Md_begins.1 ∈ tb ∧ Cond.initialized mt_Md_begins.1.cls ∈ tb ∧ Cond.code mt_Md_begins.1 mt_Md_begins.2.1 mt_Md_begins.2.2.1 mt_Md_begins.2.2.2 ∈ tb := ⟨tb_mem 911 rfl rfl, tb_mem 20 rfl rfl, tb_mem 77 rfl rfl, tb_mem 912 rfl rfl⟩
set_option maxRecDepth 20000 in
theorem fv_Md_feed : Cond.instanceMethod mt_Md_feed.1 ∈ tb ∧ Cond.selects mt_Md_feed.1.cls mt_Md_feed.1 mt_Md_feed.1 ∈ tb ∧ Cond.initialized mt_Md_feed.1.cls ∈ tb ∧ Cond.code mt_Md_feed.1 mt_Md_feed.2.1 mt_Md_feed.2.2.1 mt_Md_feed.2.2.2 ∈ tb := ⟨tb_mem 996 rfl rfl, tb_mem 997 rfl rfl, tb_mem 77 rfl rfl, tb_mem 998 rfl rfl⟩
set_option maxRecDepth 20000 in
theorem fs_Md_isIn : Cond.static mt_Md_isIn.1 ∈ tb ∧ Cond.initialized mt_Md_isIn.1.cls ∈ tb ∧ Cond.code mt_Md_isIn.1 mt_Md_isIn.2.1 mt_Md_isIn.2.2.1 mt_Md_isIn.2.2.2 ∈ tb := ⟨tb_mem 1001 rfl rfl, tb_mem 77 rfl rfl, tb_mem 1002 rfl rfl⟩
set_option maxRecDepth 20000 in
theorem fv_Md_park : Cond.instanceMethod mt_Md_park.1 ∈ tb ∧ Cond.selects mt_Md_park.1.cls mt_Md_park.1 mt_Md_park.1 ∈ tb ∧ Cond.initialized mt_Md_park.1.cls ∈ tb ∧ Cond.code mt_Md_park.1 mt_Md_park.2.1 mt_Md_park.2.2.1 mt_Md_park.2.2.2 ∈ tb := ⟨tb_mem 1005 rfl rfl, tb_mem 1006 rfl rfl, tb_mem 77 rfl rfl, tb_mem 1007 rfl rfl⟩
set_option maxRecDepth 20000 in
theorem fs_Md_copyRow : Cond.static mt_Md_copyRow.1 ∈ tb ∧ Cond.initialized mt_Md_copyRow.1.cls ∈ tb ∧ Cond.code mt_Md_copyRow.1 mt_Md_copyRow.2.1 mt_Md_copyRow.2.2.1 mt_Md_copyRow.2.2.2 ∈ tb := ⟨tb_mem 1009 rfl rfl, tb_mem 77 rfl rfl, tb_mem 1010 rfl rfl⟩
set_option maxRecDepth 20000 in
theorem fv_Md_nextToken : Cond.instanceMethod mt_Md_nextToken.1 ∈ tb ∧ Cond.selects mt_Md_nextToken.1.cls mt_Md_nextToken.1 mt_Md_nextToken.1 ∈ tb ∧ Cond.initialized mt_Md_nextToken.1.cls ∈ tb ∧ Cond.code mt_Md_nextToken.1 mt_Md_nextToken.2.1 mt_Md_nextToken.2.2.1 mt_Md_nextToken.2.2.2 ∈ tb := ⟨tb_mem 1013 rfl rfl, tb_mem 21 rfl rfl, tb_mem 77 rfl rfl, tb_mem 1014 rfl rfl⟩
set_option maxRecDepth 20000 in
theorem fv_Md_byteAt : Cond.instanceMethod mt_Md_byteAt.1 ∈ tb ∧ Cond.selects mt_Md_byteAt.1.cls mt_Md_byteAt.1 mt_Md_byteAt.1 ∈ tb ∧ Cond.initialized mt_Md_byteAt.1.cls ∈ tb ∧ Cond.code mt_Md_byteAt.1 mt_Md_byteAt.2.1 mt_Md_byteAt.2.2.1 mt_Md_byteAt.2.2.2 ∈ tb := ⟨tb_mem 1017 rfl rfl, tb_mem 22 rfl rfl, tb_mem 77 rfl rfl, tb_mem 1018 rfl rfl⟩
set_option maxRecDepth 20000 in
theorem fs_Md_isAlpha : Cond.static mt_Md_isAlpha.1 ∈ tb ∧ Cond.initialized mt_Md_isAlpha.1.cls ∈ tb ∧ Cond.code mt_Md_isAlpha.1 mt_Md_isAlpha.2.1 mt_Md_isAlpha.2.2.1 mt_Md_isAlpha.2.2.2 ∈ tb := ⟨tb_mem 1020 rfl rfl, tb_mem 77 rfl rfl, tb_mem 1021 rfl rfl⟩
set_option maxRecDepth 20000 in
theorem fs_Md_isDigit : Cond.static mt_Md_isDigit.1 ∈ tb ∧ Cond.initialized mt_Md_isDigit.1.cls ∈ tb ∧ Cond.code mt_Md_isDigit.1 mt_Md_isDigit.2.1 mt_Md_isDigit.2.2.1 mt_Md_isDigit.2.2.2 ∈ tb := ⟨tb_mem 1023 rfl rfl, tb_mem 77 rfl rfl, tb_mem 1024 rfl rfl⟩
set_option maxRecDepth 20000 in
theorem fv_Md_itemHere : Cond.instanceMethod mt_Md_itemHere.1 ∈ tb ∧ Cond.selects mt_Md_itemHere.1.cls mt_Md_itemHere.1 mt_Md_itemHere.1 ∈ tb ∧ Cond.initialized mt_Md_itemHere.1.cls ∈ tb ∧ Cond.code mt_Md_itemHere.1 mt_Md_itemHere.2.1 mt_Md_itemHere.2.2.1 mt_Md_itemHere.2.2.2 ∈ tb := ⟨tb_mem 1027 rfl rfl, tb_mem 23 rfl rfl, tb_mem 77 rfl rfl, tb_mem 1028 rfl rfl⟩
set_option maxRecDepth 20000 in
theorem fv_Md_kindHere : Cond.instanceMethod mt_Md_kindHere.1 ∈ tb ∧ Cond.selects mt_Md_kindHere.1.cls mt_Md_kindHere.1 mt_Md_kindHere.1 ∈ tb ∧ Cond.initialized mt_Md_kindHere.1.cls ∈ tb ∧ Cond.code mt_Md_kindHere.1 mt_Md_kindHere.2.1 mt_Md_kindHere.2.2.1 mt_Md_kindHere.2.2.2 ∈ tb := ⟨tb_mem 1031 rfl rfl, tb_mem 24 rfl rfl, tb_mem 77 rfl rfl, tb_mem 1032 rfl rfl⟩
set_option maxRecDepth 20000 in
theorem fv_Md_isFive : Cond.instanceMethod mt_Md_isFive.1 ∈ tb ∧ Cond.selects mt_Md_isFive.1.cls mt_Md_isFive.1 mt_Md_isFive.1 ∈ tb ∧ Cond.initialized mt_Md_isFive.1.cls ∈ tb ∧ Cond.code mt_Md_isFive.1 mt_Md_isFive.2.1 mt_Md_isFive.2.2.1 mt_Md_isFive.2.2.2 ∈ tb := ⟨tb_mem 1035 rfl rfl, tb_mem 25 rfl rfl, tb_mem 77 rfl rfl, tb_mem 1036 rfl rfl⟩
set_option maxRecDepth 20000 in
theorem fv_Md_isName : Cond.instanceMethod mt_Md_isName.1 ∈ tb ∧ Cond.selects mt_Md_isName.1.cls mt_Md_isName.1 mt_Md_isName.1 ∈ tb ∧ Cond.initialized mt_Md_isName.1.cls ∈ tb ∧ Cond.code mt_Md_isName.1 mt_Md_isName.2.1 mt_Md_isName.2.2.1 mt_Md_isName.2.2.2 ∈ tb := ⟨tb_mem 1039 rfl rfl, tb_mem 26 rfl rfl, tb_mem 77 rfl rfl, tb_mem 1040 rfl rfl⟩
set_option maxRecDepth 20000 in
theorem fv_Md_isSame : Cond.instanceMethod mt_Md_isSame.1 ∈ tb ∧ Cond.selects mt_Md_isSame.1.cls mt_Md_isSame.1 mt_Md_isSame.1 ∈ tb ∧ Cond.initialized mt_Md_isSame.1.cls ∈ tb ∧ Cond.code mt_Md_isSame.1 mt_Md_isSame.2.1 mt_Md_isSame.2.2.1 mt_Md_isSame.2.2.2 ∈ tb := ⟨tb_mem 1043 rfl rfl, tb_mem 27 rfl rfl, tb_mem 77 rfl rfl, tb_mem 1044 rfl rfl⟩
set_option maxRecDepth 20000 in
theorem fv_Md_isFour : Cond.instanceMethod mt_Md_isFour.1 ∈ tb ∧ Cond.selects mt_Md_isFour.1.cls mt_Md_isFour.1 mt_Md_isFour.1 ∈ tb ∧ Cond.initialized mt_Md_isFour.1.cls ∈ tb ∧ Cond.code mt_Md_isFour.1 mt_Md_isFour.2.1 mt_Md_isFour.2.2.1 mt_Md_isFour.2.2.2 ∈ tb := ⟨tb_mem 1047 rfl rfl, tb_mem 28 rfl rfl, tb_mem 77 rfl rfl, tb_mem 1048 rfl rfl⟩
set_option maxRecDepth 20000 in
theorem fv_Md_lawHere : Cond.instanceMethod mt_Md_lawHere.1 ∈ tb ∧ Cond.selects mt_Md_lawHere.1.cls mt_Md_lawHere.1 mt_Md_lawHere.1 ∈ tb ∧ Cond.initialized mt_Md_lawHere.1.cls ∈ tb ∧ Cond.code mt_Md_lawHere.1 mt_Md_lawHere.2.1 mt_Md_lawHere.2.2.1 mt_Md_lawHere.2.2.2 ∈ tb := ⟨tb_mem 1051 rfl rfl, tb_mem 29 rfl rfl, tb_mem 77 rfl rfl, tb_mem 1052 rfl rfl⟩
set_option maxRecDepth 20000 in
theorem fv_Md_personHere : Cond.instanceMethod mt_Md_personHere.1 ∈ tb ∧ Cond.selects mt_Md_personHere.1.cls mt_Md_personHere.1 mt_Md_personHere.1 ∈ tb ∧ Cond.initialized mt_Md_personHere.1.cls ∈ tb ∧ Cond.code mt_Md_personHere.1 mt_Md_personHere.2.1 mt_Md_personHere.2.2.1 mt_Md_personHere.2.2.2 ∈ tb := ⟨tb_mem 1055 rfl rfl, tb_mem 30 rfl rfl, tb_mem 77 rfl rfl, tb_mem 1056 rfl rfl⟩
set_option maxRecDepth 20000 in
theorem fv_Md_needs : Cond.instanceMethod mt_Md_needs.1 ∈ tb ∧ Cond.selects mt_Md_needs.1.cls mt_Md_needs.1 mt_Md_needs.1 ∈ tb ∧ Cond.initialized mt_Md_needs.1.cls ∈ tb ∧ Cond.code mt_Md_needs.1 mt_Md_needs.2.1 mt_Md_needs.2.2.1 mt_Md_needs.2.2.2 ∈ tb := ⟨tb_mem 1059 rfl rfl, tb_mem 31 rfl rfl, tb_mem 77 rfl rfl, tb_mem 1060 rfl rfl⟩
set_option maxRecDepth 20000 in
theorem fv_Md_isTwo : Cond.instanceMethod mt_Md_isTwo.1 ∈ tb ∧ Cond.selects mt_Md_isTwo.1.cls mt_Md_isTwo.1 mt_Md_isTwo.1 ∈ tb ∧ Cond.initialized mt_Md_isTwo.1.cls ∈ tb ∧ Cond.code mt_Md_isTwo.1 mt_Md_isTwo.2.1 mt_Md_isTwo.2.2.1 mt_Md_isTwo.2.2.2 ∈ tb := ⟨tb_mem 1063 rfl rfl, tb_mem 32 rfl rfl, tb_mem 77 rfl rfl, tb_mem 1064 rfl rfl⟩
set_option maxRecDepth 20000 in
theorem fv_Md_numberTo : Cond.instanceMethod mt_Md_numberTo.1 ∈ tb ∧ Cond.selects mt_Md_numberTo.1.cls mt_Md_numberTo.1 mt_Md_numberTo.1 ∈ tb ∧ Cond.initialized mt_Md_numberTo.1.cls ∈ tb ∧ Cond.code mt_Md_numberTo.1 mt_Md_numberTo.2.1 mt_Md_numberTo.2.2.1 mt_Md_numberTo.2.2.2 ∈ tb := ⟨tb_mem 1067 rfl rfl, tb_mem 33 rfl rfl, tb_mem 77 rfl rfl, tb_mem 1068 rfl rfl⟩
set_option maxRecDepth 20000 in
theorem fv_Md_perhaps : Cond.instanceMethod mt_Md_perhaps.1 ∈ tb ∧ Cond.selects mt_Md_perhaps.1.cls mt_Md_perhaps.1 mt_Md_perhaps.1 ∈ tb ∧ Cond.initialized mt_Md_perhaps.1.cls ∈ tb ∧ Cond.code mt_Md_perhaps.1 mt_Md_perhaps.2.1 mt_Md_perhaps.2.2.1 mt_Md_perhaps.2.2.2 ∈ tb := ⟨tb_mem 1071 rfl rfl, tb_mem 34 rfl rfl, tb_mem 77 rfl rfl, tb_mem 1072 rfl rfl⟩
set_option maxRecDepth 20000 in
theorem fv_Md_coverHere : Cond.instanceMethod mt_Md_coverHere.1 ∈ tb ∧ Cond.selects mt_Md_coverHere.1.cls mt_Md_coverHere.1 mt_Md_coverHere.1 ∈ tb ∧ Cond.initialized mt_Md_coverHere.1.cls ∈ tb ∧ Cond.code mt_Md_coverHere.1 mt_Md_coverHere.2.1 mt_Md_coverHere.2.2.1 mt_Md_coverHere.2.2.2 ∈ tb := ⟨tb_mem 1075 rfl rfl, tb_mem 35 rfl rfl, tb_mem 77 rfl rfl, tb_mem 1076 rfl rfl⟩
set_option maxRecDepth 20000 in
theorem fv_Md_set : Cond.instanceMethod mt_Md_set.1 ∈ tb ∧ Cond.selects mt_Md_set.1.cls mt_Md_set.1 mt_Md_set.1 ∈ tb ∧ Cond.initialized mt_Md_set.1.cls ∈ tb ∧ Cond.code mt_Md_set.1 mt_Md_set.2.1 mt_Md_set.2.2.1 mt_Md_set.2.2.2 ∈ tb := ⟨tb_mem 1078 rfl rfl, tb_mem 1079 rfl rfl, tb_mem 77 rfl rfl, tb_mem 1080 rfl rfl⟩
set_option maxRecDepth 20000 in
theorem fs_Md_mostOf : Cond.static mt_Md_mostOf.1 ∈ tb ∧ Cond.initialized mt_Md_mostOf.1.cls ∈ tb ∧ Cond.code mt_Md_mostOf.1 mt_Md_mostOf.2.1 mt_Md_mostOf.2.2.1 mt_Md_mostOf.2.2.2 ∈ tb := ⟨tb_mem 1083 rfl rfl, tb_mem 77 rfl rfl, tb_mem 1084 rfl rfl⟩
set_option maxRecDepth 20000 in
theorem fv_Md_becomes : Cond.instanceMethod mt_Md_becomes.1 ∈ tb ∧ Cond.selects mt_Md_becomes.1.cls mt_Md_becomes.1 mt_Md_becomes.1 ∈ tb ∧ Cond.initialized mt_Md_becomes.1.cls ∈ tb ∧ Cond.code mt_Md_becomes.1 mt_Md_becomes.2.1 mt_Md_becomes.2.2.1 mt_Md_becomes.2.2.2 ∈ tb := ⟨tb_mem 1087 rfl rfl, tb_mem 36 rfl rfl, tb_mem 77 rfl rfl, tb_mem 1088 rfl rfl⟩
set_option maxRecDepth 20000 in
theorem fv_Md_lawOf : Cond.instanceMethod mt_Md_lawOf.1 ∈ tb ∧ Cond.selects mt_Md_lawOf.1.cls mt_Md_lawOf.1 mt_Md_lawOf.1 ∈ tb ∧ Cond.initialized mt_Md_lawOf.1.cls ∈ tb ∧ Cond.code mt_Md_lawOf.1 mt_Md_lawOf.2.1 mt_Md_lawOf.2.2.1 mt_Md_lawOf.2.2.2 ∈ tb := ⟨tb_mem 1090 rfl rfl, tb_mem 1091 rfl rfl, tb_mem 77 rfl rfl, tb_mem 1092 rfl rfl⟩
set_option maxRecDepth 20000 in
theorem fv_Md_person : Cond.instanceMethod mt_Md_person.1 ∈ tb ∧ Cond.selects mt_Md_person.1.cls mt_Md_person.1 mt_Md_person.1 ∈ tb ∧ Cond.initialized mt_Md_person.1.cls ∈ tb ∧ Cond.code mt_Md_person.1 mt_Md_person.2.1 mt_Md_person.2.2.1 mt_Md_person.2.2.2 ∈ tb := ⟨tb_mem 1094 rfl rfl, tb_mem 1095 rfl rfl, tb_mem 77 rfl rfl, tb_mem 1096 rfl rfl⟩
set_option maxRecDepth 20000 in
theorem fs_Md_isPlace : Cond.static mt_Md_isPlace.1 ∈ tb ∧ Cond.initialized mt_Md_isPlace.1.cls ∈ tb ∧ Cond.code mt_Md_isPlace.1 mt_Md_isPlace.2.1 mt_Md_isPlace.2.2.1 mt_Md_isPlace.2.2.2 ∈ tb := ⟨tb_mem 1101 rfl rfl, tb_mem 77 rfl rfl, tb_mem 1102 rfl rfl⟩
set_option maxRecDepth 20000 in
theorem fv_Md_of : Cond.instanceMethod mt_Md_of.1 ∈ tb ∧ Cond.selects mt_Md_of.1.cls mt_Md_of.1 mt_Md_of.1 ∈ tb ∧ Cond.initialized mt_Md_of.1.cls ∈ tb ∧ Cond.code mt_Md_of.1 mt_Md_of.2.1 mt_Md_of.2.2.1 mt_Md_of.2.2.2 ∈ tb := ⟨tb_mem 1104 rfl rfl, tb_mem 1105 rfl rfl, tb_mem 77 rfl rfl, tb_mem 1106 rfl rfl⟩
set_option maxRecDepth 20000 in
theorem fv_Md_isOne : Cond.instanceMethod mt_Md_isOne.1 ∈ tb ∧ Cond.selects mt_Md_isOne.1.cls mt_Md_isOne.1 mt_Md_isOne.1 ∈ tb ∧ Cond.initialized mt_Md_isOne.1.cls ∈ tb ∧ Cond.code mt_Md_isOne.1 mt_Md_isOne.2.1 mt_Md_isOne.2.2.1 mt_Md_isOne.2.2.2 ∈ tb := ⟨tb_mem 1109 rfl rfl, tb_mem 37 rfl rfl, tb_mem 77 rfl rfl, tb_mem 1110 rfl rfl⟩
set_option maxRecDepth 20000 in
theorem fv_Md_its : Cond.instanceMethod mt_Md_its.1 ∈ tb ∧ Cond.selects mt_Md_its.1.cls mt_Md_its.1 mt_Md_its.1 ∈ tb ∧ Cond.initialized mt_Md_its.1.cls ∈ tb ∧ Cond.code mt_Md_its.1 mt_Md_its.2.1 mt_Md_its.2.2.1 mt_Md_its.2.2.2 ∈ tb := ⟨tb_mem 1113 rfl rfl, tb_mem 38 rfl rfl, tb_mem 77 rfl rfl, tb_mem 1114 rfl rfl⟩
set_option maxRecDepth 20000 in
theorem fv_Md_does : Cond.instanceMethod mt_Md_does.1 ∈ tb ∧ Cond.selects mt_Md_does.1.cls mt_Md_does.1 mt_Md_does.1 ∈ tb ∧ Cond.initialized mt_Md_does.1.cls ∈ tb ∧ Cond.code mt_Md_does.1 mt_Md_does.2.1 mt_Md_does.2.2.1 mt_Md_does.2.2.2 ∈ tb := ⟨tb_mem 1116 rfl rfl, tb_mem 1117 rfl rfl, tb_mem 77 rfl rfl, tb_mem 1118 rfl rfl⟩
set_option maxRecDepth 20000 in
theorem fv_Md_hides : Cond.instanceMethod mt_Md_hides.1 ∈ tb ∧ Cond.selects mt_Md_hides.1.cls mt_Md_hides.1 mt_Md_hides.1 ∈ tb ∧ Cond.initialized mt_Md_hides.1.cls ∈ tb ∧ Cond.code mt_Md_hides.1 mt_Md_hides.2.1 mt_Md_hides.2.2.1 mt_Md_hides.2.2.2 ∈ tb := ⟨tb_mem 1122 rfl rfl, tb_mem 39 rfl rfl, tb_mem 77 rfl rfl, tb_mem 1123 rfl rfl⟩
set_option maxRecDepth 20000 in
theorem fv_Md_sees : Cond.instanceMethod mt_Md_sees.1 ∈ tb ∧ Cond.selects mt_Md_sees.1.cls mt_Md_sees.1 mt_Md_sees.1 ∈ tb ∧ Cond.initialized mt_Md_sees.1.cls ∈ tb ∧ Cond.code mt_Md_sees.1 mt_Md_sees.2.1 mt_Md_sees.2.2.1 mt_Md_sees.2.2.2 ∈ tb := ⟨tb_mem 1126 rfl rfl, tb_mem 40 rfl rfl, tb_mem 77 rfl rfl, tb_mem 1127 rfl rfl⟩
set_option maxRecDepth 20000 in
theorem fv_Md_strides : Cond.instanceMethod mt_Md_strides.1 ∈ tb ∧ Cond.selects mt_Md_strides.1.cls mt_Md_strides.1 mt_Md_strides.1 ∈ tb ∧ Cond.initialized mt_Md_strides.1.cls ∈ tb ∧ Cond.code mt_Md_strides.1 mt_Md_strides.2.1 mt_Md_strides.2.2.1 mt_Md_strides.2.2.2 ∈ tb := ⟨tb_mem 1130 rfl rfl, tb_mem 41 rfl rfl, tb_mem 77 rfl rfl, tb_mem 1131 rfl rfl⟩
set_option maxRecDepth 20000 in
theorem fv_Md_mind : Cond.instanceMethod mt_Md_mind.1 ∈ tb ∧ Cond.selects mt_Md_mind.1.cls mt_Md_mind.1 mt_Md_mind.1 ∈ tb ∧ Cond.initialized mt_Md_mind.1.cls ∈ tb ∧ Cond.code mt_Md_mind.1 mt_Md_mind.2.1 mt_Md_mind.2.2.1 mt_Md_mind.2.2.2 ∈ tb := ⟨tb_mem 1133 rfl rfl, tb_mem 1134 rfl rfl, tb_mem 77 rfl rfl, tb_mem 1135 rfl rfl⟩
set_option maxRecDepth 20000 in
theorem fv_Md_age : Cond.instanceMethod mt_Md_age.1 ∈ tb ∧ Cond.selects mt_Md_age.1.cls mt_Md_age.1 mt_Md_age.1 ∈ tb ∧ Cond.initialized mt_Md_age.1.cls ∈ tb ∧ Cond.code mt_Md_age.1 mt_Md_age.2.1 mt_Md_age.2.2.1 mt_Md_age.2.2.2 ∈ tb := ⟨tb_mem 1137 rfl rfl, tb_mem 1138 rfl rfl, tb_mem 77 rfl rfl, tb_mem 1139 rfl rfl⟩
set_option maxRecDepth 20000 in
theorem fv_Md_bring : Cond.instanceMethod mt_Md_bring.1 ∈ tb ∧ Cond.selects mt_Md_bring.1.cls mt_Md_bring.1 mt_Md_bring.1 ∈ tb ∧ Cond.initialized mt_Md_bring.1.cls ∈ tb ∧ Cond.code mt_Md_bring.1 mt_Md_bring.2.1 mt_Md_bring.2.2.1 mt_Md_bring.2.2.2 ∈ tb := ⟨tb_mem 1141 rfl rfl, tb_mem 1142 rfl rfl, tb_mem 77 rfl rfl, tb_mem 1143 rfl rfl⟩
set_option maxRecDepth 20000 in
theorem fv_Md_seek : Cond.instanceMethod mt_Md_seek.1 ∈ tb ∧ Cond.selects mt_Md_seek.1.cls mt_Md_seek.1 mt_Md_seek.1 ∈ tb ∧ Cond.initialized mt_Md_seek.1.cls ∈ tb ∧ Cond.code mt_Md_seek.1 mt_Md_seek.2.1 mt_Md_seek.2.2.1 mt_Md_seek.2.2.2 ∈ tb := ⟨tb_mem 1145 rfl rfl, tb_mem 1146 rfl rfl, tb_mem 77 rfl rfl, tb_mem 1147 rfl rfl⟩
set_option maxRecDepth 20000 in
theorem fv_Md_place : Cond.instanceMethod mt_Md_place.1 ∈ tb ∧ Cond.selects mt_Md_place.1.cls mt_Md_place.1 mt_Md_place.1 ∈ tb ∧ Cond.initialized mt_Md_place.1.cls ∈ tb ∧ Cond.code mt_Md_place.1 mt_Md_place.2.1 mt_Md_place.2.2.1 mt_Md_place.2.2.2 ∈ tb := ⟨tb_mem 1149 rfl rfl, tb_mem 1150 rfl rfl, tb_mem 77 rfl rfl, tb_mem 1151 rfl rfl⟩
set_option maxRecDepth 20000 in
theorem fv_Md_thoseAt : Cond.instanceMethod mt_Md_thoseAt.1 ∈ tb ∧ Cond.selects mt_Md_thoseAt.1.cls mt_Md_thoseAt.1 mt_Md_thoseAt.1 ∈ tb ∧ Cond.initialized mt_Md_thoseAt.1.cls ∈ tb ∧ Cond.code mt_Md_thoseAt.1 mt_Md_thoseAt.2.1 mt_Md_thoseAt.2.2.1 mt_Md_thoseAt.2.2.2 ∈ tb := ⟨tb_mem 1154 rfl rfl, tb_mem 42 rfl rfl, tb_mem 77 rfl rfl, tb_mem 1155 rfl rfl⟩
set_option maxRecDepth 20000 in
theorem fv_Md_hiddenOnes : Cond.instanceMethod mt_Md_hiddenOnes.1 ∈ tb ∧ Cond.selects mt_Md_hiddenOnes.1.cls mt_Md_hiddenOnes.1 mt_Md_hiddenOnes.1 ∈ tb ∧ Cond.initialized mt_Md_hiddenOnes.1.cls ∈ tb ∧ Cond.code mt_Md_hiddenOnes.1 mt_Md_hiddenOnes.2.1 mt_Md_hiddenOnes.2.2.1 mt_Md_hiddenOnes.2.2.2 ∈ tb := ⟨tb_mem 1158 rfl rfl, tb_mem 43 rfl rfl, tb_mem 77 rfl rfl, tb_mem 1159 rfl rfl⟩
set_option maxRecDepth 20000 in
theorem fs_Md_size : Cond.static mt_Md_size.1 ∈ tb ∧ Cond.initialized mt_Md_size.1.cls ∈ tb ∧ Cond.code mt_Md_size.1 mt_Md_size.2.1 mt_Md_size.2.2.1 mt_Md_size.2.2.2 ∈ tb := ⟨tb_mem 1161 rfl rfl, tb_mem 77 rfl rfl, tb_mem 1162 rfl rfl⟩
set_option maxRecDepth 20000 in
theorem fv_Md_cover : Cond.instanceMethod mt_Md_cover.1 ∈ tb ∧ Cond.selects mt_Md_cover.1.cls mt_Md_cover.1 mt_Md_cover.1 ∈ tb ∧ Cond.initialized mt_Md_cover.1.cls ∈ tb ∧ Cond.code mt_Md_cover.1 mt_Md_cover.2.1 mt_Md_cover.2.2.1 mt_Md_cover.2.2.2 ∈ tb := ⟨tb_mem 1164 rfl rfl, tb_mem 1165 rfl rfl, tb_mem 77 rfl rfl, tb_mem 1166 rfl rfl⟩
set_option maxRecDepth 20000 in
theorem fv_Md_years : Cond.instanceMethod mt_Md_years.1 ∈ tb ∧ Cond.selects mt_Md_years.1.cls mt_Md_years.1 mt_Md_years.1 ∈ tb ∧ Cond.initialized mt_Md_years.1.cls ∈ tb ∧ Cond.code mt_Md_years.1 mt_Md_years.2.1 mt_Md_years.2.2.1 mt_Md_years.2.2.2 ∈ tb := ⟨tb_mem 1168 rfl rfl, tb_mem 1169 rfl rfl, tb_mem 77 rfl rfl, tb_mem 1170 rfl rfl⟩
set_option maxRecDepth 20000 in
theorem fv_Md_goes : Cond.instanceMethod mt_Md_goes.1 ∈ tb ∧ Cond.selects mt_Md_goes.1.cls mt_Md_goes.1 mt_Md_goes.1 ∈ tb ∧ Cond.initialized mt_Md_goes.1.cls ∈ tb ∧ Cond.code mt_Md_goes.1 mt_Md_goes.2.1 mt_Md_goes.2.2.1 mt_Md_goes.2.2.2 ∈ tb := ⟨tb_mem 1174 rfl rfl, tb_mem 44 rfl rfl, tb_mem 77 rfl rfl, tb_mem 1175 rfl rfl⟩
set_option maxRecDepth 20000 in
theorem fv_Md_goesBy : Cond.instanceMethod mt_Md_goesBy.1 ∈ tb ∧ Cond.selects mt_Md_goesBy.1.cls mt_Md_goesBy.1 mt_Md_goesBy.1 ∈ tb ∧ Cond.initialized mt_Md_goesBy.1.cls ∈ tb ∧ Cond.code mt_Md_goesBy.1 mt_Md_goesBy.2.1 mt_Md_goesBy.2.2.1 mt_Md_goesBy.2.2.2 ∈ tb := ⟨tb_mem 1178 rfl rfl, tb_mem 45 rfl rfl, tb_mem 77 rfl rfl, tb_mem 1179 rfl rfl⟩
set_option maxRecDepth 20000 in
theorem fs_Md_least : Cond.static mt_Md_least.1 ∈ tb ∧ Cond.initialized mt_Md_least.1.cls ∈ tb ∧ Cond.code mt_Md_least.1 mt_Md_least.2.1 mt_Md_least.2.2.1 mt_Md_least.2.2.2 ∈ tb := ⟨tb_mem 1181 rfl rfl, tb_mem 77 rfl rfl, tb_mem 1182 rfl rfl⟩
set_option maxRecDepth 20000 in
theorem fv_Md_seeks : Cond.instanceMethod mt_Md_seeks.1 ∈ tb ∧ Cond.selects mt_Md_seeks.1.cls mt_Md_seeks.1 mt_Md_seeks.1 ∈ tb ∧ Cond.initialized mt_Md_seeks.1.cls ∈ tb ∧ Cond.code mt_Md_seeks.1 mt_Md_seeks.2.1 mt_Md_seeks.2.2.1 mt_Md_seeks.2.2.2 ∈ tb := ⟨tb_mem 1185 rfl rfl, tb_mem 46 rfl rfl, tb_mem 77 rfl rfl, tb_mem 1186 rfl rfl⟩
set_option maxRecDepth 20000 in
theorem fv_Md_seed : Cond.instanceMethod mt_Md_seed.1 ∈ tb ∧ Cond.selects mt_Md_seed.1.cls mt_Md_seed.1 mt_Md_seed.1 ∈ tb ∧ Cond.initialized mt_Md_seed.1.cls ∈ tb ∧ Cond.code mt_Md_seed.1 mt_Md_seed.2.1 mt_Md_seed.2.2.1 mt_Md_seed.2.2.2 ∈ tb := ⟨tb_mem 1188 rfl rfl, tb_mem 1189 rfl rfl, tb_mem 77 rfl rfl, tb_mem 1190 rfl rfl⟩
set_option maxRecDepth 20000 in
theorem fv_Md_year : Cond.instanceMethod mt_Md_year.1 ∈ tb ∧ Cond.selects mt_Md_year.1.cls mt_Md_year.1 mt_Md_year.1 ∈ tb ∧ Cond.initialized mt_Md_year.1.cls ∈ tb ∧ Cond.code mt_Md_year.1 mt_Md_year.2.1 mt_Md_year.2.2.1 mt_Md_year.2.2.2 ∈ tb := ⟨tb_mem 1192 rfl rfl, tb_mem 1193 rfl rfl, tb_mem 77 rfl rfl, tb_mem 1194 rfl rfl⟩
set_option maxRecDepth 20000 in
theorem fv_Md_drawn : Cond.instanceMethod mt_Md_drawn.1 ∈ tb ∧ Cond.selects mt_Md_drawn.1.cls mt_Md_drawn.1 mt_Md_drawn.1 ∈ tb ∧ Cond.initialized mt_Md_drawn.1.cls ∈ tb ∧ Cond.code mt_Md_drawn.1 mt_Md_drawn.2.1 mt_Md_drawn.2.2.1 mt_Md_drawn.2.2.2 ∈ tb := ⟨tb_mem 1197 rfl rfl, tb_mem 47 rfl rfl, tb_mem 77 rfl rfl, tb_mem 1198 rfl rfl⟩
set_option maxRecDepth 20000 in
theorem fv_Md_nights : Cond.instanceMethod mt_Md_nights.1 ∈ tb ∧ Cond.selects mt_Md_nights.1.cls mt_Md_nights.1 mt_Md_nights.1 ∈ tb ∧ Cond.initialized mt_Md_nights.1.cls ∈ tb ∧ Cond.code mt_Md_nights.1 mt_Md_nights.2.1 mt_Md_nights.2.2.1 mt_Md_nights.2.2.2 ∈ tb := ⟨tb_mem 1201 rfl rfl, tb_mem 1202 rfl rfl, tb_mem 77 rfl rfl, tb_mem 1203 rfl rfl⟩
set_option maxRecDepth 20000 in
theorem fv_Md_state : Cond.instanceMethod mt_Md_state.1 ∈ tb ∧ Cond.selects mt_Md_state.1.cls mt_Md_state.1 mt_Md_state.1 ∈ tb ∧ Cond.initialized mt_Md_state.1.cls ∈ tb ∧ Cond.code mt_Md_state.1 mt_Md_state.2.1 mt_Md_state.2.2.1 mt_Md_state.2.2.2 ∈ tb := ⟨tb_mem 1207 rfl rfl, tb_mem 1208 rfl rfl, tb_mem 77 rfl rfl, tb_mem 1209 rfl rfl⟩
set_option maxRecDepth 20000 in
theorem fv_Md_sumOf : Cond.instanceMethod mt_Md_sumOf.1 ∈ tb ∧ Cond.selects mt_Md_sumOf.1.cls mt_Md_sumOf.1 mt_Md_sumOf.1 ∈ tb ∧ Cond.initialized mt_Md_sumOf.1.cls ∈ tb ∧ Cond.code mt_Md_sumOf.1 mt_Md_sumOf.2.1 mt_Md_sumOf.2.2.1 mt_Md_sumOf.2.2.2 ∈ tb := ⟨tb_mem 1212 rfl rfl, tb_mem 48 rfl rfl, tb_mem 77 rfl rfl, tb_mem 1213 rfl rfl⟩
set_option maxRecDepth 20000 in
theorem fv_Md_hidingPlaces : Cond.instanceMethod mt_Md_hidingPlaces.1 ∈ tb ∧ Cond.selects mt_Md_hidingPlaces.1.cls mt_Md_hidingPlaces.1 mt_Md_hidingPlaces.1 ∈ tb ∧ Cond.initialized mt_Md_hidingPlaces.1.cls ∈ tb ∧ Cond.code mt_Md_hidingPlaces.1 mt_Md_hidingPlaces.2.1 mt_Md_hidingPlaces.2.2.1 mt_Md_hidingPlaces.2.2.2 ∈ tb := ⟨tb_mem 1216 rfl rfl, tb_mem 49 rfl rfl, tb_mem 77 rfl rfl, tb_mem 1217 rfl rfl⟩
set_option maxRecDepth 20000 in
theorem fv_Md_coverOfAll : Cond.instanceMethod mt_Md_coverOfAll.1 ∈ tb ∧ Cond.selects mt_Md_coverOfAll.1.cls mt_Md_coverOfAll.1 mt_Md_coverOfAll.1 ∈ tb ∧ Cond.initialized mt_Md_coverOfAll.1.cls ∈ tb ∧ Cond.code mt_Md_coverOfAll.1 mt_Md_coverOfAll.2.1 mt_Md_coverOfAll.2.2.1 mt_Md_coverOfAll.2.2.2 ∈ tb := ⟨tb_mem 1220 rfl rfl, tb_mem 50 rfl rfl, tb_mem 77 rfl rfl, tb_mem 1221 rfl rfl⟩
set_option maxRecDepth 20000 in
theorem fv_Md_where : Cond.instanceMethod mt_Md_where.1 ∈ tb ∧ Cond.selects mt_Md_where.1.cls mt_Md_where.1 mt_Md_where.1 ∈ tb ∧ Cond.initialized mt_Md_where.1.cls ∈ tb ∧ Cond.code mt_Md_where.1 mt_Md_where.2.1 mt_Md_where.2.2.1 mt_Md_where.2.2.2 ∈ tb := ⟨tb_mem 1223 rfl rfl, tb_mem 1224 rfl rfl, tb_mem 77 rfl rfl, tb_mem 1225 rfl rfl⟩
set_option maxRecDepth 20000 in
theorem fv_Md_shown : Cond.instanceMethod mt_Md_shown.1 ∈ tb ∧ Cond.selects mt_Md_shown.1.cls mt_Md_shown.1 mt_Md_shown.1 ∈ tb ∧ Cond.initialized mt_Md_shown.1.cls ∈ tb ∧ Cond.code mt_Md_shown.1 mt_Md_shown.2.1 mt_Md_shown.2.2.1 mt_Md_shown.2.2.2 ∈ tb := ⟨tb_mem 1227 rfl rfl, tb_mem 1228 rfl rfl, tb_mem 77 rfl rfl, tb_mem 1229 rfl rfl⟩
set_option maxRecDepth 20000 in
theorem fv_Md_shownBy : Cond.instanceMethod mt_Md_shownBy.1 ∈ tb ∧ Cond.selects mt_Md_shownBy.1.cls mt_Md_shownBy.1 mt_Md_shownBy.1 ∈ tb ∧ Cond.initialized mt_Md_shownBy.1.cls ∈ tb ∧ Cond.code mt_Md_shownBy.1 mt_Md_shownBy.2.1 mt_Md_shownBy.2.2.1 mt_Md_shownBy.2.2.2 ∈ tb := ⟨tb_mem 1232 rfl rfl, tb_mem 51 rfl rfl, tb_mem 77 rfl rfl, tb_mem 1233 rfl rfl⟩
set_option maxRecDepth 20000 in
theorem fv_Md_all : Cond.instanceMethod mt_Md_all.1 ∈ tb ∧ Cond.selects mt_Md_all.1.cls mt_Md_all.1 mt_Md_all.1 ∈ tb ∧ Cond.initialized mt_Md_all.1.cls ∈ tb ∧ Cond.code mt_Md_all.1 mt_Md_all.2.1 mt_Md_all.2.2.1 mt_Md_all.2.2.2 ∈ tb := ⟨tb_mem 1235 rfl rfl, tb_mem 1236 rfl rfl, tb_mem 77 rfl rfl, tb_mem 1237 rfl rfl⟩
set_option maxRecDepth 20000 in
theorem fv_Md_finder : Cond.instanceMethod mt_Md_finder.1 ∈ tb ∧ Cond.selects mt_Md_finder.1.cls mt_Md_finder.1 mt_Md_finder.1 ∈ tb ∧ Cond.initialized mt_Md_finder.1.cls ∈ tb ∧ Cond.code mt_Md_finder.1 mt_Md_finder.2.1 mt_Md_finder.2.2.1 mt_Md_finder.2.2.2 ∈ tb := ⟨tb_mem 1239 rfl rfl, tb_mem 1240 rfl rfl, tb_mem 77 rfl rfl, tb_mem 1241 rfl rfl⟩
set_option maxRecDepth 20000 in
theorem fv_Md_safeFor : Cond.instanceMethod mt_Md_safeFor.1 ∈ tb ∧ Cond.selects mt_Md_safeFor.1.cls mt_Md_safeFor.1 mt_Md_safeFor.1 ∈ tb ∧ Cond.initialized mt_Md_safeFor.1.cls ∈ tb ∧ Cond.code mt_Md_safeFor.1 mt_Md_safeFor.2.1 mt_Md_safeFor.2.2.1 mt_Md_safeFor.2.2.2 ∈ tb := ⟨tb_mem 1243 rfl rfl, tb_mem 1244 rfl rfl, tb_mem 77 rfl rfl, tb_mem 1245 rfl rfl⟩
set_option maxRecDepth 20000 in
theorem fv_Md_kindFor : Cond.instanceMethod mt_Md_kindFor.1 ∈ tb ∧ Cond.selects mt_Md_kindFor.1.cls mt_Md_kindFor.1 mt_Md_kindFor.1 ∈ tb ∧ Cond.initialized mt_Md_kindFor.1.cls ∈ tb ∧ Cond.code mt_Md_kindFor.1 mt_Md_kindFor.2.1 mt_Md_kindFor.2.2.1 mt_Md_kindFor.2.2.2 ∈ tb := ⟨tb_mem 1247 rfl rfl, tb_mem 1248 rfl rfl, tb_mem 77 rfl rfl, tb_mem 1249 rfl rfl⟩
set_option maxRecDepth 20000 in
theorem fv_Md_witFor : Cond.instanceMethod mt_Md_witFor.1 ∈ tb ∧ Cond.selects mt_Md_witFor.1.cls mt_Md_witFor.1 mt_Md_witFor.1 ∈ tb ∧ Cond.initialized mt_Md_witFor.1.cls ∈ tb ∧ Cond.code mt_Md_witFor.1 mt_Md_witFor.2.1 mt_Md_witFor.2.2.1 mt_Md_witFor.2.2.2 ∈ tb := ⟨tb_mem 1251 rfl rfl, tb_mem 1252 rfl rfl, tb_mem 77 rfl rfl, tb_mem 1253 rfl rfl⟩
set_option maxRecDepth 20000 in
theorem fs_Md_isShort : Cond.static mt_Md_isShort.1 ∈ tb ∧ Cond.initialized mt_Md_isShort.1.cls ∈ tb ∧ Cond.code mt_Md_isShort.1 mt_Md_isShort.2.1 mt_Md_isShort.2.2.1 mt_Md_isShort.2.2.2 ∈ tb := ⟨tb_mem 1255 rfl rfl, tb_mem 77 rfl rfl, tb_mem 1256 rfl rfl⟩
set_option maxRecDepth 20000 in
theorem fv_Md_isHiddenBy : Cond.instanceMethod mt_Md_isHiddenBy.1 ∈ tb ∧ Cond.selects mt_Md_isHiddenBy.1.cls mt_Md_isHiddenBy.1 mt_Md_isHiddenBy.1 ∈ tb ∧ Cond.initialized mt_Md_isHiddenBy.1.cls ∈ tb ∧ Cond.code mt_Md_isHiddenBy.1 mt_Md_isHiddenBy.2.1 mt_Md_isHiddenBy.2.2.1 mt_Md_isHiddenBy.2.2.2 ∈ tb := ⟨tb_mem 1260 rfl rfl, tb_mem 52 rfl rfl, tb_mem 77 rfl rfl, tb_mem 1261 rfl rfl⟩
set_option maxRecDepth 20000 in
theorem fv_Md_needed : Cond.instanceMethod mt_Md_needed.1 ∈ tb ∧ Cond.selects mt_Md_needed.1.cls mt_Md_needed.1 mt_Md_needed.1 ∈ tb ∧ Cond.initialized mt_Md_needed.1.cls ∈ tb ∧ Cond.code mt_Md_needed.1 mt_Md_needed.2.1 mt_Md_needed.2.2.1 mt_Md_needed.2.2.2 ∈ tb := ⟨tb_mem 1263 rfl rfl, tb_mem 1264 rfl rfl, tb_mem 77 rfl rfl, tb_mem 1265 rfl rfl⟩
set_option maxRecDepth 20000 in
theorem fv_Md_fewest : Cond.instanceMethod mt_Md_fewest.1 ∈ tb ∧ Cond.selects mt_Md_fewest.1.cls mt_Md_fewest.1 mt_Md_fewest.1 ∈ tb ∧ Cond.initialized mt_Md_fewest.1.cls ∈ tb ∧ Cond.code mt_Md_fewest.1 mt_Md_fewest.2.1 mt_Md_fewest.2.2.1 mt_Md_fewest.2.2.2 ∈ tb := ⟨tb_mem 1267 rfl rfl, tb_mem 1268 rfl rfl, tb_mem 77 rfl rfl, tb_mem 1269 rfl rfl⟩
set_option maxRecDepth 20000 in
theorem fv_Md_round : Cond.instanceMethod mt_Md_round.1 ∈ tb ∧ Cond.selects mt_Md_round.1.cls mt_Md_round.1 mt_Md_round.1 ∈ tb ∧ Cond.initialized mt_Md_round.1.cls ∈ tb ∧ Cond.code mt_Md_round.1 mt_Md_round.2.1 mt_Md_round.2.2.1 mt_Md_round.2.2.2 ∈ tb := ⟨tb_mem 1271 rfl rfl, tb_mem 1272 rfl rfl, tb_mem 77 rfl rfl, tb_mem 1273 rfl rfl⟩
set_option maxRecDepth 20000 in
theorem fv_Md_fits : Cond.instanceMethod mt_Md_fits.1 ∈ tb ∧ Cond.selects mt_Md_fits.1.cls mt_Md_fits.1 mt_Md_fits.1 ∈ tb ∧ Cond.initialized mt_Md_fits.1.cls ∈ tb ∧ Cond.code mt_Md_fits.1 mt_Md_fits.2.1 mt_Md_fits.2.2.1 mt_Md_fits.2.2.2 ∈ tb := ⟨tb_mem 1275 rfl rfl, tb_mem 1276 rfl rfl, tb_mem 77 rfl rfl, tb_mem 1277 rfl rfl⟩
set_option maxRecDepth 20000 in
theorem fs_Md_isSheet : Cond.static mt_Md_isSheet.1 ∈ tb ∧ Cond.initialized mt_Md_isSheet.1.cls ∈ tb ∧ Cond.code mt_Md_isSheet.1 mt_Md_isSheet.2.1 mt_Md_isSheet.2.2.1 mt_Md_isSheet.2.2.2 ∈ tb := ⟨tb_mem 1279 rfl rfl, tb_mem 77 rfl rfl, tb_mem 1280 rfl rfl⟩
set_option maxRecDepth 20000 in
theorem fv_Md_isTold : Cond.instanceMethod mt_Md_isTold.1 ∈ tb ∧ Cond.selects mt_Md_isTold.1.cls mt_Md_isTold.1 mt_Md_isTold.1 ∈ tb ∧ Cond.initialized mt_Md_isTold.1.cls ∈ tb ∧ Cond.code mt_Md_isTold.1 mt_Md_isTold.2.1 mt_Md_isTold.2.2.1 mt_Md_isTold.2.2.2 ∈ tb := ⟨tb_mem 1283 rfl rfl, tb_mem 53 rfl rfl, tb_mem 77 rfl rfl, tb_mem 1284 rfl rfl⟩
set_option maxRecDepth 20000 in
theorem fv_Md_odds : Cond.instanceMethod mt_Md_odds.1 ∈ tb ∧ Cond.selects mt_Md_odds.1.cls mt_Md_odds.1 mt_Md_odds.1 ∈ tb ∧ Cond.initialized mt_Md_odds.1.cls ∈ tb ∧ Cond.code mt_Md_odds.1 mt_Md_odds.2.1 mt_Md_odds.2.2.1 mt_Md_odds.2.2.2 ∈ tb := ⟨tb_mem 1286 rfl rfl, tb_mem 1287 rfl rfl, tb_mem 77 rfl rfl, tb_mem 1288 rfl rfl⟩
set_option maxRecDepth 20000 in
theorem fs_Md_product : Cond.static mt_Md_product.1 ∈ tb ∧ Cond.initialized mt_Md_product.1.cls ∈ tb ∧ Cond.code mt_Md_product.1 mt_Md_product.2.1 mt_Md_product.2.2.1 mt_Md_product.2.2.2 ∈ tb := ⟨tb_mem 1291 rfl rfl, tb_mem 77 rfl rfl, tb_mem 1292 rfl rfl⟩
set_option maxRecDepth 20000 in
theorem fs_Md_partOf : Cond.static mt_Md_partOf.1 ∈ tb ∧ Cond.initialized mt_Md_partOf.1.cls ∈ tb ∧ Cond.code mt_Md_partOf.1 mt_Md_partOf.2.1 mt_Md_partOf.2.2.1 mt_Md_partOf.2.2.2 ∈ tb := ⟨tb_mem 1295 rfl rfl, tb_mem 77 rfl rfl, tb_mem 1296 rfl rfl⟩
set_option maxRecDepth 20000 in
theorem fv_Md_hope : Cond.instanceMethod mt_Md_hope.1 ∈ tb ∧ Cond.selects mt_Md_hope.1.cls mt_Md_hope.1 mt_Md_hope.1 ∈ tb ∧ Cond.initialized mt_Md_hope.1.cls ∈ tb ∧ Cond.code mt_Md_hope.1 mt_Md_hope.2.1 mt_Md_hope.2.2.1 mt_Md_hope.2.2.2 ∈ tb := ⟨tb_mem 1298 rfl rfl, tb_mem 1299 rfl rfl, tb_mem 77 rfl rfl, tb_mem 1300 rfl rfl⟩
set_option maxRecDepth 20000 in
theorem fv_Md_prove : Cond.instanceMethod mt_Md_prove.1 ∈ tb ∧ Cond.selects mt_Md_prove.1.cls mt_Md_prove.1 mt_Md_prove.1 ∈ tb ∧ Cond.initialized mt_Md_prove.1.cls ∈ tb ∧ Cond.code mt_Md_prove.1 mt_Md_prove.2.1 mt_Md_prove.2.2.1 mt_Md_prove.2.2.2 ∈ tb := ⟨tb_mem 1302 rfl rfl, tb_mem 1303 rfl rfl, tb_mem 77 rfl rfl, tb_mem 1304 rfl rfl⟩
set_option maxRecDepth 20000 in
theorem fv_Md_row : Cond.instanceMethod mt_Md_row.1 ∈ tb ∧ Cond.selects mt_Md_row.1.cls mt_Md_row.1 mt_Md_row.1 ∈ tb ∧ Cond.initialized mt_Md_row.1.cls ∈ tb ∧ Cond.code mt_Md_row.1 mt_Md_row.2.1 mt_Md_row.2.2.1 mt_Md_row.2.2.2 ∈ tb := ⟨tb_mem 1307 rfl rfl, tb_mem 1308 rfl rfl, tb_mem 77 rfl rfl, tb_mem 1309 rfl rfl⟩
set_option maxRecDepth 20000 in
theorem fv_Md_isRow : Cond.instanceMethod mt_Md_isRow.1 ∈ tb ∧ Cond.selects mt_Md_isRow.1.cls mt_Md_isRow.1 mt_Md_isRow.1 ∈ tb ∧ Cond.initialized mt_Md_isRow.1.cls ∈ tb ∧ Cond.code mt_Md_isRow.1 mt_Md_isRow.2.1 mt_Md_isRow.2.2.1 mt_Md_isRow.2.2.2 ∈ tb := ⟨tb_mem 1312 rfl rfl, tb_mem 54 rfl rfl, tb_mem 77 rfl rfl, tb_mem 1313 rfl rfl⟩
set_option maxRecDepth 20000 in
theorem fv_Md_alterRow : Cond.instanceMethod mt_Md_alterRow.1 ∈ tb ∧ Cond.selects mt_Md_alterRow.1.cls mt_Md_alterRow.1 mt_Md_alterRow.1 ∈ tb ∧ Cond.initialized mt_Md_alterRow.1.cls ∈ tb ∧ Cond.code mt_Md_alterRow.1 mt_Md_alterRow.2.1 mt_Md_alterRow.2.2.1 mt_Md_alterRow.2.2.2 ∈ tb := ⟨tb_mem 1315 rfl rfl, tb_mem 1316 rfl rfl, tb_mem 77 rfl rfl, tb_mem 1317 rfl rfl⟩
set_option maxRecDepth 20000 in
theorem fv_Md_judge : Cond.instanceMethod mt_Md_judge.1 ∈ tb ∧ Cond.selects mt_Md_judge.1.cls mt_Md_judge.1 mt_Md_judge.1 ∈ tb ∧ Cond.initialized mt_Md_judge.1.cls ∈ tb ∧ Cond.code mt_Md_judge.1 mt_Md_judge.2.1 mt_Md_judge.2.2.1 mt_Md_judge.2.2.2 ∈ tb := ⟨tb_mem 1319 rfl rfl, tb_mem 1320 rfl rfl, tb_mem 77 rfl rfl, tb_mem 1321 rfl rfl⟩
set_option maxRecDepth 20000 in
theorem fv_Md_sheet : Cond.instanceMethod mt_Md_sheet.1 ∈ tb ∧ Cond.selects mt_Md_sheet.1.cls mt_Md_sheet.1 mt_Md_sheet.1 ∈ tb ∧ Cond.initialized mt_Md_sheet.1.cls ∈ tb ∧ Cond.code mt_Md_sheet.1 mt_Md_sheet.2.1 mt_Md_sheet.2.2.1 mt_Md_sheet.2.2.2 ∈ tb := ⟨tb_mem 1323 rfl rfl, tb_mem 1324 rfl rfl, tb_mem 77 rfl rfl, tb_mem 1325 rfl rfl⟩
set_option maxRecDepth 20000 in
theorem fv_Md_put : Cond.instanceMethod mt_Md_put.1 ∈ tb ∧ Cond.selects mt_Md_put.1.cls mt_Md_put.1 mt_Md_put.1 ∈ tb ∧ Cond.initialized mt_Md_put.1.cls ∈ tb ∧ Cond.code mt_Md_put.1 mt_Md_put.2.1 mt_Md_put.2.2.1 mt_Md_put.2.2.2 ∈ tb := ⟨tb_mem 1327 rfl rfl, tb_mem 1328 rfl rfl, tb_mem 77 rfl rfl, tb_mem 1329 rfl rfl⟩
set_option maxRecDepth 20000 in
theorem fv_Md_item : Cond.instanceMethod mt_Md_item.1 ∈ tb ∧ Cond.selects mt_Md_item.1.cls mt_Md_item.1 mt_Md_item.1 ∈ tb ∧ Cond.initialized mt_Md_item.1.cls ∈ tb ∧ Cond.code mt_Md_item.1 mt_Md_item.2.1 mt_Md_item.2.2.1 mt_Md_item.2.2.2 ∈ tb := ⟨tb_mem 1331 rfl rfl, tb_mem 1332 rfl rfl, tb_mem 77 rfl rfl, tb_mem 1333 rfl rfl⟩
set_option maxRecDepth 20000 in
theorem fv_Md_lacks : Cond.instanceMethod mt_Md_lacks.1 ∈ tb ∧ Cond.selects mt_Md_lacks.1.cls mt_Md_lacks.1 mt_Md_lacks.1 ∈ tb ∧ Cond.initialized mt_Md_lacks.1.cls ∈ tb ∧ Cond.code mt_Md_lacks.1 mt_Md_lacks.2.1 mt_Md_lacks.2.2.1 mt_Md_lacks.2.2.2 ∈ tb := ⟨tb_mem 1336 rfl rfl, tb_mem 55 rfl rfl, tb_mem 77 rfl rfl, tb_mem 1337 rfl rfl⟩
set_option maxRecDepth 20000 in
theorem fv_Md_minds : Cond.instanceMethod mt_Md_minds.1 ∈ tb ∧ Cond.selects mt_Md_minds.1.cls mt_Md_minds.1 mt_Md_minds.1 ∈ tb ∧ Cond.initialized mt_Md_minds.1.cls ∈ tb ∧ Cond.code mt_Md_minds.1 mt_Md_minds.2.1 mt_Md_minds.2.2.1 mt_Md_minds.2.2.2 ∈ tb := ⟨tb_mem 1339 rfl rfl, tb_mem 1340 rfl rfl, tb_mem 77 rfl rfl, tb_mem 1341 rfl rfl⟩
set_option maxRecDepth 20000 in
theorem fs_Md_within : Cond.static mt_Md_within.1 ∈ tb ∧ Cond.initialized mt_Md_within.1.cls ∈ tb ∧ Cond.code mt_Md_within.1 mt_Md_within.2.1 mt_Md_within.2.2.1 mt_Md_within.2.2.2 ∈ tb := ⟨tb_mem 1343 rfl rfl, tb_mem 77 rfl rfl, tb_mem 1344 rfl rfl⟩
set_option maxRecDepth 20000 in
theorem fv_Md_shelf : Cond.instanceMethod mt_Md_shelf.1 ∈ tb ∧ Cond.selects mt_Md_shelf.1.cls mt_Md_shelf.1 mt_Md_shelf.1 ∈ tb ∧ Cond.initialized mt_Md_shelf.1.cls ∈ tb ∧ Cond.code mt_Md_shelf.1 mt_Md_shelf.2.1 mt_Md_shelf.2.2.1 mt_Md_shelf.2.2.2 ∈ tb := ⟨tb_mem 1346 rfl rfl, tb_mem 1347 rfl rfl, tb_mem 77 rfl rfl, tb_mem 1348 rfl rfl⟩
set_option maxRecDepth 20000 in
theorem fs_Md_isShelf : Cond.static mt_Md_isShelf.1 ∈ tb ∧ Cond.initialized mt_Md_isShelf.1.cls ∈ tb ∧ Cond.code mt_Md_isShelf.1 mt_Md_isShelf.2.1 mt_Md_isShelf.2.2.1 mt_Md_isShelf.2.2.2 ∈ tb := ⟨tb_mem 1350 rfl rfl, tb_mem 77 rfl rfl, tb_mem 1351 rfl rfl⟩
set_option maxRecDepth 20000 in
theorem fv_Md_taken : Cond.instanceMethod mt_Md_taken.1 ∈ tb ∧ Cond.selects mt_Md_taken.1.cls mt_Md_taken.1 mt_Md_taken.1 ∈ tb ∧ Cond.initialized mt_Md_taken.1.cls ∈ tb ∧ Cond.code mt_Md_taken.1 mt_Md_taken.2.1 mt_Md_taken.2.2.1 mt_Md_taken.2.2.2 ∈ tb := ⟨tb_mem 1353 rfl rfl, tb_mem 1354 rfl rfl, tb_mem 77 rfl rfl, tb_mem 1355 rfl rfl⟩
set_option maxRecDepth 20000 in
theorem fv_Md_heldOn : Cond.instanceMethod mt_Md_heldOn.1 ∈ tb ∧ Cond.selects mt_Md_heldOn.1.cls mt_Md_heldOn.1 mt_Md_heldOn.1 ∈ tb ∧ Cond.initialized mt_Md_heldOn.1.cls ∈ tb ∧ Cond.code mt_Md_heldOn.1 mt_Md_heldOn.2.1 mt_Md_heldOn.2.2.1 mt_Md_heldOn.2.2.2 ∈ tb := ⟨tb_mem 1360 rfl rfl, tb_mem 56 rfl rfl, tb_mem 77 rfl rfl, tb_mem 1361 rfl rfl⟩
set_option maxRecDepth 20000 in
theorem fs_Md_isUnder : Cond.static mt_Md_isUnder.1 ∈ tb ∧ Cond.initialized mt_Md_isUnder.1.cls ∈ tb ∧ Cond.code mt_Md_isUnder.1 mt_Md_isUnder.2.1 mt_Md_isUnder.2.2.1 mt_Md_isUnder.2.2.2 ∈ tb := ⟨tb_mem 1363 rfl rfl, tb_mem 77 rfl rfl, tb_mem 1364 rfl rfl⟩
set_option maxRecDepth 20000 in
theorem fv_Md_act : Cond.instanceMethod mt_Md_act.1 ∈ tb ∧ Cond.selects mt_Md_act.1.cls mt_Md_act.1 mt_Md_act.1 ∈ tb ∧ Cond.initialized mt_Md_act.1.cls ∈ tb ∧ Cond.code mt_Md_act.1 mt_Md_act.2.1 mt_Md_act.2.2.1 mt_Md_act.2.2.2 ∈ tb := ⟨tb_mem 1366 rfl rfl, tb_mem 1367 rfl rfl, tb_mem 77 rfl rfl, tb_mem 1368 rfl rfl⟩
set_option maxRecDepth 20000 in
theorem fv_Md_counts : Cond.instanceMethod mt_Md_counts.1 ∈ tb ∧ Cond.selects mt_Md_counts.1.cls mt_Md_counts.1 mt_Md_counts.1 ∈ tb ∧ Cond.initialized mt_Md_counts.1.cls ∈ tb ∧ Cond.code mt_Md_counts.1 mt_Md_counts.2.1 mt_Md_counts.2.2.1 mt_Md_counts.2.2.2 ∈ tb := ⟨tb_mem 1371 rfl rfl, tb_mem 57 rfl rfl, tb_mem 77 rfl rfl, tb_mem 1372 rfl rfl⟩
set_option maxRecDepth 20000 in
theorem fv_Md_countsOfKeeper : Cond.instanceMethod mt_Md_countsOfKeeper.1 ∈ tb ∧ Cond.selects mt_Md_countsOfKeeper.1.cls mt_Md_countsOfKeeper.1 mt_Md_countsOfKeeper.1 ∈ tb ∧ Cond.initialized mt_Md_countsOfKeeper.1.cls ∈ tb ∧ Cond.code mt_Md_countsOfKeeper.1 mt_Md_countsOfKeeper.2.1 mt_Md_countsOfKeeper.2.2.1 mt_Md_countsOfKeeper.2.2.2 ∈ tb := ⟨tb_mem 1375 rfl rfl, tb_mem 58 rfl rfl, tb_mem 77 rfl rfl, tb_mem 1376 rfl rfl⟩
set_option maxRecDepth 20000 in
theorem fv_Md_runs : Cond.instanceMethod mt_Md_runs.1 ∈ tb ∧ Cond.selects mt_Md_runs.1.cls mt_Md_runs.1 mt_Md_runs.1 ∈ tb ∧ Cond.initialized mt_Md_runs.1.cls ∈ tb ∧ Cond.code mt_Md_runs.1 mt_Md_runs.2.1 mt_Md_runs.2.2.1 mt_Md_runs.2.2.2 ∈ tb := ⟨tb_mem 1379 rfl rfl, tb_mem 59 rfl rfl, tb_mem 77 rfl rfl, tb_mem 1380 rfl rfl⟩
set_option maxRecDepth 20000 in
theorem fv_Md_countsPlain : Cond.instanceMethod mt_Md_countsPlain.1 ∈ tb ∧ Cond.selects mt_Md_countsPlain.1.cls mt_Md_countsPlain.1 mt_Md_countsPlain.1 ∈ tb ∧ Cond.initialized mt_Md_countsPlain.1.cls ∈ tb ∧ Cond.code mt_Md_countsPlain.1 mt_Md_countsPlain.2.1 mt_Md_countsPlain.2.2.1 mt_Md_countsPlain.2.2.2 ∈ tb := ⟨tb_mem 1383 rfl rfl, tb_mem 60 rfl rfl, tb_mem 77 rfl rfl, tb_mem 1384 rfl rfl⟩
set_option maxRecDepth 20000 in
theorem fv_Md_calls : Cond.instanceMethod mt_Md_calls.1 ∈ tb ∧ Cond.selects mt_Md_calls.1.cls mt_Md_calls.1 mt_Md_calls.1 ∈ tb ∧ Cond.initialized mt_Md_calls.1.cls ∈ tb ∧ Cond.code mt_Md_calls.1 mt_Md_calls.2.1 mt_Md_calls.2.2.1 mt_Md_calls.2.2.2 ∈ tb := ⟨tb_mem 1387 rfl rfl, tb_mem 61 rfl rfl, tb_mem 77 rfl rfl, tb_mem 1388 rfl rfl⟩
set_option maxRecDepth 20000 in
theorem fv_Md_callsPlain : Cond.instanceMethod mt_Md_callsPlain.1 ∈ tb ∧ Cond.selects mt_Md_callsPlain.1.cls mt_Md_callsPlain.1 mt_Md_callsPlain.1 ∈ tb ∧ Cond.initialized mt_Md_callsPlain.1.cls ∈ tb ∧ Cond.code mt_Md_callsPlain.1 mt_Md_callsPlain.2.1 mt_Md_callsPlain.2.2.1 mt_Md_callsPlain.2.2.2 ∈ tb := ⟨tb_mem 1391 rfl rfl, tb_mem 62 rfl rfl, tb_mem 77 rfl rfl, tb_mem 1392 rfl rfl⟩
set_option maxRecDepth 20000 in
theorem fv_Md_parts : Cond.instanceMethod mt_Md_parts.1 ∈ tb ∧ Cond.selects mt_Md_parts.1.cls mt_Md_parts.1 mt_Md_parts.1 ∈ tb ∧ Cond.initialized mt_Md_parts.1.cls ∈ tb ∧ Cond.code mt_Md_parts.1 mt_Md_parts.2.1 mt_Md_parts.2.2.1 mt_Md_parts.2.2.2 ∈ tb := ⟨tb_mem 1395 rfl rfl, tb_mem 63 rfl rfl, tb_mem 77 rfl rfl, tb_mem 1396 rfl rfl⟩
set_option maxRecDepth 20000 in
theorem fv_Md_partsPlain : Cond.instanceMethod mt_Md_partsPlain.1 ∈ tb ∧ Cond.selects mt_Md_partsPlain.1.cls mt_Md_partsPlain.1 mt_Md_partsPlain.1 ∈ tb ∧ Cond.initialized mt_Md_partsPlain.1.cls ∈ tb ∧ Cond.code mt_Md_partsPlain.1 mt_Md_partsPlain.2.1 mt_Md_partsPlain.2.2.1 mt_Md_partsPlain.2.2.2 ∈ tb := ⟨tb_mem 1399 rfl rfl, tb_mem 64 rfl rfl, tb_mem 77 rfl rfl, tb_mem 1400 rfl rfl⟩
set_option maxRecDepth 20000 in
theorem fv_Md_looks : Cond.instanceMethod mt_Md_looks.1 ∈ tb ∧ Cond.selects mt_Md_looks.1.cls mt_Md_looks.1 mt_Md_looks.1 ∈ tb ∧ Cond.initialized mt_Md_looks.1.cls ∈ tb ∧ Cond.code mt_Md_looks.1 mt_Md_looks.2.1 mt_Md_looks.2.2.1 mt_Md_looks.2.2.2 ∈ tb := ⟨tb_mem 1403 rfl rfl, tb_mem 65 rfl rfl, tb_mem 77 rfl rfl, tb_mem 1404 rfl rfl⟩
set_option maxRecDepth 20000 in
theorem fv_Md_looksPlain : Cond.instanceMethod mt_Md_looksPlain.1 ∈ tb ∧ Cond.selects mt_Md_looksPlain.1.cls mt_Md_looksPlain.1 mt_Md_looksPlain.1 ∈ tb ∧ Cond.initialized mt_Md_looksPlain.1.cls ∈ tb ∧ Cond.code mt_Md_looksPlain.1 mt_Md_looksPlain.2.1 mt_Md_looksPlain.2.2.1 mt_Md_looksPlain.2.2.2 ∈ tb := ⟨tb_mem 1407 rfl rfl, tb_mem 66 rfl rfl, tb_mem 77 rfl rfl, tb_mem 1408 rfl rfl⟩
set_option maxRecDepth 20000 in
theorem fv_Md_trace : Cond.instanceMethod mt_Md_trace.1 ∈ tb ∧ Cond.selects mt_Md_trace.1.cls mt_Md_trace.1 mt_Md_trace.1 ∈ tb ∧ Cond.initialized mt_Md_trace.1.cls ∈ tb ∧ Cond.code mt_Md_trace.1 mt_Md_trace.2.1 mt_Md_trace.2.2.1 mt_Md_trace.2.2.2 ∈ tb := ⟨tb_mem 1410 rfl rfl, tb_mem 1411 rfl rfl, tb_mem 77 rfl rfl, tb_mem 1412 rfl rfl⟩
set_option maxRecDepth 20000 in
theorem fv_Md_many : Cond.instanceMethod mt_Md_many.1 ∈ tb ∧ Cond.selects mt_Md_many.1.cls mt_Md_many.1 mt_Md_many.1 ∈ tb ∧ Cond.initialized mt_Md_many.1.cls ∈ tb ∧ Cond.code mt_Md_many.1 mt_Md_many.2.1 mt_Md_many.2.2.1 mt_Md_many.2.2.2 ∈ tb := ⟨tb_mem 1414 rfl rfl, tb_mem 1415 rfl rfl, tb_mem 77 rfl rfl, tb_mem 1416 rfl rfl⟩
set_option maxRecDepth 20000 in
theorem fv_Md_crowded : Cond.instanceMethod mt_Md_crowded.1 ∈ tb ∧ Cond.selects mt_Md_crowded.1.cls mt_Md_crowded.1 mt_Md_crowded.1 ∈ tb ∧ Cond.initialized mt_Md_crowded.1.cls ∈ tb ∧ Cond.code mt_Md_crowded.1 mt_Md_crowded.2.1 mt_Md_crowded.2.2.1 mt_Md_crowded.2.2.2 ∈ tb := ⟨tb_mem 1419 rfl rfl, tb_mem 67 rfl rfl, tb_mem 77 rfl rfl, tb_mem 1420 rfl rfl⟩
set_option maxRecDepth 20000 in
theorem fv_Md_keep : Cond.instanceMethod mt_Md_keep.1 ∈ tb ∧ Cond.selects mt_Md_keep.1.cls mt_Md_keep.1 mt_Md_keep.1 ∈ tb ∧ Cond.initialized mt_Md_keep.1.cls ∈ tb ∧ Cond.code mt_Md_keep.1 mt_Md_keep.2.1 mt_Md_keep.2.2.1 mt_Md_keep.2.2.2 ∈ tb := ⟨tb_mem 1422 rfl rfl, tb_mem 1423 rfl rfl, tb_mem 77 rfl rfl, tb_mem 1424 rfl rfl⟩
set_option maxRecDepth 20000 in
theorem fv_Md_again : Cond.instanceMethod mt_Md_again.1 ∈ tb ∧ Cond.selects mt_Md_again.1.cls mt_Md_again.1 mt_Md_again.1 ∈ tb ∧ Cond.initialized mt_Md_again.1.cls ∈ tb ∧ Cond.code mt_Md_again.1 mt_Md_again.2.1 mt_Md_again.2.2.1 mt_Md_again.2.2.2 ∈ tb := ⟨tb_mem 1426 rfl rfl, tb_mem 1427 rfl rfl, tb_mem 77 rfl rfl, tb_mem 1428 rfl rfl⟩
set_option maxRecDepth 20000 in
theorem lk_Pk_40 : LkV "LateSeekers$Park" 40 mt_Pk_becomeAsAtFirst 0 := ⟨tb_mem 105 rfl rfl, fv_Pk_becomeAsAtFirst.1, fv_Pk_becomeAsAtFirst.2.1, fv_Pk_becomeAsAtFirst.2.2.1, fv_Pk_becomeAsAtFirst.2.2.2, ⟨by decide, by decide, by decide +kernel⟩, by decide⟩
set_option maxRecDepth 20000 in
theorem lk_Law_15 : LkV "LateSeekersLaw" 15 mt_LS_feed 2 := ⟨tb_mem 320 rfl rfl, fv_LS_feed.1, fv_LS_feed.2.1, fv_LS_feed.2.2.1, fv_LS_feed.2.2.2, ⟨by decide, by decide, by decide +kernel⟩, by decide⟩
set_option maxRecDepth 20000 in
theorem lk_LS_62 : LkS "LateSeekers" 62 mt_LS_within 3 := ⟨tb_mem 324 rfl rfl, fs_LS_within.1, fs_LS_within.2.1, fs_LS_within.2.2, ⟨by decide, by decide, by decide +kernel⟩, by decide⟩
set_option maxRecDepth 20000 in
theorem lk_LS_70 : LkV "LateSeekers" 70 mt_Tp_append 2 := ⟨tb_mem 327 rfl rfl, fv_Tp_append.1, fv_Tp_append.2.1, fv_Tp_append.2.2.1, fv_Tp_append.2.2.2, ⟨by decide, by decide, by decide +kernel⟩, by decide⟩
set_option maxRecDepth 20000 in
theorem lk_Law_20 : LkV "LateSeekersLaw" 20 mt_LS_park 0 := ⟨tb_mem 331 rfl rfl, fv_LS_park.1, fv_LS_park.2.1, fv_LS_park.2.2.1, fv_LS_park.2.2.2, ⟨by decide, by decide, by decide +kernel⟩, by decide⟩
set_option maxRecDepth 20000 in
theorem lk_LS_77 : LkV "LateSeekers" 77 mt_Pk_becomeAsAtFirst 0 := ⟨tb_mem 335 rfl rfl, fv_Pk_becomeAsAtFirst.1, fv_Pk_becomeAsAtFirst.2.1, fv_Pk_becomeAsAtFirst.2.2.1, fv_Pk_becomeAsAtFirst.2.2.2, ⟨by decide, by decide, by decide +kernel⟩, by decide⟩
set_option maxRecDepth 20000 in
theorem lk_LS_80 : LkV "LateSeekers" 80 mt_Tp_readInto 1 := ⟨tb_mem 336 rfl rfl, fv_Tp_readInto.1, fv_Tp_readInto.2.1, fv_Tp_readInto.2.2.1, fv_Tp_readInto.2.2.2, ⟨by decide, by decide, by decide +kernel⟩, by decide⟩
set_option maxRecDepth 20000 in
theorem lk_Tp_25 : LkV "LateSeekers$TapeReader" 25 mt_Tp_advance 0 := ⟨tb_mem 340 rfl rfl, fv_Tp_advance.1, fv_Tp_advance.2.1, fv_Tp_advance.2.2.1, fv_Tp_advance.2.2.2, ⟨by decide, by decide, by decide +kernel⟩, by decide⟩
set_option maxRecDepth 20000 in
theorem lk_Tp_117 : LkV "LateSeekers$TapeReader" 117 mt_Tp_sortAt 1 := ⟨tb_mem 344 rfl rfl, fv_Tp_sortAt.1, fv_Tp_sortAt.2.1, fv_Tp_sortAt.2.2.1, fv_Tp_sortAt.2.2.2, ⟨by decide, by decide, by decide +kernel⟩, by decide⟩
set_option maxRecDepth 20000 in
theorem lk_Tp_31 : LkV "LateSeekers$TapeReader" 31 mt_Tp_readStatement 1 := ⟨tb_mem 348 rfl rfl, fv_Tp_readStatement.1, fv_Tp_readStatement.2.1, fv_Tp_readStatement.2.2.1, fv_Tp_readStatement.2.2.2, ⟨by decide, by decide, by decide +kernel⟩, by decide⟩
set_option maxRecDepth 20000 in
theorem lk_Tp_35 : LkS "LateSeekers$TapeReader" 35 mt_Tp_kindName 1 := ⟨tb_mem 352 rfl rfl, fs_Tp_kindName.1, fs_Tp_kindName.2.1, fs_Tp_kindName.2.2, ⟨by decide, by decide, by decide +kernel⟩, by decide⟩
set_option maxRecDepth 20000 in
theorem lk_Tp_39 : LkV "LateSeekers$TapeReader" 39 mt_Tp_isNext 1 := ⟨tb_mem 361 rfl rfl, fv_Tp_isNext.1, fv_Tp_isNext.2.1, fv_Tp_isNext.2.2.1, fv_Tp_isNext.2.2.2, ⟨by decide, by decide, by decide +kernel⟩, by decide⟩
set_option maxRecDepth 20000 in
theorem lk_Tp_107 : LkV "LateSeekers$TapeReader" 107 mt_Str_length 0 := ⟨tb_mem 365 rfl rfl, fv_Str_length.1, fv_Str_length.2.1, fv_Str_length.2.2.1, fv_Str_length.2.2.2, ⟨by decide, by decide, by decide +kernel⟩, by decide⟩
set_option maxRecDepth 20000 in
theorem lk_Str_335 : LkV "java/lang/String" 335 mt_Str_coder 0 := ⟨tb_mem 369 rfl rfl, fv_Str_coder.1, fv_Str_coder.2.1, fv_Str_coder.2.2.1, fv_Str_coder.2.2.2, ⟨by decide, by decide, by decide +kernel⟩, by decide⟩
set_option maxRecDepth 20000 in
theorem lk_Tp_113 : LkV "LateSeekers$TapeReader" 113 mt_Str_charAt 1 := ⟨tb_mem 375 rfl rfl, fv_Str_charAt.1, fv_Str_charAt.2.1, fv_Str_charAt.2.2.1, fv_Str_charAt.2.2.2, ⟨by decide, by decide, by decide +kernel⟩, by decide⟩
set_option maxRecDepth 20000 in
theorem lk_Str_492 : LkV "java/lang/String" 492 mt_Str_isLatin1 0 := ⟨tb_mem 379 rfl rfl, fv_Str_isLatin1.1, fv_Str_isLatin1.2.1, fv_Str_isLatin1.2.2.1, fv_Str_isLatin1.2.2.2, ⟨by decide, by decide, by decide +kernel⟩, by decide⟩
set_option maxRecDepth 20000 in
theorem lk_Str_495 : LkS "java/lang/String" 495 mt_Lat_charAt 2 := ⟨tb_mem 383 rfl rfl, fs_Lat_charAt.1, fs_Lat_charAt.2.1, fs_Lat_charAt.2.2, ⟨by decide, by decide, by decide +kernel⟩, by decide⟩
set_option maxRecDepth 20000 in
theorem lk_Lat_9 : LkS "java/lang/StringLatin1" 9 mt_Str_checkIndex 2 := ⟨tb_mem 386 rfl rfl, fs_Str_checkIndex.1, fs_Str_checkIndex.2.1, fs_Str_checkIndex.2.2, ⟨by decide, by decide, by decide +kernel⟩, by decide⟩
set_option maxRecDepth 20000 in
theorem lk_Str_1059 : LkS "java/lang/String" 1059 mt_Pre_checkIndex 3 := ⟨tb_mem 391 rfl rfl, fs_Pre_checkIndex.1, fs_Pre_checkIndex.2.1, fs_Pre_checkIndex.2.2, ⟨by decide, by decide, by decide +kernel⟩, by decide⟩
set_option maxRecDepth 20000 in
theorem lk_Str_498 : LkS "java/lang/String" 498 mt_Utf_charAt 2 := ⟨tb_mem 394 rfl rfl, fs_Utf_charAt.1, fs_Utf_charAt.2.1, fs_Utf_charAt.2.2, ⟨by decide, by decide, by decide +kernel⟩, by decide⟩
set_option maxRecDepth 20000 in
theorem lk_Utf_67 : LkS "java/lang/StringUTF16" 67 mt_Utf_checkIndex 2 := ⟨tb_mem 397 rfl rfl, fs_Utf_checkIndex.1, fs_Utf_checkIndex.2.1, fs_Utf_checkIndex.2.2, ⟨by decide, by decide, by decide +kernel⟩, by decide⟩
set_option maxRecDepth 20000 in
theorem lk_Utf_48 : LkS "java/lang/StringUTF16" 48 mt_Utf_length 1 := ⟨tb_mem 400 rfl rfl, fs_Utf_length.1, fs_Utf_length.2.1, fs_Utf_length.2.2, ⟨by decide, by decide, by decide +kernel⟩, by decide⟩
set_option maxRecDepth 20000 in
theorem lk_Utf_414 : LkS "java/lang/StringUTF16" 414 mt_Str_checkIndex 2 := ⟨tb_mem 403 rfl rfl, fs_Str_checkIndex.1, fs_Str_checkIndex.2.1, fs_Str_checkIndex.2.2, ⟨by decide, by decide, by decide +kernel⟩, by decide⟩
set_option maxRecDepth 20000 in
theorem lk_Utf_71 : LkS "java/lang/StringUTF16" 71 mt_Utf_getChar 2 := ⟨tb_mem 404 rfl rfl, fs_Utf_getChar.1, fs_Utf_getChar.2.1, fs_Utf_getChar.2.2, ⟨by decide, by decide, by decide +kernel⟩, by decide⟩
set_option maxRecDepth 20000 in
theorem lk_Tp_43 : LkV "LateSeekers$TapeReader" 43 mt_Tp_readPerson 2 := ⟨tb_mem 413 rfl rfl, fv_Tp_readPerson.1, fv_Tp_readPerson.2.1, fv_Tp_readPerson.2.2.1, fv_Tp_readPerson.2.2.2, ⟨by decide, by decide, by decide +kernel⟩, by decide⟩
set_option maxRecDepth 20000 in
theorem lk_Tp_61 : LkV "LateSeekers$TapeReader" 61 mt_Tp_fail 0 := ⟨tb_mem 417 rfl rfl, fv_Tp_fail.1, fv_Tp_fail.2.1, fv_Tp_fail.2.2.1, fv_Tp_fail.2.2.2, ⟨by decide, by decide, by decide +kernel⟩, by decide⟩
set_option maxRecDepth 20000 in
theorem lk_Tp_66 : LkV "LateSeekers$TapeReader" 66 mt_Tp_takeName 1 := ⟨tb_mem 422 rfl rfl, fv_Tp_takeName.1, fv_Tp_takeName.2.1, fv_Tp_takeName.2.2.1, fv_Tp_takeName.2.2.2, ⟨by decide, by decide, by decide +kernel⟩, by decide⟩
set_option maxRecDepth 20000 in
theorem lk_Tp_70 : LkV "LateSeekers$TapeReader" 70 mt_Tp_takeNumber 1 := ⟨tb_mem 426 rfl rfl, fv_Tp_takeNumber.1, fv_Tp_takeNumber.2.1, fv_Tp_takeNumber.2.2.1, fv_Tp_takeNumber.2.2.2, ⟨by decide, by decide, by decide +kernel⟩, by decide⟩
set_option maxRecDepth 20000 in
theorem lk_Tp_76 : LkV "LateSeekers$TapeReader" 76 mt_Tp_takeNumberIfNamed 2 := ⟨tb_mem 431 rfl rfl, fv_Tp_takeNumberIfNamed.1, fv_Tp_takeNumberIfNamed.2.1, fv_Tp_takeNumberIfNamed.2.2.1, fv_Tp_takeNumberIfNamed.2.2.2, ⟨by decide, by decide, by decide +kernel⟩, by decide⟩
set_option maxRecDepth 20000 in
theorem lk_Tp_84 : LkV "LateSeekers$TapeReader" 84 mt_Tp_takeSemicolon 0 := ⟨tb_mem 437 rfl rfl, fv_Tp_takeSemicolon.1, fv_Tp_takeSemicolon.2.1, fv_Tp_takeSemicolon.2.2.1, fv_Tp_takeSemicolon.2.2.2, ⟨by decide, by decide, by decide +kernel⟩, by decide⟩
set_option maxRecDepth 20000 in
theorem lk_Tp_87 : LkV "LateSeekers$TapeReader" 87 mt_Pk_adm 5 := ⟨tb_mem 441 rfl rfl, fv_Pk_adm.1, fv_Pk_adm.2.1, fv_Pk_adm.2.2.1, fv_Pk_adm.2.2.2, ⟨by decide, by decide, by decide +kernel⟩, by decide⟩
set_option maxRecDepth 20000 in
theorem lk_Pk_61 : LkV "LateSeekers$Park" 61 mt_Pk_hide 2 := ⟨tb_mem 445 rfl rfl, fv_Pk_hide.1, fv_Pk_hide.2.1, fv_Pk_hide.2.2.1, fv_Pk_hide.2.2.2, ⟨by decide, by decide, by decide +kernel⟩, by decide⟩
set_option maxRecDepth 20000 in
theorem lk_Tp_47 : LkS "LateSeekers$TapeReader" 47 mt_Tp_lawName 1 := ⟨tb_mem 449 rfl rfl, fs_Tp_lawName.1, fs_Tp_lawName.2.1, fs_Tp_lawName.2.2, ⟨by decide, by decide, by decide +kernel⟩, by decide⟩
set_option maxRecDepth 20000 in
theorem lk_Tp_50 : LkV "LateSeekers$TapeReader" 50 mt_Tp_readLaw 2 := ⟨tb_mem 456 rfl rfl, fv_Tp_readLaw.1, fv_Tp_readLaw.2.1, fv_Tp_readLaw.2.2.1, fv_Tp_readLaw.2.2.2, ⟨by decide, by decide, by decide +kernel⟩, by decide⟩
set_option maxRecDepth 20000 in
theorem lk_Tp_53 : LkV "LateSeekers$TapeReader" 53 mt_Tp_readCover 1 := ⟨tb_mem 462 rfl rfl, fv_Tp_readCover.1, fv_Tp_readCover.2.1, fv_Tp_readCover.2.2.1, fv_Tp_readCover.2.2.2, ⟨by decide, by decide, by decide +kernel⟩, by decide⟩
set_option maxRecDepth 20000 in
theorem lk_LS_87 : LkV "LateSeekers" 87 mt_Pk_become 1 := ⟨tb_mem 468 rfl rfl, fv_Pk_become.1, fv_Pk_become.2.1, fv_Pk_become.2.2.1, fv_Pk_become.2.2.2, ⟨by decide, by decide, by decide +kernel⟩, by decide⟩
set_option maxRecDepth 20000 in
theorem lk_Law_25 : LkV "LateSeekersLaw" 25 mt_LS_set 2 := ⟨tb_mem 475 rfl rfl, fv_LS_set.1, fv_LS_set.2.1, fv_LS_set.2.2.1, fv_LS_set.2.2.2, ⟨by decide, by decide, by decide +kernel⟩, by decide⟩
set_option maxRecDepth 20000 in
theorem lk_LS_95 : LkS "LateSeekers" 95 mt_LS_isLaw 1 := ⟨tb_mem 479 rfl rfl, fs_LS_isLaw.1, fs_LS_isLaw.2.1, fs_LS_isLaw.2.2, ⟨by decide, by decide, by decide +kernel⟩, by decide⟩
set_option maxRecDepth 20000 in
theorem lk_Law_30 : LkV "LateSeekersLaw" 30 mt_LS_lawOf 1 := ⟨tb_mem 483 rfl rfl, fv_LS_lawOf.1, fv_LS_lawOf.2.1, fv_LS_lawOf.2.2.1, fv_LS_lawOf.2.2.2, ⟨by decide, by decide, by decide +kernel⟩, by decide⟩
set_option maxRecDepth 20000 in
theorem lk_Law_35 : LkV "LateSeekersLaw" 35 mt_LS_person 5 := ⟨tb_mem 487 rfl rfl, fv_LS_person.1, fv_LS_person.2.1, fv_LS_person.2.2.1, fv_LS_person.2.2.2, ⟨by decide, by decide, by decide +kernel⟩, by decide⟩
set_option maxRecDepth 20000 in
theorem lk_LS_106 : LkS "LateSeekers" 106 mt_LS_isKind 1 := ⟨tb_mem 491 rfl rfl, fs_LS_isKind.1, fs_LS_isKind.2.1, fs_LS_isKind.2.2, ⟨by decide, by decide, by decide +kernel⟩, by decide⟩
set_option maxRecDepth 20000 in
theorem lk_LS_109 : LkS "LateSeekers" 109 mt_LS_isPlace 1 := ⟨tb_mem 494 rfl rfl, fs_LS_isPlace.1, fs_LS_isPlace.2.1, fs_LS_isPlace.2.2, ⟨by decide, by decide, by decide +kernel⟩, by decide⟩
set_option maxRecDepth 20000 in
theorem lk_LS_112 : LkV "LateSeekers" 112 mt_Pk_adm 5 := ⟨tb_mem 497 rfl rfl, fv_Pk_adm.1, fv_Pk_adm.2.1, fv_Pk_adm.2.2.1, fv_Pk_adm.2.2.2, ⟨by decide, by decide, by decide +kernel⟩, by decide⟩
set_option maxRecDepth 20000 in
theorem lk_Law_40 : LkV "LateSeekersLaw" 40 mt_LS_of 2 := ⟨tb_mem 498 rfl rfl, fv_LS_of.1, fv_LS_of.2.1, fv_LS_of.2.2.1, fv_LS_of.2.2.2, ⟨by decide, by decide, by decide +kernel⟩, by decide⟩
set_option maxRecDepth 20000 in
theorem lk_LS_116 : LkV "LateSeekers" 116 mt_Pk_has 1 := ⟨tb_mem 502 rfl rfl, fv_Pk_has.1, fv_Pk_has.2.1, fv_Pk_has.2.2.1, fv_Pk_has.2.2.2, ⟨by decide, by decide, by decide +kernel⟩, by decide⟩
set_option maxRecDepth 20000 in
theorem lk_LS_131 : LkV "LateSeekers" 131 mt_Pk_isHidden 1 := ⟨tb_mem 506 rfl rfl, fv_Pk_isHidden.1, fv_Pk_isHidden.2.1, fv_Pk_isHidden.2.2.1, fv_Pk_isHidden.2.2.2, ⟨by decide, by decide, by decide +kernel⟩, by decide⟩
set_option maxRecDepth 20000 in
theorem lk_Law_44 : LkV "LateSeekersLaw" 44 mt_LS_does 2 := ⟨tb_mem 510 rfl rfl, fv_LS_does.1, fv_LS_does.2.1, fv_LS_does.2.2.1, fv_LS_does.2.2.2, ⟨by decide, by decide, by decide +kernel⟩, by decide⟩
set_option maxRecDepth 20000 in
theorem lk_LS_137 : LkV "LateSeekers" 137 mt_Pk_hides 1 := ⟨tb_mem 514 rfl rfl, fv_Pk_hides.1, fv_Pk_hides.2.1, fv_Pk_hides.2.2.1, fv_Pk_hides.2.2.2, ⟨by decide, by decide, by decide +kernel⟩, by decide⟩
set_option maxRecDepth 20000 in
theorem lk_LS_141 : LkV "LateSeekers" 141 mt_Pk_sees 1 := ⟨tb_mem 518 rfl rfl, fv_Pk_sees.1, fv_Pk_sees.2.1, fv_Pk_sees.2.2.1, fv_Pk_sees.2.2.2, ⟨by decide, by decide, by decide +kernel⟩, by decide⟩
set_option maxRecDepth 20000 in
theorem lk_LS_144 : LkV "LateSeekers" 144 mt_Pk_strides 1 := ⟨tb_mem 522 rfl rfl, fv_Pk_strides.1, fv_Pk_strides.2.1, fv_Pk_strides.2.2.1, fv_Pk_strides.2.2.2, ⟨by decide, by decide, by decide +kernel⟩, by decide⟩
set_option maxRecDepth 20000 in
theorem lk_Law_48 : LkV "LateSeekersLaw" 48 mt_LS_mind 3 := ⟨tb_mem 526 rfl rfl, fv_LS_mind.1, fv_LS_mind.2.1, fv_LS_mind.2.2.1, fv_LS_mind.2.2.2, ⟨by decide, by decide, by decide +kernel⟩, by decide⟩
set_option maxRecDepth 20000 in
theorem lk_Law_53 : LkV "LateSeekersLaw" 53 mt_LS_age 2 := ⟨tb_mem 530 rfl rfl, fv_LS_age.1, fv_LS_age.2.1, fv_LS_age.2.2.1, fv_LS_age.2.2.2, ⟨by decide, by decide, by decide +kernel⟩, by decide⟩
set_option maxRecDepth 20000 in
theorem lk_Law_57 : LkV "LateSeekersLaw" 57 mt_LS_bring 2 := ⟨tb_mem 534 rfl rfl, fv_LS_bring.1, fv_LS_bring.2.1, fv_LS_bring.2.2.1, fv_LS_bring.2.2.2, ⟨by decide, by decide, by decide +kernel⟩, by decide⟩
set_option maxRecDepth 20000 in
theorem lk_Law_61 : LkV "LateSeekersLaw" 61 mt_LS_seek 2 := ⟨tb_mem 538 rfl rfl, fv_LS_seek.1, fv_LS_seek.2.1, fv_LS_seek.2.2.1, fv_LS_seek.2.2.2, ⟨by decide, by decide, by decide +kernel⟩, by decide⟩
set_option maxRecDepth 20000 in
theorem lk_LS_147 : LkV "LateSeekers" 147 mt_Pk_hide 2 := ⟨tb_mem 542 rfl rfl, fv_Pk_hide.1, fv_Pk_hide.2.1, fv_Pk_hide.2.2.1, fv_Pk_hide.2.2.2, ⟨by decide, by decide, by decide +kernel⟩, by decide⟩
set_option maxRecDepth 20000 in
theorem lk_Law_65 : LkV "LateSeekersLaw" 65 mt_LS_place 2 := ⟨tb_mem 543 rfl rfl, fv_LS_place.1, fv_LS_place.2.1, fv_LS_place.2.2.1, fv_LS_place.2.2.2, ⟨by decide, by decide, by decide +kernel⟩, by decide⟩
set_option maxRecDepth 20000 in
theorem lk_LS_154 : LkV "LateSeekers" 154 mt_Pk_peopleAt 1 := ⟨tb_mem 547 rfl rfl, fv_Pk_peopleAt.1, fv_Pk_peopleAt.2.1, fv_Pk_peopleAt.2.2.1, fv_Pk_peopleAt.2.2.2, ⟨by decide, by decide, by decide +kernel⟩, by decide⟩
set_option maxRecDepth 20000 in
theorem lk_LS_160 : LkS "LateSeekers" 160 mt_Integer_bitCount 1 := ⟨tb_mem 551 rfl rfl, fs_Integer_bitCount.1, fs_Integer_bitCount.2.1, fs_Integer_bitCount.2.2, ⟨by decide, by decide, by decide +kernel⟩, by decide⟩
set_option maxRecDepth 20000 in
theorem lk_Law_69 : LkV "LateSeekersLaw" 69 mt_LS_cover 2 := ⟨tb_mem 557 rfl rfl, fv_LS_cover.1, fv_LS_cover.2.1, fv_LS_cover.2.2.1, fv_LS_cover.2.2.2, ⟨by decide, by decide, by decide +kernel⟩, by decide⟩
set_option maxRecDepth 20000 in
theorem lk_Law_73 : LkV "LateSeekersLaw" 73 mt_LS_years 1 := ⟨tb_mem 561 rfl rfl, fv_LS_years.1, fv_LS_years.2.1, fv_LS_years.2.2.1, fv_LS_years.2.2.2, ⟨by decide, by decide, by decide +kernel⟩, by decide⟩
set_option maxRecDepth 20000 in
theorem lk_LS_165 : LkV "LateSeekers" 165 mt_Pk_passYears 2 := ⟨tb_mem 565 rfl rfl, fv_Pk_passYears.1, fv_Pk_passYears.2.1, fv_Pk_passYears.2.2.1, fv_Pk_passYears.2.2.2, ⟨by decide, by decide, by decide +kernel⟩, by decide⟩
set_option maxRecDepth 20000 in
theorem lk_Pk_78 : LkV "LateSeekers$Park" 78 mt_Pk_passYear 1 := ⟨tb_mem 569 rfl rfl, fv_Pk_passYear.1, fv_Pk_passYear.2.1, fv_Pk_passYear.2.2.1, fv_Pk_passYear.2.2.2, ⟨by decide, by decide, by decide +kernel⟩, by decide⟩
set_option maxRecDepth 20000 in
theorem lk_Pk_82 : LkV "LateSeekers$Park" 82 mt_Pk_growOlder 0 := ⟨tb_mem 573 rfl rfl, fv_Pk_growOlder.1, fv_Pk_growOlder.2.1, fv_Pk_growOlder.2.2.1, fv_Pk_growOlder.2.2.2, ⟨by decide, by decide, by decide +kernel⟩, by decide⟩
set_option maxRecDepth 20000 in
theorem lk_Pk_85 : LkV "LateSeekers$Park" 85 mt_Pk_goSeeking 2 := ⟨tb_mem 577 rfl rfl, fv_Pk_goSeeking.1, fv_Pk_goSeeking.2.1, fv_Pk_goSeeking.2.2.1, fv_Pk_goSeeking.2.2.2, ⟨by decide, by decide, by decide +kernel⟩, by decide⟩
set_option maxRecDepth 20000 in
theorem lk_Pk_88 : LkV "LateSeekers$Park" 88 mt_Pk_strides 1 := ⟨tb_mem 581 rfl rfl, fv_Pk_strides.1, fv_Pk_strides.2.1, fv_Pk_strides.2.2.1, fv_Pk_strides.2.2.2, ⟨by decide, by decide, by decide +kernel⟩, by decide⟩
set_option maxRecDepth 20000 in
theorem lk_Pk_91 : LkS "LateSeekers$Park" 91 mt_Math_floorMod 2 := ⟨tb_mem 582 rfl rfl, fs_Math_floorMod.1, fs_Math_floorMod.2.1, fs_Math_floorMod.2.2, ⟨by decide, by decide, by decide +kernel⟩, by decide⟩
set_option maxRecDepth 20000 in
theorem lk_Pk_97 : LkV "LateSeekers$Park" 97 mt_Pk_findOne 1 := ⟨tb_mem 585 rfl rfl, fv_Pk_findOne.1, fv_Pk_findOne.2.1, fv_Pk_findOne.2.2.1, fv_Pk_findOne.2.2.2, ⟨by decide, by decide, by decide +kernel⟩, by decide⟩
set_option maxRecDepth 20000 in
theorem lk_Pk_100 : LkV "LateSeekers$Park" 100 mt_Pk_sees 1 := ⟨tb_mem 589 rfl rfl, fv_Pk_sees.1, fv_Pk_sees.2.1, fv_Pk_sees.2.2.1, fv_Pk_sees.2.2.2, ⟨by decide, by decide, by decide +kernel⟩, by decide⟩
set_option maxRecDepth 20000 in
theorem lk_Pk_71 : LkV "LateSeekers$Park" 71 mt_Pk_isHidden 1 := ⟨tb_mem 590 rfl rfl, fv_Pk_isHidden.1, fv_Pk_isHidden.2.1, fv_Pk_isHidden.2.2.1, fv_Pk_isHidden.2.2.2, ⟨by decide, by decide, by decide +kernel⟩, by decide⟩
set_option maxRecDepth 20000 in
theorem lk_Pk_103 : LkV "LateSeekers$Park" 103 mt_Pk_hides 1 := ⟨tb_mem 591 rfl rfl, fv_Pk_hides.1, fv_Pk_hides.2.1, fv_Pk_hides.2.2.1, fv_Pk_hides.2.2.2, ⟨by decide, by decide, by decide +kernel⟩, by decide⟩
set_option maxRecDepth 20000 in
theorem lk_LS_169 : LkV "LateSeekers" 169 mt_Pk_hiddenOnes 0 := ⟨tb_mem 592 rfl rfl, fv_Pk_hiddenOnes.1, fv_Pk_hiddenOnes.2.1, fv_Pk_hiddenOnes.2.2.1, fv_Pk_hiddenOnes.2.2.2, ⟨by decide, by decide, by decide +kernel⟩, by decide⟩
set_option maxRecDepth 20000 in
theorem lk_Pk_65 : LkS "LateSeekers$Park" 65 mt_Integer_bitCount 1 := ⟨tb_mem 596 rfl rfl, fs_Integer_bitCount.1, fs_Integer_bitCount.2.1, fs_Integer_bitCount.2.2, ⟨by decide, by decide, by decide +kernel⟩, by decide⟩
set_option maxRecDepth 20000 in
theorem lk_Law_77 : LkV "LateSeekersLaw" 77 mt_LS_seed 1 := ⟨tb_mem 597 rfl rfl, fv_LS_seed.1, fv_LS_seed.2.1, fv_LS_seed.2.2.1, fv_LS_seed.2.2.2, ⟨by decide, by decide, by decide +kernel⟩, by decide⟩
set_option maxRecDepth 20000 in
theorem lk_Law_81 : LkV "LateSeekersLaw" 81 mt_LS_year 0 := ⟨tb_mem 601 rfl rfl, fv_LS_year.1, fv_LS_year.2.1, fv_LS_year.2.2.1, fv_LS_year.2.2.2, ⟨by decide, by decide, by decide +kernel⟩, by decide⟩
set_option maxRecDepth 20000 in
theorem lk_LS_173 : LkV "LateSeekers" 173 mt_Pk_passYearByDraws 0 := ⟨tb_mem 605 rfl rfl, fv_Pk_passYearByDraws.1, fv_Pk_passYearByDraws.2.1, fv_Pk_passYearByDraws.2.2.1, fv_Pk_passYearByDraws.2.2.2, ⟨by decide, by decide, by decide +kernel⟩, by decide⟩
set_option maxRecDepth 20000 in
theorem lk_Pk_106 : LkV "LateSeekers$Park" 106 mt_Pk_drawn 0 := ⟨tb_mem 609 rfl rfl, fv_Pk_drawn.1, fv_Pk_drawn.2.1, fv_Pk_drawn.2.2.1, fv_Pk_drawn.2.2.2, ⟨by decide, by decide, by decide +kernel⟩, by decide⟩
set_option maxRecDepth 20000 in
theorem lk_Law_85 : LkV "LateSeekersLaw" 85 mt_LS_nights 1 := ⟨tb_mem 614 rfl rfl, fv_LS_nights.1, fv_LS_nights.2.1, fv_LS_nights.2.2.1, fv_LS_nights.2.2.2, ⟨by decide, by decide, by decide +kernel⟩, by decide⟩
set_option maxRecDepth 20000 in
theorem lk_LS_176 : LkV "LateSeekers" 176 mt_Tr_nightsWithMoreHidden 1 := ⟨tb_mem 618 rfl rfl, fv_Tr_nightsWithMoreHidden.1, fv_Tr_nightsWithMoreHidden.2.1, fv_Tr_nightsWithMoreHidden.2.2.1, fv_Tr_nightsWithMoreHidden.2.2.2, ⟨by decide, by decide, by decide +kernel⟩, by decide⟩
set_option maxRecDepth 20000 in
theorem lk_Tr_21 : LkV "LateSeekers$Trials" 21 mt_Pk_become 1 := ⟨tb_mem 622 rfl rfl, fv_Pk_become.1, fv_Pk_become.2.1, fv_Pk_become.2.2.1, fv_Pk_become.2.2.2, ⟨by decide, by decide, by decide +kernel⟩, by decide⟩
set_option maxRecDepth 20000 in
theorem lk_Tr_86 : LkV "LateSeekers$Trials" 86 mt_Pk_passYearByDraws 0 := ⟨tb_mem 623 rfl rfl, fv_Pk_passYearByDraws.1, fv_Pk_passYearByDraws.2.1, fv_Pk_passYearByDraws.2.2.1, fv_Pk_passYearByDraws.2.2.2, ⟨by decide, by decide, by decide +kernel⟩, by decide⟩
set_option maxRecDepth 20000 in
theorem lk_Tr_89 : LkV "LateSeekers$Trials" 89 mt_Pk_hiddenOnes 0 := ⟨tb_mem 624 rfl rfl, fv_Pk_hiddenOnes.1, fv_Pk_hiddenOnes.2.1, fv_Pk_hiddenOnes.2.2.1, fv_Pk_hiddenOnes.2.2.2, ⟨by decide, by decide, by decide +kernel⟩, by decide⟩
set_option maxRecDepth 20000 in
theorem lk_Law_89 : LkV "LateSeekersLaw" 89 mt_LS_state 1 := ⟨tb_mem 625 rfl rfl, fv_LS_state.1, fv_LS_state.2.1, fv_LS_state.2.2.1, fv_LS_state.2.2.2, ⟨by decide, by decide, by decide +kernel⟩, by decide⟩
set_option maxRecDepth 20000 in
theorem lk_LS_182 : LkS "LateSeekers" 182 mt_LS_sumOf 2 := ⟨tb_mem 629 rfl rfl, fs_LS_sumOf.1, fs_LS_sumOf.2.1, fs_LS_sumOf.2.2, ⟨by decide, by decide, by decide +kernel⟩, by decide⟩
set_option maxRecDepth 20000 in
theorem lk_LS_186 : LkV "LateSeekers" 186 mt_Pk_hidingPlaces 0 := ⟨tb_mem 632 rfl rfl, fv_Pk_hidingPlaces.1, fv_Pk_hidingPlaces.2.1, fv_Pk_hidingPlaces.2.2.1, fv_Pk_hidingPlaces.2.2.2, ⟨by decide, by decide, by decide +kernel⟩, by decide⟩
set_option maxRecDepth 20000 in
theorem lk_Law_93 : LkV "LateSeekersLaw" 93 mt_LS_where 2 := ⟨tb_mem 636 rfl rfl, fv_LS_where.1, fv_LS_where.2.1, fv_LS_where.2.2.1, fv_LS_where.2.2.2, ⟨by decide, by decide, by decide +kernel⟩, by decide⟩
set_option maxRecDepth 20000 in
theorem lk_Law_97 : LkV "LateSeekersLaw" 97 mt_LS_shown 1 := ⟨tb_mem 640 rfl rfl, fv_LS_shown.1, fv_LS_shown.2.1, fv_LS_shown.2.2.1, fv_LS_shown.2.2.2, ⟨by decide, by decide, by decide +kernel⟩, by decide⟩
set_option maxRecDepth 20000 in
theorem lk_LS_189 : LkV "LateSeekers" 189 mt_Tr_shownBehind 2 := ⟨tb_mem 644 rfl rfl, fv_Tr_shownBehind.1, fv_Tr_shownBehind.2.1, fv_Tr_shownBehind.2.2.1, fv_Tr_shownBehind.2.2.2, ⟨by decide, by decide, by decide +kernel⟩, by decide⟩
set_option maxRecDepth 20000 in
theorem lk_Tr_25 : LkV "LateSeekers$Trials" 25 mt_Tr_yearsUntilShown 2 := ⟨tb_mem 648 rfl rfl, fv_Tr_yearsUntilShown.1, fv_Tr_yearsUntilShown.2.1, fv_Tr_yearsUntilShown.2.2.1, fv_Tr_yearsUntilShown.2.2.2, ⟨by decide, by decide, by decide +kernel⟩, by decide⟩
set_option maxRecDepth 20000 in
theorem lk_Tr_29 : LkV "LateSeekers$Trials" 29 mt_Pk_isHidden 1 := ⟨tb_mem 652 rfl rfl, fv_Pk_isHidden.1, fv_Pk_isHidden.2.1, fv_Pk_isHidden.2.2.1, fv_Pk_isHidden.2.2.2, ⟨by decide, by decide, by decide +kernel⟩, by decide⟩
set_option maxRecDepth 20000 in
theorem lk_Tr_33 : LkV "LateSeekers$Trials" 33 mt_Pk_passYear 1 := ⟨tb_mem 653 rfl rfl, fv_Pk_passYear.1, fv_Pk_passYear.2.1, fv_Pk_passYear.2.2.1, fv_Pk_passYear.2.2.2, ⟨by decide, by decide, by decide +kernel⟩, by decide⟩
set_option maxRecDepth 20000 in
theorem lk_Law_101 : LkV "LateSeekersLaw" 101 mt_LS_all 0 := ⟨tb_mem 654 rfl rfl, fv_LS_all.1, fv_LS_all.2.1, fv_LS_all.2.2.1, fv_LS_all.2.2.2, ⟨by decide, by decide, by decide +kernel⟩, by decide⟩
set_option maxRecDepth 20000 in
theorem lk_LS_193 : LkV "LateSeekers" 193 mt_Tr_allShownBehind 0 := ⟨tb_mem 658 rfl rfl, fv_Tr_allShownBehind.1, fv_Tr_allShownBehind.2.1, fv_Tr_allShownBehind.2.2.1, fv_Tr_allShownBehind.2.2.2, ⟨by decide, by decide, by decide +kernel⟩, by decide⟩
set_option maxRecDepth 20000 in
theorem lk_Law_105 : LkV "LateSeekersLaw" 105 mt_LS_finder 1 := ⟨tb_mem 662 rfl rfl, fv_LS_finder.1, fv_LS_finder.2.1, fv_LS_finder.2.2.1, fv_LS_finder.2.2.2, ⟨by decide, by decide, by decide +kernel⟩, by decide⟩
set_option maxRecDepth 20000 in
theorem lk_Law_109 : LkV "LateSeekersLaw" 109 mt_LS_safeFor 1 := ⟨tb_mem 666 rfl rfl, fv_LS_safeFor.1, fv_LS_safeFor.2.1, fv_LS_safeFor.2.2.1, fv_LS_safeFor.2.2.2, ⟨by decide, by decide, by decide +kernel⟩, by decide⟩
set_option maxRecDepth 20000 in
theorem lk_LS_199 : LkV "LateSeekers" 199 mt_Tr_safestPlace 1 := ⟨tb_mem 670 rfl rfl, fv_Tr_safestPlace.1, fv_Tr_safestPlace.2.1, fv_Tr_safestPlace.2.2.1, fv_Tr_safestPlace.2.2.2, ⟨by decide, by decide, by decide +kernel⟩, by decide⟩
set_option maxRecDepth 20000 in
theorem lk_Tr_45 : LkV "LateSeekers$Trials" 45 mt_Pk_hide 2 := ⟨tb_mem 674 rfl rfl, fv_Pk_hide.1, fv_Pk_hide.2.1, fv_Pk_hide.2.2.1, fv_Pk_hide.2.2.2, ⟨by decide, by decide, by decide +kernel⟩, by decide⟩
set_option maxRecDepth 20000 in
theorem lk_Law_113 : LkV "LateSeekersLaw" 113 mt_LS_kindFor 1 := ⟨tb_mem 675 rfl rfl, fv_LS_kindFor.1, fv_LS_kindFor.2.1, fv_LS_kindFor.2.2.1, fv_LS_kindFor.2.2.2, ⟨by decide, by decide, by decide +kernel⟩, by decide⟩
set_option maxRecDepth 20000 in
theorem lk_LS_202 : LkV "LateSeekers" 202 mt_Tr_safestKind 1 := ⟨tb_mem 679 rfl rfl, fv_Tr_safestKind.1, fv_Tr_safestKind.2.1, fv_Tr_safestKind.2.2.1, fv_Tr_safestKind.2.2.2, ⟨by decide, by decide, by decide +kernel⟩, by decide⟩
set_option maxRecDepth 20000 in
theorem lk_Law_117 : LkV "LateSeekersLaw" 117 mt_LS_witFor 2 := ⟨tb_mem 683 rfl rfl, fv_LS_witFor.1, fv_LS_witFor.2.1, fv_LS_witFor.2.2.1, fv_LS_witFor.2.2.2, ⟨by decide, by decide, by decide +kernel⟩, by decide⟩
set_option maxRecDepth 20000 in
theorem lk_LS_205 : LkV "LateSeekers" 205 mt_Tr_leastHidingWit 2 := ⟨tb_mem 687 rfl rfl, fv_Tr_leastHidingWit.1, fv_Tr_leastHidingWit.2.1, fv_Tr_leastHidingWit.2.2.1, fv_Tr_leastHidingWit.2.2.2, ⟨by decide, by decide, by decide +kernel⟩, by decide⟩
set_option maxRecDepth 20000 in
theorem lk_Tr_55 : LkV "LateSeekers$Trials" 55 mt_Pk_passYears 2 := ⟨tb_mem 691 rfl rfl, fv_Pk_passYears.1, fv_Pk_passYears.2.1, fv_Pk_passYears.2.2.1, fv_Pk_passYears.2.2.2, ⟨by decide, by decide, by decide +kernel⟩, by decide⟩
set_option maxRecDepth 20000 in
theorem lk_Law_121 : LkV "LateSeekersLaw" 121 mt_LS_needed 1 := ⟨tb_mem 692 rfl rfl, fv_LS_needed.1, fv_LS_needed.2.1, fv_LS_needed.2.2.1, fv_LS_needed.2.2.2, ⟨by decide, by decide, by decide +kernel⟩, by decide⟩
set_option maxRecDepth 20000 in
theorem lk_LS_208 : LkV "LateSeekers" 208 mt_Tr_mostNeeded 1 := ⟨tb_mem 696 rfl rfl, fv_Tr_mostNeeded.1, fv_Tr_mostNeeded.2.1, fv_Tr_mostNeeded.2.2.1, fv_Tr_mostNeeded.2.2.2, ⟨by decide, by decide, by decide +kernel⟩, by decide⟩
set_option maxRecDepth 20000 in
theorem lk_Tr_59 : LkV "LateSeekers$Trials" 59 mt_Tr_shownBehind 2 := ⟨tb_mem 700 rfl rfl, fv_Tr_shownBehind.1, fv_Tr_shownBehind.2.1, fv_Tr_shownBehind.2.2.1, fv_Tr_shownBehind.2.2.2, ⟨by decide, by decide, by decide +kernel⟩, by decide⟩
set_option maxRecDepth 20000 in
theorem lk_Law_125 : LkV "LateSeekersLaw" 125 mt_LS_fewest 2 := ⟨tb_mem 701 rfl rfl, fv_LS_fewest.1, fv_LS_fewest.2.1, fv_LS_fewest.2.2.1, fv_LS_fewest.2.2.2, ⟨by decide, by decide, by decide +kernel⟩, by decide⟩
set_option maxRecDepth 20000 in
theorem lk_LS_211 : LkV "LateSeekers" 211 mt_Tr_fewestFinders 2 := ⟨tb_mem 705 rfl rfl, fv_Tr_fewestFinders.1, fv_Tr_fewestFinders.2.1, fv_Tr_fewestFinders.2.2.1, fv_Tr_fewestFinders.2.2.2, ⟨by decide, by decide, by decide +kernel⟩, by decide⟩
set_option maxRecDepth 20000 in
theorem lk_Tr_65 : LkS "LateSeekers$Trials" 65 mt_Integer_bitCount 1 := ⟨tb_mem 709 rfl rfl, fs_Integer_bitCount.1, fs_Integer_bitCount.2.1, fs_Integer_bitCount.2.2, ⟨by decide, by decide, by decide +kernel⟩, by decide⟩
set_option maxRecDepth 20000 in
theorem lk_Tr_71 : LkV "LateSeekers$Trials" 71 mt_Tr_seeksBehind 3 := ⟨tb_mem 710 rfl rfl, fv_Tr_seeksBehind.1, fv_Tr_seeksBehind.2.1, fv_Tr_seeksBehind.2.2.1, fv_Tr_seeksBehind.2.2.2, ⟨by decide, by decide, by decide +kernel⟩, by decide⟩
set_option maxRecDepth 20000 in
theorem lk_Law_129 : LkV "LateSeekersLaw" 129 mt_LS_round 1 := ⟨tb_mem 714 rfl rfl, fv_LS_round.1, fv_LS_round.2.1, fv_LS_round.2.2.1, fv_LS_round.2.2.2, ⟨by decide, by decide, by decide +kernel⟩, by decide⟩
set_option maxRecDepth 20000 in
theorem lk_LS_214 : LkS "LateSeekers" 214 mt_LS_stepsRound 2 := ⟨tb_mem 718 rfl rfl, fs_LS_stepsRound.1, fs_LS_stepsRound.2.1, fs_LS_stepsRound.2.2, ⟨by decide, by decide, by decide +kernel⟩, by decide⟩
set_option maxRecDepth 20000 in
theorem lk_LS_217 : LkS "LateSeekers" 217 mt_Math_min 2 := ⟨tb_mem 721 rfl rfl, fs_Math_min.1, fs_Math_min.2.1, fs_Math_min.2.2, ⟨by decide, by decide, by decide +kernel⟩, by decide⟩
set_option maxRecDepth 20000 in
theorem lk_Law_133 : LkV "LateSeekersLaw" 133 mt_LS_fits 3 := ⟨tb_mem 724 rfl rfl, fv_LS_fits.1, fv_LS_fits.2.1, fv_LS_fits.2.2.1, fv_LS_fits.2.2.2, ⟨by decide, by decide, by decide +kernel⟩, by decide⟩
set_option maxRecDepth 20000 in
theorem lk_LS_222 : LkS "LateSeekers" 222 mt_LS_isSheet 1 := ⟨tb_mem 728 rfl rfl, fs_LS_isSheet.1, fs_LS_isSheet.2.1, fs_LS_isSheet.2.2, ⟨by decide, by decide, by decide +kernel⟩, by decide⟩
set_option maxRecDepth 20000 in
theorem lk_LS_225 : LkV "LateSeekers" 225 mt_Sh_isMissing 1 := ⟨tb_mem 731 rfl rfl, fv_Sh_isMissing.1, fv_Sh_isMissing.2.1, fv_Sh_isMissing.2.2.1, fv_Sh_isMissing.2.2.2, ⟨by decide, by decide, by decide +kernel⟩, by decide⟩
set_option maxRecDepth 20000 in
theorem lk_LS_228 : LkV "LateSeekers" 228 mt_Tr_wouldFit 4 := ⟨tb_mem 735 rfl rfl, fv_Tr_wouldFit.1, fv_Tr_wouldFit.2.1, fv_Tr_wouldFit.2.2.1, fv_Tr_wouldFit.2.2.2, ⟨by decide, by decide, by decide +kernel⟩, by decide⟩
set_option maxRecDepth 20000 in
theorem lk_Tr_80 : LkV "LateSeekers$Trials" 80 mt_Sh_read 2 := ⟨tb_mem 739 rfl rfl, fv_Sh_read.1, fv_Sh_read.2.1, fv_Sh_read.2.2.1, fv_Sh_read.2.2.2, ⟨by decide, by decide, by decide +kernel⟩, by decide⟩
set_option maxRecDepth 20000 in
theorem lk_Law_137 : LkV "LateSeekersLaw" 137 mt_LS_odds 3 := ⟨tb_mem 743 rfl rfl, fv_LS_odds.1, fv_LS_odds.2.1, fv_LS_odds.2.2.1, fv_LS_odds.2.2.2, ⟨by decide, by decide, by decide +kernel⟩, by decide⟩
set_option maxRecDepth 20000 in
theorem lk_LS_236 : LkS "LateSeekers" 236 mt_LS_partOf 3 := ⟨tb_mem 749 rfl rfl, fs_LS_partOf.1, fs_LS_partOf.2.1, fs_LS_partOf.2.2, ⟨by decide, by decide, by decide +kernel⟩, by decide⟩
set_option maxRecDepth 20000 in
theorem lk_LS_240 : LkS "LateSeekers" 240 mt_LS_commonDivisor 2 := ⟨tb_mem 752 rfl rfl, fs_LS_commonDivisor.1, fs_LS_commonDivisor.2.1, fs_LS_commonDivisor.2.2, ⟨by decide, by decide, by decide +kernel⟩, by decide⟩
set_option maxRecDepth 20000 in
theorem lk_Law_142 : LkV "LateSeekersLaw" 142 mt_LS_hope 2 := ⟨tb_mem 755 rfl rfl, fv_LS_hope.1, fv_LS_hope.2.1, fv_LS_hope.2.2.1, fv_LS_hope.2.2.2, ⟨by decide, by decide, by decide +kernel⟩, by decide⟩
set_option maxRecDepth 20000 in
theorem lk_Law_147 : LkV "LateSeekersLaw" 147 mt_LS_prove 2 := ⟨tb_mem 759 rfl rfl, fv_LS_prove.1, fv_LS_prove.2.1, fv_LS_prove.2.2.1, fv_LS_prove.2.2.2, ⟨by decide, by decide, by decide +kernel⟩, by decide⟩
set_option maxRecDepth 20000 in
theorem lk_LS_244 : LkV "LateSeekers" 244 mt_Pk_passYear 1 := ⟨tb_mem 763 rfl rfl, fv_Pk_passYear.1, fv_Pk_passYear.2.1, fv_Pk_passYear.2.2.1, fv_Pk_passYear.2.2.2, ⟨by decide, by decide, by decide +kernel⟩, by decide⟩
set_option maxRecDepth 20000 in
theorem lk_LS_248 : LkV "LateSeekers" 248 mt_Rw_write 3 := ⟨tb_mem 764 rfl rfl, fv_Rw_write.1, fv_Rw_write.2.1, fv_Rw_write.2.2.1, fv_Rw_write.2.2.2, ⟨by decide, by decide, by decide +kernel⟩, by decide⟩
set_option maxRecDepth 20000 in
theorem lk_Rw_19 : LkS "LateSeekers$Rows" 19 mt_Rw_due 3 := ⟨tb_mem 768 rfl rfl, fs_Rw_due.1, fs_Rw_due.2.1, fs_Rw_due.2.2, ⟨by decide, by decide, by decide +kernel⟩, by decide⟩
set_option maxRecDepth 20000 in
theorem lk_Rw_28 : LkV "LateSeekers$Rows" 28 mt_Pk_isHidden 1 := ⟨tb_mem 771 rfl rfl, fv_Pk_isHidden.1, fv_Pk_isHidden.2.1, fv_Pk_isHidden.2.2.1, fv_Pk_isHidden.2.2.2, ⟨by decide, by decide, by decide +kernel⟩, by decide⟩
set_option maxRecDepth 20000 in
theorem lk_Law_151 : LkV "LateSeekersLaw" 151 mt_LS_row 2 := ⟨tb_mem 772 rfl rfl, fv_LS_row.1, fv_LS_row.2.1, fv_LS_row.2.2.1, fv_LS_row.2.2.2, ⟨by decide, by decide, by decide +kernel⟩, by decide⟩
set_option maxRecDepth 20000 in
theorem lk_LS_252 : LkV "LateSeekers" 252 mt_Rw_has 2 := ⟨tb_mem 776 rfl rfl, fv_Rw_has.1, fv_Rw_has.2.1, fv_Rw_has.2.2.1, fv_Rw_has.2.2.2, ⟨by decide, by decide, by decide +kernel⟩, by decide⟩
set_option maxRecDepth 20000 in
theorem lk_Law_155 : LkV "LateSeekersLaw" 155 mt_LS_alterRow 3 := ⟨tb_mem 780 rfl rfl, fv_LS_alterRow.1, fv_LS_alterRow.2.1, fv_LS_alterRow.2.2.1, fv_LS_alterRow.2.2.2, ⟨by decide, by decide, by decide +kernel⟩, by decide⟩
set_option maxRecDepth 20000 in
theorem lk_Law_159 : LkV "LateSeekersLaw" 159 mt_LS_judge 1 := ⟨tb_mem 784 rfl rfl, fv_LS_judge.1, fv_LS_judge.2.1, fv_LS_judge.2.2.1, fv_LS_judge.2.2.2, ⟨by decide, by decide, by decide +kernel⟩, by decide⟩
set_option maxRecDepth 20000 in
theorem lk_LS_258 : LkV "LateSeekers" 258 mt_Rw_isRight 3 := ⟨tb_mem 788 rfl rfl, fv_Rw_isRight.1, fv_Rw_isRight.2.1, fv_Rw_isRight.2.2.1, fv_Rw_isRight.2.2.2, ⟨by decide, by decide, by decide +kernel⟩, by decide⟩
set_option maxRecDepth 20000 in
theorem lk_Law_163 : LkV "LateSeekersLaw" 163 mt_LS_minds 4 := ⟨tb_mem 792 rfl rfl, fv_LS_minds.1, fv_LS_minds.2.1, fv_LS_minds.2.2.1, fv_LS_minds.2.2.2, ⟨by decide, by decide, by decide +kernel⟩, by decide⟩
set_option maxRecDepth 20000 in
theorem lk_LS_267 : LkV "LateSeekers" 267 mt_Sh_read 2 := ⟨tb_mem 796 rfl rfl, fv_Sh_read.1, fv_Sh_read.2.1, fv_Sh_read.2.2.1, fv_Sh_read.2.2.2, ⟨by decide, by decide, by decide +kernel⟩, by decide⟩
set_option maxRecDepth 20000 in
theorem lk_LS_270 : LkS "LateSeekers" 270 mt_Math_max 2 := ⟨tb_mem 797 rfl rfl, fs_Math_max.1, fs_Math_max.2.1, fs_Math_max.2.2, ⟨by decide, by decide, by decide +kernel⟩, by decide⟩
set_option maxRecDepth 20000 in
theorem lk_Law_168 : LkV "LateSeekersLaw" 168 mt_LS_sheet 3 := ⟨tb_mem 800 rfl rfl, fv_LS_sheet.1, fv_LS_sheet.2.1, fv_LS_sheet.2.2.1, fv_LS_sheet.2.2.2, ⟨by decide, by decide, by decide +kernel⟩, by decide⟩
set_option maxRecDepth 20000 in
theorem lk_LS_273 : LkV "LateSeekers" 273 mt_Sh_remove 1 := ⟨tb_mem 804 rfl rfl, fv_Sh_remove.1, fv_Sh_remove.2.1, fv_Sh_remove.2.2.1, fv_Sh_remove.2.2.2, ⟨by decide, by decide, by decide +kernel⟩, by decide⟩
set_option maxRecDepth 20000 in
theorem lk_LS_276 : LkV "LateSeekers" 276 mt_Sh_lay 3 := ⟨tb_mem 808 rfl rfl, fv_Sh_lay.1, fv_Sh_lay.2.1, fv_Sh_lay.2.2.1, fv_Sh_lay.2.2.2, ⟨by decide, by decide, by decide +kernel⟩, by decide⟩
set_option maxRecDepth 20000 in
theorem lk_Law_172 : LkV "LateSeekersLaw" 172 mt_LS_put 3 := ⟨tb_mem 812 rfl rfl, fv_LS_put.1, fv_LS_put.2.1, fv_LS_put.2.2.1, fv_LS_put.2.2.2, ⟨by decide, by decide, by decide +kernel⟩, by decide⟩
set_option maxRecDepth 20000 in
theorem lk_LS_280 : LkV "LateSeekers" 280 mt_Sh_hasItem 2 := ⟨tb_mem 816 rfl rfl, fv_Sh_hasItem.1, fv_Sh_hasItem.2.1, fv_Sh_hasItem.2.2.1, fv_Sh_hasItem.2.2.2, ⟨by decide, by decide, by decide +kernel⟩, by decide⟩
set_option maxRecDepth 20000 in
theorem lk_LS_283 : LkV "LateSeekers" 283 mt_Sh_write 3 := ⟨tb_mem 820 rfl rfl, fv_Sh_write.1, fv_Sh_write.2.1, fv_Sh_write.2.2.1, fv_Sh_write.2.2.2, ⟨by decide, by decide, by decide +kernel⟩, by decide⟩
set_option maxRecDepth 20000 in
theorem lk_Sh_21 : LkS "LateSeekers$Sheets" 21 mt_Sh_narrowed 2 := ⟨tb_mem 824 rfl rfl, fs_Sh_narrowed.1, fs_Sh_narrowed.2.1, fs_Sh_narrowed.2.2, ⟨by decide, by decide, by decide +kernel⟩, by decide⟩
set_option maxRecDepth 20000 in
theorem lk_Law_176 : LkV "LateSeekersLaw" 176 mt_LS_item 3 := ⟨tb_mem 827 rfl rfl, fv_LS_item.1, fv_LS_item.2.1, fv_LS_item.2.2.1, fv_LS_item.2.2.2, ⟨by decide, by decide, by decide +kernel⟩, by decide⟩
set_option maxRecDepth 20000 in
theorem lk_Law_180 : LkV "LateSeekersLaw" 180 mt_LS_shelf 3 := ⟨tb_mem 831 rfl rfl, fv_LS_shelf.1, fv_LS_shelf.2.1, fv_LS_shelf.2.2.1, fv_LS_shelf.2.2.2, ⟨by decide, by decide, by decide +kernel⟩, by decide⟩
set_option maxRecDepth 20000 in
theorem lk_LS_285 : LkS "LateSeekers" 285 mt_LS_isShelf 1 := ⟨tb_mem 835 rfl rfl, fs_LS_isShelf.1, fs_LS_isShelf.2.1, fs_LS_isShelf.2.2, ⟨by decide, by decide, by decide +kernel⟩, by decide⟩
set_option maxRecDepth 20000 in
theorem lk_LS_288 : LkV "LateSeekers" 288 mt_Sv_holdPerson 2 := ⟨tb_mem 838 rfl rfl, fv_Sv_holdPerson.1, fv_Sv_holdPerson.2.1, fv_Sv_holdPerson.2.2.1, fv_Sv_holdPerson.2.2.2, ⟨by decide, by decide, by decide +kernel⟩, by decide⟩
set_option maxRecDepth 20000 in
theorem lk_Sv_21 : LkV "LateSeekers$Shelves" 21 mt_Sv_holdNothing 1 := ⟨tb_mem 842 rfl rfl, fv_Sv_holdNothing.1, fv_Sv_holdNothing.2.1, fv_Sv_holdNothing.2.2.1, fv_Sv_holdNothing.2.2.2, ⟨by decide, by decide, by decide +kernel⟩, by decide⟩
set_option maxRecDepth 20000 in
theorem lk_LS_291 : LkV "LateSeekers" 291 mt_Sv_holdRow 3 := ⟨tb_mem 846 rfl rfl, fv_Sv_holdRow.1, fv_Sv_holdRow.2.1, fv_Sv_holdRow.2.2.1, fv_Sv_holdRow.2.2.2, ⟨by decide, by decide, by decide +kernel⟩, by decide⟩
set_option maxRecDepth 20000 in
theorem lk_LS_294 : LkV "LateSeekers" 294 mt_Sv_holdNothing 1 := ⟨tb_mem 850 rfl rfl, fv_Sv_holdNothing.1, fv_Sv_holdNothing.2.1, fv_Sv_holdNothing.2.2.1, fv_Sv_holdNothing.2.2.2, ⟨by decide, by decide, by decide +kernel⟩, by decide⟩
set_option maxRecDepth 20000 in
theorem lk_Law_184 : LkV "LateSeekersLaw" 184 mt_LS_taken 2 := ⟨tb_mem 851 rfl rfl, fv_LS_taken.1, fv_LS_taken.2.1, fv_LS_taken.2.2.1, fv_LS_taken.2.2.2, ⟨by decide, by decide, by decide +kernel⟩, by decide⟩
set_option maxRecDepth 20000 in
theorem lk_LS_297 : LkV "LateSeekers" 297 mt_Sv_holdsRow 1 := ⟨tb_mem 855 rfl rfl, fv_Sv_holdsRow.1, fv_Sv_holdsRow.2.1, fv_Sv_holdsRow.2.2.1, fv_Sv_holdsRow.2.2.2, ⟨by decide, by decide, by decide +kernel⟩, by decide⟩
set_option maxRecDepth 20000 in
theorem lk_LS_309 : LkS "LateSeekers" 309 mt_LS_isUnder 2 := ⟨tb_mem 859 rfl rfl, fs_LS_isUnder.1, fs_LS_isUnder.2.1, fs_LS_isUnder.2.2, ⟨by decide, by decide, by decide +kernel⟩, by decide⟩
set_option maxRecDepth 20000 in
theorem lk_Law_188 : LkV "LateSeekersLaw" 188 mt_LS_act 3 := ⟨tb_mem 864 rfl rfl, fv_LS_act.1, fv_LS_act.2.1, fv_LS_act.2.2.1, fv_LS_act.2.2.2, ⟨by decide, by decide, by decide +kernel⟩, by decide⟩
set_option maxRecDepth 20000 in
theorem lk_LS_318 : LkV "LateSeekers" 318 mt_Ac_perform 4 := ⟨tb_mem 868 rfl rfl, fv_Ac_perform.1, fv_Ac_perform.2.1, fv_Ac_perform.2.2.1, fv_Ac_perform.2.2.2, ⟨by decide, by decide, by decide +kernel⟩, by decide⟩
set_option maxRecDepth 20000 in
theorem lk_Ac_37 : LkV "LateSeekers$Actor" 37 mt_Ac_run 4 := ⟨tb_mem 872 rfl rfl, fv_Ac_run.1, fv_Ac_run.2.1, fv_Ac_run.2.2.1, fv_Ac_run.2.2.2, ⟨by decide, by decide, by decide +kernel⟩, by decide⟩
set_option maxRecDepth 20000 in
theorem lk_Ac_47 : LkV "LateSeekers$Actor" 47 mt_Ac_quotient 2 := ⟨tb_mem 878 rfl rfl, fv_Ac_quotient.1, fv_Ac_quotient.2.1, fv_Ac_quotient.2.2.1, fv_Ac_quotient.2.2.2, ⟨by decide, by decide, by decide +kernel⟩, by decide⟩
set_option maxRecDepth 20000 in
theorem lk_Law_192 : LkV "LateSeekersLaw" 192 mt_LS_trace 1 := ⟨tb_mem 882 rfl rfl, fv_LS_trace.1, fv_LS_trace.2.1, fv_LS_trace.2.2.1, fv_LS_trace.2.2.2, ⟨by decide, by decide, by decide +kernel⟩, by decide⟩
set_option maxRecDepth 20000 in
theorem lk_Law_196 : LkV "LateSeekersLaw" 196 mt_LS_many 1 := ⟨tb_mem 886 rfl rfl, fv_LS_many.1, fv_LS_many.2.1, fv_LS_many.2.2.1, fv_LS_many.2.2.2, ⟨by decide, by decide, by decide +kernel⟩, by decide⟩
set_option maxRecDepth 20000 in
theorem lk_LS_325 : LkV "LateSeekers" 325 mt_Pk_peopleInCompany 0 := ⟨tb_mem 890 rfl rfl, fv_Pk_peopleInCompany.1, fv_Pk_peopleInCompany.2.1, fv_Pk_peopleInCompany.2.2.1, fv_Pk_peopleInCompany.2.2.2, ⟨by decide, by decide, by decide +kernel⟩, by decide⟩
set_option maxRecDepth 20000 in
theorem lk_Pk_75 : LkV "LateSeekers$Park" 75 mt_Pk_peopleAt 1 := ⟨tb_mem 894 rfl rfl, fv_Pk_peopleAt.1, fv_Pk_peopleAt.2.1, fv_Pk_peopleAt.2.2.1, fv_Pk_peopleAt.2.2.2, ⟨by decide, by decide, by decide +kernel⟩, by decide⟩
set_option maxRecDepth 20000 in
theorem lk_Law_200 : LkV "LateSeekersLaw" 200 mt_LS_keep 0 := ⟨tb_mem 895 rfl rfl, fv_LS_keep.1, fv_LS_keep.2.1, fv_LS_keep.2.2.1, fv_LS_keep.2.2.2, ⟨by decide, by decide, by decide +kernel⟩, by decide⟩
set_option maxRecDepth 20000 in
theorem lk_Law_204 : LkV "LateSeekersLaw" 204 mt_LS_again 0 := ⟨tb_mem 899 rfl rfl, fv_LS_again.1, fv_LS_again.2.1, fv_LS_again.2.2.1, fv_LS_again.2.2.2, ⟨by decide, by decide, by decide +kernel⟩, by decide⟩
set_option maxRecDepth 20000 in
theorem lk_Md_52 : LkV "LateSeekersModel" 52 mt_Md_begins 0 := ⟨tb_mem 909 rfl rfl, fv_Md_begins.1, fv_Md_begins.2.1, fv_Md_begins.2.2.1, fv_Md_begins.2.2.2, ⟨by decide, by decide, by decide +kernel⟩, by decide⟩
set_option maxRecDepth 20000 in
theorem lk_Law_19 : LkV "LateSeekersLaw" 19 mt_Md_feed 2 := ⟨tb_mem 995 rfl rfl, fv_Md_feed.1, fv_Md_feed.2.1, fv_Md_feed.2.2.1, fv_Md_feed.2.2.2, ⟨by decide, by decide, by decide +kernel⟩, by decide⟩
set_option maxRecDepth 20000 in
theorem lk_Md_57 : LkS "LateSeekersModel" 57 mt_Md_isIn 3 := ⟨tb_mem 1000 rfl rfl, fs_Md_isIn.1, fs_Md_isIn.2.1, fs_Md_isIn.2.2, ⟨by decide, by decide, by decide +kernel⟩, by decide⟩
set_option maxRecDepth 20000 in
theorem lk_Law_24 : LkV "LateSeekersLaw" 24 mt_Md_park 0 := ⟨tb_mem 1004 rfl rfl, fv_Md_park.1, fv_Md_park.2.1, fv_Md_park.2.2.1, fv_Md_park.2.2.2, ⟨by decide, by decide, by decide +kernel⟩, by decide⟩
set_option maxRecDepth 20000 in
theorem lk_Md_141 : LkS "LateSeekersModel" 141 mt_Md_copyRow 2 := ⟨tb_mem 1008 rfl rfl, fs_Md_copyRow.1, fs_Md_copyRow.2.1, fs_Md_copyRow.2.2, ⟨by decide, by decide, by decide +kernel⟩, by decide⟩
set_option maxRecDepth 20000 in
theorem lk_Md_94 : LkV "LateSeekersModel" 94 mt_Md_nextToken 0 := ⟨tb_mem 1011 rfl rfl, fv_Md_nextToken.1, fv_Md_nextToken.2.1, fv_Md_nextToken.2.2.1, fv_Md_nextToken.2.2.2, ⟨by decide, by decide, by decide +kernel⟩, by decide⟩
set_option maxRecDepth 20000 in
theorem lk_Md_73 : LkV "LateSeekersModel" 73 mt_Md_byteAt 1 := ⟨tb_mem 1015 rfl rfl, fv_Md_byteAt.1, fv_Md_byteAt.2.1, fv_Md_byteAt.2.2.1, fv_Md_byteAt.2.2.2, ⟨by decide, by decide, by decide +kernel⟩, by decide⟩
set_option maxRecDepth 20000 in
theorem lk_Md_77 : LkS "LateSeekersModel" 77 mt_Md_isAlpha 1 := ⟨tb_mem 1019 rfl rfl, fs_Md_isAlpha.1, fs_Md_isAlpha.2.1, fs_Md_isAlpha.2.2, ⟨by decide, by decide, by decide +kernel⟩, by decide⟩
set_option maxRecDepth 20000 in
theorem lk_Md_81 : LkS "LateSeekersModel" 81 mt_Md_isDigit 1 := ⟨tb_mem 1022 rfl rfl, fs_Md_isDigit.1, fs_Md_isDigit.2.1, fs_Md_isDigit.2.2, ⟨by decide, by decide, by decide +kernel⟩, by decide⟩
set_option maxRecDepth 20000 in
theorem lk_Md_145 : LkV "LateSeekersModel" 145 mt_Md_itemHere 0 := ⟨tb_mem 1025 rfl rfl, fv_Md_itemHere.1, fv_Md_itemHere.2.1, fv_Md_itemHere.2.2.1, fv_Md_itemHere.2.2.2, ⟨by decide, by decide, by decide +kernel⟩, by decide⟩
set_option maxRecDepth 20000 in
theorem lk_Md_127 : LkV "LateSeekersModel" 127 mt_Md_kindHere 0 := ⟨tb_mem 1029 rfl rfl, fv_Md_kindHere.1, fv_Md_kindHere.2.1, fv_Md_kindHere.2.2.1, fv_Md_kindHere.2.2.2, ⟨by decide, by decide, by decide +kernel⟩, by decide⟩
set_option maxRecDepth 20000 in
theorem lk_Md_101 : LkV "LateSeekersModel" 101 mt_Md_isFive 5 := ⟨tb_mem 1033 rfl rfl, fv_Md_isFive.1, fv_Md_isFive.2.1, fv_Md_isFive.2.2.1, fv_Md_isFive.2.2.2, ⟨by decide, by decide, by decide +kernel⟩, by decide⟩
set_option maxRecDepth 20000 in
theorem lk_Md_97 : LkV "LateSeekersModel" 97 mt_Md_isName 5 := ⟨tb_mem 1037 rfl rfl, fv_Md_isName.1, fv_Md_isName.2.1, fv_Md_isName.2.2.1, fv_Md_isName.2.2.2, ⟨by decide, by decide, by decide +kernel⟩, by decide⟩
set_option maxRecDepth 20000 in
theorem lk_Md_104 : LkV "LateSeekersModel" 104 mt_Md_isSame 4 := ⟨tb_mem 1041 rfl rfl, fv_Md_isSame.1, fv_Md_isSame.2.1, fv_Md_isSame.2.2.1, fv_Md_isSame.2.2.2, ⟨by decide, by decide, by decide +kernel⟩, by decide⟩
set_option maxRecDepth 20000 in
theorem lk_Md_108 : LkV "LateSeekersModel" 108 mt_Md_isFour 4 := ⟨tb_mem 1045 rfl rfl, fv_Md_isFour.1, fv_Md_isFour.2.1, fv_Md_isFour.2.2.1, fv_Md_isFour.2.2.2, ⟨by decide, by decide, by decide +kernel⟩, by decide⟩
set_option maxRecDepth 20000 in
theorem lk_Md_131 : LkV "LateSeekersModel" 131 mt_Md_lawHere 0 := ⟨tb_mem 1049 rfl rfl, fv_Md_lawHere.1, fv_Md_lawHere.2.1, fv_Md_lawHere.2.2.1, fv_Md_lawHere.2.2.2, ⟨by decide, by decide, by decide +kernel⟩, by decide⟩
set_option maxRecDepth 20000 in
theorem lk_Md_134 : LkV "LateSeekersModel" 134 mt_Md_personHere 1 := ⟨tb_mem 1053 rfl rfl, fv_Md_personHere.1, fv_Md_personHere.2.1, fv_Md_personHere.2.2.1, fv_Md_personHere.2.2.2, ⟨by decide, by decide, by decide +kernel⟩, by decide⟩
set_option maxRecDepth 20000 in
theorem lk_Md_111 : LkV "LateSeekersModel" 111 mt_Md_needs 1 := ⟨tb_mem 1057 rfl rfl, fv_Md_needs.1, fv_Md_needs.2.1, fv_Md_needs.2.2.1, fv_Md_needs.2.2.2, ⟨by decide, by decide, by decide +kernel⟩, by decide⟩
set_option maxRecDepth 20000 in
theorem lk_Md_119 : LkV "LateSeekersModel" 119 mt_Md_isTwo 2 := ⟨tb_mem 1061 rfl rfl, fv_Md_isTwo.1, fv_Md_isTwo.2.1, fv_Md_isTwo.2.2.1, fv_Md_isTwo.2.2.2, ⟨by decide, by decide, by decide +kernel⟩, by decide⟩
set_option maxRecDepth 20000 in
theorem lk_Md_115 : LkV "LateSeekersModel" 115 mt_Md_numberTo 2 := ⟨tb_mem 1065 rfl rfl, fv_Md_numberTo.1, fv_Md_numberTo.2.1, fv_Md_numberTo.2.2.1, fv_Md_numberTo.2.2.2, ⟨by decide, by decide, by decide +kernel⟩, by decide⟩
set_option maxRecDepth 20000 in
theorem lk_Md_123 : LkV "LateSeekersModel" 123 mt_Md_perhaps 3 := ⟨tb_mem 1069 rfl rfl, fv_Md_perhaps.1, fv_Md_perhaps.2.1, fv_Md_perhaps.2.2.1, fv_Md_perhaps.2.2.2, ⟨by decide, by decide, by decide +kernel⟩, by decide⟩
set_option maxRecDepth 20000 in
theorem lk_Md_138 : LkV "LateSeekersModel" 138 mt_Md_coverHere 0 := ⟨tb_mem 1073 rfl rfl, fv_Md_coverHere.1, fv_Md_coverHere.2.1, fv_Md_coverHere.2.2.1, fv_Md_coverHere.2.2.2, ⟨by decide, by decide, by decide +kernel⟩, by decide⟩
set_option maxRecDepth 20000 in
theorem lk_Law_29 : LkV "LateSeekersLaw" 29 mt_Md_set 2 := ⟨tb_mem 1077 rfl rfl, fv_Md_set.1, fv_Md_set.2.1, fv_Md_set.2.2.1, fv_Md_set.2.2.2, ⟨by decide, by decide, by decide +kernel⟩, by decide⟩
set_option maxRecDepth 20000 in
theorem lk_Md_153 : LkS "LateSeekersModel" 153 mt_Md_mostOf 1 := ⟨tb_mem 1082 rfl rfl, fs_Md_mostOf.1, fs_Md_mostOf.2.1, fs_Md_mostOf.2.2, ⟨by decide, by decide, by decide +kernel⟩, by decide⟩
set_option maxRecDepth 20000 in
theorem lk_Md_156 : LkV "LateSeekersModel" 156 mt_Md_becomes 2 := ⟨tb_mem 1085 rfl rfl, fv_Md_becomes.1, fv_Md_becomes.2.1, fv_Md_becomes.2.2.1, fv_Md_becomes.2.2.2, ⟨by decide, by decide, by decide +kernel⟩, by decide⟩
set_option maxRecDepth 20000 in
theorem lk_Law_34 : LkV "LateSeekersLaw" 34 mt_Md_lawOf 1 := ⟨tb_mem 1089 rfl rfl, fv_Md_lawOf.1, fv_Md_lawOf.2.1, fv_Md_lawOf.2.2.1, fv_Md_lawOf.2.2.2, ⟨by decide, by decide, by decide +kernel⟩, by decide⟩
set_option maxRecDepth 20000 in
theorem lk_Law_39 : LkV "LateSeekersLaw" 39 mt_Md_person 5 := ⟨tb_mem 1093 rfl rfl, fv_Md_person.1, fv_Md_person.2.1, fv_Md_person.2.2.1, fv_Md_person.2.2.2, ⟨by decide, by decide, by decide +kernel⟩, by decide⟩
set_option maxRecDepth 20000 in
theorem lk_Md_166 : LkS "LateSeekersModel" 166 mt_Md_isPlace 1 := ⟨tb_mem 1100 rfl rfl, fs_Md_isPlace.1, fs_Md_isPlace.2.1, fs_Md_isPlace.2.2, ⟨by decide, by decide, by decide +kernel⟩, by decide⟩
set_option maxRecDepth 20000 in
theorem lk_Law_43 : LkV "LateSeekersLaw" 43 mt_Md_of 2 := ⟨tb_mem 1103 rfl rfl, fv_Md_of.1, fv_Md_of.2.1, fv_Md_of.2.2.1, fv_Md_of.2.2.2, ⟨by decide, by decide, by decide +kernel⟩, by decide⟩
set_option maxRecDepth 20000 in
theorem lk_Md_172 : LkV "LateSeekersModel" 172 mt_Md_isOne 1 := ⟨tb_mem 1107 rfl rfl, fv_Md_isOne.1, fv_Md_isOne.2.1, fv_Md_isOne.2.2.1, fv_Md_isOne.2.2.2, ⟨by decide, by decide, by decide +kernel⟩, by decide⟩
set_option maxRecDepth 20000 in
theorem lk_Md_169 : LkV "LateSeekersModel" 169 mt_Md_its 2 := ⟨tb_mem 1111 rfl rfl, fv_Md_its.1, fv_Md_its.2.1, fv_Md_its.2.2.1, fv_Md_its.2.2.2, ⟨by decide, by decide, by decide +kernel⟩, by decide⟩
set_option maxRecDepth 20000 in
theorem lk_Law_47 : LkV "LateSeekersLaw" 47 mt_Md_does 2 := ⟨tb_mem 1115 rfl rfl, fv_Md_does.1, fv_Md_does.2.1, fv_Md_does.2.2.1, fv_Md_does.2.2.2, ⟨by decide, by decide, by decide +kernel⟩, by decide⟩
set_option maxRecDepth 20000 in
theorem lk_Md_177 : LkV "LateSeekersModel" 177 mt_Md_hides 1 := ⟨tb_mem 1120 rfl rfl, fv_Md_hides.1, fv_Md_hides.2.1, fv_Md_hides.2.2.1, fv_Md_hides.2.2.2, ⟨by decide, by decide, by decide +kernel⟩, by decide⟩
set_option maxRecDepth 20000 in
theorem lk_Md_180 : LkV "LateSeekersModel" 180 mt_Md_sees 1 := ⟨tb_mem 1124 rfl rfl, fv_Md_sees.1, fv_Md_sees.2.1, fv_Md_sees.2.2.1, fv_Md_sees.2.2.2, ⟨by decide, by decide, by decide +kernel⟩, by decide⟩
set_option maxRecDepth 20000 in
theorem lk_Md_183 : LkV "LateSeekersModel" 183 mt_Md_strides 1 := ⟨tb_mem 1128 rfl rfl, fv_Md_strides.1, fv_Md_strides.2.1, fv_Md_strides.2.2.1, fv_Md_strides.2.2.2, ⟨by decide, by decide, by decide +kernel⟩, by decide⟩
set_option maxRecDepth 20000 in
theorem lk_Law_52 : LkV "LateSeekersLaw" 52 mt_Md_mind 3 := ⟨tb_mem 1132 rfl rfl, fv_Md_mind.1, fv_Md_mind.2.1, fv_Md_mind.2.2.1, fv_Md_mind.2.2.2, ⟨by decide, by decide, by decide +kernel⟩, by decide⟩
set_option maxRecDepth 20000 in
theorem lk_Law_56 : LkV "LateSeekersLaw" 56 mt_Md_age 2 := ⟨tb_mem 1136 rfl rfl, fv_Md_age.1, fv_Md_age.2.1, fv_Md_age.2.2.1, fv_Md_age.2.2.2, ⟨by decide, by decide, by decide +kernel⟩, by decide⟩
set_option maxRecDepth 20000 in
theorem lk_Law_60 : LkV "LateSeekersLaw" 60 mt_Md_bring 2 := ⟨tb_mem 1140 rfl rfl, fv_Md_bring.1, fv_Md_bring.2.1, fv_Md_bring.2.2.1, fv_Md_bring.2.2.2, ⟨by decide, by decide, by decide +kernel⟩, by decide⟩
set_option maxRecDepth 20000 in
theorem lk_Law_64 : LkV "LateSeekersLaw" 64 mt_Md_seek 2 := ⟨tb_mem 1144 rfl rfl, fv_Md_seek.1, fv_Md_seek.2.1, fv_Md_seek.2.2.1, fv_Md_seek.2.2.2, ⟨by decide, by decide, by decide +kernel⟩, by decide⟩
set_option maxRecDepth 20000 in
theorem lk_Law_68 : LkV "LateSeekersLaw" 68 mt_Md_place 2 := ⟨tb_mem 1148 rfl rfl, fv_Md_place.1, fv_Md_place.2.1, fv_Md_place.2.2.1, fv_Md_place.2.2.2, ⟨by decide, by decide, by decide +kernel⟩, by decide⟩
set_option maxRecDepth 20000 in
theorem lk_Md_186 : LkV "LateSeekersModel" 186 mt_Md_thoseAt 1 := ⟨tb_mem 1152 rfl rfl, fv_Md_thoseAt.1, fv_Md_thoseAt.2.1, fv_Md_thoseAt.2.2.1, fv_Md_thoseAt.2.2.2, ⟨by decide, by decide, by decide +kernel⟩, by decide⟩
set_option maxRecDepth 20000 in
theorem lk_Md_189 : LkV "LateSeekersModel" 189 mt_Md_hiddenOnes 0 := ⟨tb_mem 1156 rfl rfl, fv_Md_hiddenOnes.1, fv_Md_hiddenOnes.2.1, fv_Md_hiddenOnes.2.2.1, fv_Md_hiddenOnes.2.2.2, ⟨by decide, by decide, by decide +kernel⟩, by decide⟩
set_option maxRecDepth 20000 in
theorem lk_Md_192 : LkS "LateSeekersModel" 192 mt_Md_size 1 := ⟨tb_mem 1160 rfl rfl, fs_Md_size.1, fs_Md_size.2.1, fs_Md_size.2.2, ⟨by decide, by decide, by decide +kernel⟩, by decide⟩
set_option maxRecDepth 20000 in
theorem lk_Law_72 : LkV "LateSeekersLaw" 72 mt_Md_cover 2 := ⟨tb_mem 1163 rfl rfl, fv_Md_cover.1, fv_Md_cover.2.1, fv_Md_cover.2.2.1, fv_Md_cover.2.2.2, ⟨by decide, by decide, by decide +kernel⟩, by decide⟩
set_option maxRecDepth 20000 in
theorem lk_Law_76 : LkV "LateSeekersLaw" 76 mt_Md_years 1 := ⟨tb_mem 1167 rfl rfl, fv_Md_years.1, fv_Md_years.2.1, fv_Md_years.2.2.1, fv_Md_years.2.2.2, ⟨by decide, by decide, by decide +kernel⟩, by decide⟩
set_option maxRecDepth 20000 in
theorem lk_Md_207 : LkV "LateSeekersModel" 207 mt_Md_goes 1 := ⟨tb_mem 1172 rfl rfl, fv_Md_goes.1, fv_Md_goes.2.1, fv_Md_goes.2.2.1, fv_Md_goes.2.2.2, ⟨by decide, by decide, by decide +kernel⟩, by decide⟩
set_option maxRecDepth 20000 in
theorem lk_Md_202 : LkV "LateSeekersModel" 202 mt_Md_goesBy 1 := ⟨tb_mem 1176 rfl rfl, fv_Md_goesBy.1, fv_Md_goesBy.2.1, fv_Md_goesBy.2.2.1, fv_Md_goesBy.2.2.2, ⟨by decide, by decide, by decide +kernel⟩, by decide⟩
set_option maxRecDepth 20000 in
theorem lk_Md_195 : LkS "LateSeekersModel" 195 mt_Md_least 2 := ⟨tb_mem 1180 rfl rfl, fs_Md_least.1, fs_Md_least.2.1, fs_Md_least.2.2, ⟨by decide, by decide, by decide +kernel⟩, by decide⟩
set_option maxRecDepth 20000 in
theorem lk_Md_198 : LkV "LateSeekersModel" 198 mt_Md_seeks 2 := ⟨tb_mem 1183 rfl rfl, fv_Md_seeks.1, fv_Md_seeks.2.1, fv_Md_seeks.2.2.1, fv_Md_seeks.2.2.2, ⟨by decide, by decide, by decide +kernel⟩, by decide⟩
set_option maxRecDepth 20000 in
theorem lk_Law_80 : LkV "LateSeekersLaw" 80 mt_Md_seed 1 := ⟨tb_mem 1187 rfl rfl, fv_Md_seed.1, fv_Md_seed.2.1, fv_Md_seed.2.2.1, fv_Md_seed.2.2.2, ⟨by decide, by decide, by decide +kernel⟩, by decide⟩
set_option maxRecDepth 20000 in
theorem lk_Law_84 : LkV "LateSeekersLaw" 84 mt_Md_year 0 := ⟨tb_mem 1191 rfl rfl, fv_Md_year.1, fv_Md_year.2.1, fv_Md_year.2.2.1, fv_Md_year.2.2.2, ⟨by decide, by decide, by decide +kernel⟩, by decide⟩
set_option maxRecDepth 20000 in
theorem lk_Md_211 : LkV "LateSeekersModel" 211 mt_Md_drawn 0 := ⟨tb_mem 1195 rfl rfl, fv_Md_drawn.1, fv_Md_drawn.2.1, fv_Md_drawn.2.2.1, fv_Md_drawn.2.2.2, ⟨by decide, by decide, by decide +kernel⟩, by decide⟩
set_option maxRecDepth 20000 in
theorem lk_Law_88 : LkV "LateSeekersLaw" 88 mt_Md_nights 1 := ⟨tb_mem 1200 rfl rfl, fv_Md_nights.1, fv_Md_nights.2.1, fv_Md_nights.2.2.1, fv_Md_nights.2.2.2, ⟨by decide, by decide, by decide +kernel⟩, by decide⟩
set_option maxRecDepth 20000 in
theorem lk_Md_216 : LkV "LateSeekersModel" 216 mt_Md_year 0 := ⟨tb_mem 1205 rfl rfl, fv_Md_year.1, fv_Md_year.2.1, fv_Md_year.2.2.1, fv_Md_year.2.2.2, ⟨by decide, by decide, by decide +kernel⟩, by decide⟩
set_option maxRecDepth 20000 in
theorem lk_Law_92 : LkV "LateSeekersLaw" 92 mt_Md_state 1 := ⟨tb_mem 1206 rfl rfl, fv_Md_state.1, fv_Md_state.2.1, fv_Md_state.2.2.1, fv_Md_state.2.2.2, ⟨by decide, by decide, by decide +kernel⟩, by decide⟩
set_option maxRecDepth 20000 in
theorem lk_Md_219 : LkV "LateSeekersModel" 219 mt_Md_sumOf 1 := ⟨tb_mem 1210 rfl rfl, fv_Md_sumOf.1, fv_Md_sumOf.2.1, fv_Md_sumOf.2.2.1, fv_Md_sumOf.2.2.2, ⟨by decide, by decide, by decide +kernel⟩, by decide⟩
set_option maxRecDepth 20000 in
theorem lk_Md_222 : LkV "LateSeekersModel" 222 mt_Md_hidingPlaces 0 := ⟨tb_mem 1214 rfl rfl, fv_Md_hidingPlaces.1, fv_Md_hidingPlaces.2.1, fv_Md_hidingPlaces.2.2.1, fv_Md_hidingPlaces.2.2.2, ⟨by decide, by decide, by decide +kernel⟩, by decide⟩
set_option maxRecDepth 20000 in
theorem lk_Md_225 : LkV "LateSeekersModel" 225 mt_Md_coverOfAll 0 := ⟨tb_mem 1218 rfl rfl, fv_Md_coverOfAll.1, fv_Md_coverOfAll.2.1, fv_Md_coverOfAll.2.2.1, fv_Md_coverOfAll.2.2.2, ⟨by decide, by decide, by decide +kernel⟩, by decide⟩
set_option maxRecDepth 20000 in
theorem lk_Law_96 : LkV "LateSeekersLaw" 96 mt_Md_where 2 := ⟨tb_mem 1222 rfl rfl, fv_Md_where.1, fv_Md_where.2.1, fv_Md_where.2.2.1, fv_Md_where.2.2.2, ⟨by decide, by decide, by decide +kernel⟩, by decide⟩
set_option maxRecDepth 20000 in
theorem lk_Law_100 : LkV "LateSeekersLaw" 100 mt_Md_shown 1 := ⟨tb_mem 1226 rfl rfl, fv_Md_shown.1, fv_Md_shown.2.1, fv_Md_shown.2.2.1, fv_Md_shown.2.2.2, ⟨by decide, by decide, by decide +kernel⟩, by decide⟩
set_option maxRecDepth 20000 in
theorem lk_Md_228 : LkV "LateSeekersModel" 228 mt_Md_shownBy 2 := ⟨tb_mem 1230 rfl rfl, fv_Md_shownBy.1, fv_Md_shownBy.2.1, fv_Md_shownBy.2.2.1, fv_Md_shownBy.2.2.2, ⟨by decide, by decide, by decide +kernel⟩, by decide⟩
set_option maxRecDepth 20000 in
theorem lk_Law_104 : LkV "LateSeekersLaw" 104 mt_Md_all 0 := ⟨tb_mem 1234 rfl rfl, fv_Md_all.1, fv_Md_all.2.1, fv_Md_all.2.2.1, fv_Md_all.2.2.2, ⟨by decide, by decide, by decide +kernel⟩, by decide⟩
set_option maxRecDepth 20000 in
theorem lk_Law_108 : LkV "LateSeekersLaw" 108 mt_Md_finder 1 := ⟨tb_mem 1238 rfl rfl, fv_Md_finder.1, fv_Md_finder.2.1, fv_Md_finder.2.2.1, fv_Md_finder.2.2.2, ⟨by decide, by decide, by decide +kernel⟩, by decide⟩
set_option maxRecDepth 20000 in
theorem lk_Law_112 : LkV "LateSeekersLaw" 112 mt_Md_safeFor 1 := ⟨tb_mem 1242 rfl rfl, fv_Md_safeFor.1, fv_Md_safeFor.2.1, fv_Md_safeFor.2.2.1, fv_Md_safeFor.2.2.2, ⟨by decide, by decide, by decide +kernel⟩, by decide⟩
set_option maxRecDepth 20000 in
theorem lk_Law_116 : LkV "LateSeekersLaw" 116 mt_Md_kindFor 1 := ⟨tb_mem 1246 rfl rfl, fv_Md_kindFor.1, fv_Md_kindFor.2.1, fv_Md_kindFor.2.2.1, fv_Md_kindFor.2.2.2, ⟨by decide, by decide, by decide +kernel⟩, by decide⟩
set_option maxRecDepth 20000 in
theorem lk_Law_120 : LkV "LateSeekersLaw" 120 mt_Md_witFor 2 := ⟨tb_mem 1250 rfl rfl, fv_Md_witFor.1, fv_Md_witFor.2.1, fv_Md_witFor.2.2.1, fv_Md_witFor.2.2.2, ⟨by decide, by decide, by decide +kernel⟩, by decide⟩
set_option maxRecDepth 20000 in
theorem lk_Md_233 : LkS "LateSeekersModel" 233 mt_Md_isShort 1 := ⟨tb_mem 1254 rfl rfl, fs_Md_isShort.1, fs_Md_isShort.2.1, fs_Md_isShort.2.2, ⟨by decide, by decide, by decide +kernel⟩, by decide⟩
set_option maxRecDepth 20000 in
theorem lk_Md_236 : LkV "LateSeekersModel" 236 mt_Md_isHiddenBy 3 := ⟨tb_mem 1258 rfl rfl, fv_Md_isHiddenBy.1, fv_Md_isHiddenBy.2.1, fv_Md_isHiddenBy.2.2.1, fv_Md_isHiddenBy.2.2.2, ⟨by decide, by decide, by decide +kernel⟩, by decide⟩
set_option maxRecDepth 20000 in
theorem lk_Law_124 : LkV "LateSeekersLaw" 124 mt_Md_needed 1 := ⟨tb_mem 1262 rfl rfl, fv_Md_needed.1, fv_Md_needed.2.1, fv_Md_needed.2.2.1, fv_Md_needed.2.2.2, ⟨by decide, by decide, by decide +kernel⟩, by decide⟩
set_option maxRecDepth 20000 in
theorem lk_Law_128 : LkV "LateSeekersLaw" 128 mt_Md_fewest 2 := ⟨tb_mem 1266 rfl rfl, fv_Md_fewest.1, fv_Md_fewest.2.1, fv_Md_fewest.2.2.1, fv_Md_fewest.2.2.2, ⟨by decide, by decide, by decide +kernel⟩, by decide⟩
set_option maxRecDepth 20000 in
theorem lk_Law_132 : LkV "LateSeekersLaw" 132 mt_Md_round 1 := ⟨tb_mem 1270 rfl rfl, fv_Md_round.1, fv_Md_round.2.1, fv_Md_round.2.2.1, fv_Md_round.2.2.2, ⟨by decide, by decide, by decide +kernel⟩, by decide⟩
set_option maxRecDepth 20000 in
theorem lk_Law_136 : LkV "LateSeekersLaw" 136 mt_Md_fits 3 := ⟨tb_mem 1274 rfl rfl, fv_Md_fits.1, fv_Md_fits.2.1, fv_Md_fits.2.2.1, fv_Md_fits.2.2.2, ⟨by decide, by decide, by decide +kernel⟩, by decide⟩
set_option maxRecDepth 20000 in
theorem lk_Md_240 : LkS "LateSeekersModel" 240 mt_Md_isSheet 1 := ⟨tb_mem 1278 rfl rfl, fs_Md_isSheet.1, fs_Md_isSheet.2.1, fs_Md_isSheet.2.2, ⟨by decide, by decide, by decide +kernel⟩, by decide⟩
set_option maxRecDepth 20000 in
theorem lk_Md_243 : LkV "LateSeekersModel" 243 mt_Md_isTold 2 := ⟨tb_mem 1281 rfl rfl, fv_Md_isTold.1, fv_Md_isTold.2.1, fv_Md_isTold.2.2.1, fv_Md_isTold.2.2.2, ⟨by decide, by decide, by decide +kernel⟩, by decide⟩
set_option maxRecDepth 20000 in
theorem lk_Law_141 : LkV "LateSeekersLaw" 141 mt_Md_odds 3 := ⟨tb_mem 1285 rfl rfl, fv_Md_odds.1, fv_Md_odds.2.1, fv_Md_odds.2.2.1, fv_Md_odds.2.2.2, ⟨by decide, by decide, by decide +kernel⟩, by decide⟩
set_option maxRecDepth 20000 in
theorem lk_Md_248 : LkS "LateSeekersModel" 248 mt_Md_product 1 := ⟨tb_mem 1290 rfl rfl, fs_Md_product.1, fs_Md_product.2.1, fs_Md_product.2.2, ⟨by decide, by decide, by decide +kernel⟩, by decide⟩
set_option maxRecDepth 20000 in
theorem lk_Md_254 : LkS "LateSeekersModel" 254 mt_Md_partOf 3 := ⟨tb_mem 1294 rfl rfl, fs_Md_partOf.1, fs_Md_partOf.2.1, fs_Md_partOf.2.2, ⟨by decide, by decide, by decide +kernel⟩, by decide⟩
set_option maxRecDepth 20000 in
theorem lk_Law_146 : LkV "LateSeekersLaw" 146 mt_Md_hope 2 := ⟨tb_mem 1297 rfl rfl, fv_Md_hope.1, fv_Md_hope.2.1, fv_Md_hope.2.2.1, fv_Md_hope.2.2.2, ⟨by decide, by decide, by decide +kernel⟩, by decide⟩
set_option maxRecDepth 20000 in
theorem lk_Law_150 : LkV "LateSeekersLaw" 150 mt_Md_prove 2 := ⟨tb_mem 1301 rfl rfl, fv_Md_prove.1, fv_Md_prove.2.1, fv_Md_prove.2.2.1, fv_Md_prove.2.2.2, ⟨by decide, by decide, by decide +kernel⟩, by decide⟩
set_option maxRecDepth 20000 in
theorem lk_Law_154 : LkV "LateSeekersLaw" 154 mt_Md_row 2 := ⟨tb_mem 1306 rfl rfl, fv_Md_row.1, fv_Md_row.2.1, fv_Md_row.2.2.1, fv_Md_row.2.2.2, ⟨by decide, by decide, by decide +kernel⟩, by decide⟩
set_option maxRecDepth 20000 in
theorem lk_Md_260 : LkV "LateSeekersModel" 260 mt_Md_isRow 2 := ⟨tb_mem 1310 rfl rfl, fv_Md_isRow.1, fv_Md_isRow.2.1, fv_Md_isRow.2.2.1, fv_Md_isRow.2.2.2, ⟨by decide, by decide, by decide +kernel⟩, by decide⟩
set_option maxRecDepth 20000 in
theorem lk_Law_158 : LkV "LateSeekersLaw" 158 mt_Md_alterRow 3 := ⟨tb_mem 1314 rfl rfl, fv_Md_alterRow.1, fv_Md_alterRow.2.1, fv_Md_alterRow.2.2.1, fv_Md_alterRow.2.2.2, ⟨by decide, by decide, by decide +kernel⟩, by decide⟩
set_option maxRecDepth 20000 in
theorem lk_Law_162 : LkV "LateSeekersLaw" 162 mt_Md_judge 1 := ⟨tb_mem 1318 rfl rfl, fv_Md_judge.1, fv_Md_judge.2.1, fv_Md_judge.2.2.1, fv_Md_judge.2.2.2, ⟨by decide, by decide, by decide +kernel⟩, by decide⟩
set_option maxRecDepth 20000 in
theorem lk_Law_171 : LkV "LateSeekersLaw" 171 mt_Md_sheet 3 := ⟨tb_mem 1322 rfl rfl, fv_Md_sheet.1, fv_Md_sheet.2.1, fv_Md_sheet.2.2.1, fv_Md_sheet.2.2.2, ⟨by decide, by decide, by decide +kernel⟩, by decide⟩
set_option maxRecDepth 20000 in
theorem lk_Law_175 : LkV "LateSeekersLaw" 175 mt_Md_put 3 := ⟨tb_mem 1326 rfl rfl, fv_Md_put.1, fv_Md_put.2.1, fv_Md_put.2.2.1, fv_Md_put.2.2.2, ⟨by decide, by decide, by decide +kernel⟩, by decide⟩
set_option maxRecDepth 20000 in
theorem lk_Law_179 : LkV "LateSeekersLaw" 179 mt_Md_item 3 := ⟨tb_mem 1330 rfl rfl, fv_Md_item.1, fv_Md_item.2.1, fv_Md_item.2.2.1, fv_Md_item.2.2.2, ⟨by decide, by decide, by decide +kernel⟩, by decide⟩
set_option maxRecDepth 20000 in
theorem lk_Md_263 : LkV "LateSeekersModel" 263 mt_Md_lacks 2 := ⟨tb_mem 1334 rfl rfl, fv_Md_lacks.1, fv_Md_lacks.2.1, fv_Md_lacks.2.2.1, fv_Md_lacks.2.2.2, ⟨by decide, by decide, by decide +kernel⟩, by decide⟩
set_option maxRecDepth 20000 in
theorem lk_Law_167 : LkV "LateSeekersLaw" 167 mt_Md_minds 4 := ⟨tb_mem 1338 rfl rfl, fv_Md_minds.1, fv_Md_minds.2.1, fv_Md_minds.2.2.1, fv_Md_minds.2.2.2, ⟨by decide, by decide, by decide +kernel⟩, by decide⟩
set_option maxRecDepth 20000 in
theorem lk_Md_266 : LkS "LateSeekersModel" 266 mt_Md_within 1 := ⟨tb_mem 1342 rfl rfl, fs_Md_within.1, fs_Md_within.2.1, fs_Md_within.2.2, ⟨by decide, by decide, by decide +kernel⟩, by decide⟩
set_option maxRecDepth 20000 in
theorem lk_Law_183 : LkV "LateSeekersLaw" 183 mt_Md_shelf 3 := ⟨tb_mem 1345 rfl rfl, fv_Md_shelf.1, fv_Md_shelf.2.1, fv_Md_shelf.2.2.1, fv_Md_shelf.2.2.2, ⟨by decide, by decide, by decide +kernel⟩, by decide⟩
set_option maxRecDepth 20000 in
theorem lk_Md_269 : LkS "LateSeekersModel" 269 mt_Md_isShelf 1 := ⟨tb_mem 1349 rfl rfl, fs_Md_isShelf.1, fs_Md_isShelf.2.1, fs_Md_isShelf.2.2, ⟨by decide, by decide, by decide +kernel⟩, by decide⟩
set_option maxRecDepth 20000 in
theorem lk_Law_187 : LkV "LateSeekersLaw" 187 mt_Md_taken 2 := ⟨tb_mem 1352 rfl rfl, fv_Md_taken.1, fv_Md_taken.2.1, fv_Md_taken.2.2.1, fv_Md_taken.2.2.2, ⟨by decide, by decide, by decide +kernel⟩, by decide⟩
set_option maxRecDepth 20000 in
theorem lk_Md_276 : LkV "LateSeekersModel" 276 mt_Md_heldOn 1 := ⟨tb_mem 1358 rfl rfl, fv_Md_heldOn.1, fv_Md_heldOn.2.1, fv_Md_heldOn.2.2.1, fv_Md_heldOn.2.2.2, ⟨by decide, by decide, by decide +kernel⟩, by decide⟩
set_option maxRecDepth 20000 in
theorem lk_Md_279 : LkS "LateSeekersModel" 279 mt_Md_isUnder 2 := ⟨tb_mem 1362 rfl rfl, fs_Md_isUnder.1, fs_Md_isUnder.2.1, fs_Md_isUnder.2.2, ⟨by decide, by decide, by decide +kernel⟩, by decide⟩
set_option maxRecDepth 20000 in
theorem lk_Law_191 : LkV "LateSeekersLaw" 191 mt_Md_act 3 := ⟨tb_mem 1365 rfl rfl, fv_Md_act.1, fv_Md_act.2.1, fv_Md_act.2.2.1, fv_Md_act.2.2.2, ⟨by decide, by decide, by decide +kernel⟩, by decide⟩
set_option maxRecDepth 20000 in
theorem lk_Md_300 : LkV "LateSeekersModel" 300 mt_Md_counts 1 := ⟨tb_mem 1369 rfl rfl, fv_Md_counts.1, fv_Md_counts.2.1, fv_Md_counts.2.2.1, fv_Md_counts.2.2.2, ⟨by decide, by decide, by decide +kernel⟩, by decide⟩
set_option maxRecDepth 20000 in
theorem lk_Md_297 : LkV "LateSeekersModel" 297 mt_Md_countsOfKeeper 1 := ⟨tb_mem 1373 rfl rfl, fv_Md_countsOfKeeper.1, fv_Md_countsOfKeeper.2.1, fv_Md_countsOfKeeper.2.2.1, fv_Md_countsOfKeeper.2.2.2, ⟨by decide, by decide, by decide +kernel⟩, by decide⟩
set_option maxRecDepth 20000 in
theorem lk_Md_285 : LkV "LateSeekersModel" 285 mt_Md_runs 1 := ⟨tb_mem 1377 rfl rfl, fv_Md_runs.1, fv_Md_runs.2.1, fv_Md_runs.2.2.1, fv_Md_runs.2.2.2, ⟨by decide, by decide, by decide +kernel⟩, by decide⟩
set_option maxRecDepth 20000 in
theorem lk_Md_291 : LkV "LateSeekersModel" 291 mt_Md_countsPlain 1 := ⟨tb_mem 1381 rfl rfl, fv_Md_countsPlain.1, fv_Md_countsPlain.2.1, fv_Md_countsPlain.2.2.1, fv_Md_countsPlain.2.2.2, ⟨by decide, by decide, by decide +kernel⟩, by decide⟩
set_option maxRecDepth 20000 in
theorem lk_Md_315 : LkV "LateSeekersModel" 315 mt_Md_calls 1 := ⟨tb_mem 1385 rfl rfl, fv_Md_calls.1, fv_Md_calls.2.1, fv_Md_calls.2.2.1, fv_Md_calls.2.2.2, ⟨by decide, by decide, by decide +kernel⟩, by decide⟩
set_option maxRecDepth 20000 in
theorem lk_Md_306 : LkV "LateSeekersModel" 306 mt_Md_callsPlain 1 := ⟨tb_mem 1389 rfl rfl, fv_Md_callsPlain.1, fv_Md_callsPlain.2.1, fv_Md_callsPlain.2.2.1, fv_Md_callsPlain.2.2.2, ⟨by decide, by decide, by decide +kernel⟩, by decide⟩
set_option maxRecDepth 20000 in
theorem lk_Md_321 : LkV "LateSeekersModel" 321 mt_Md_parts 1 := ⟨tb_mem 1393 rfl rfl, fv_Md_parts.1, fv_Md_parts.2.1, fv_Md_parts.2.2.1, fv_Md_parts.2.2.2, ⟨by decide, by decide, by decide +kernel⟩, by decide⟩
set_option maxRecDepth 20000 in
theorem lk_Md_312 : LkV "LateSeekersModel" 312 mt_Md_partsPlain 1 := ⟨tb_mem 1397 rfl rfl, fv_Md_partsPlain.1, fv_Md_partsPlain.2.1, fv_Md_partsPlain.2.2.1, fv_Md_partsPlain.2.2.2, ⟨by decide, by decide, by decide +kernel⟩, by decide⟩
set_option maxRecDepth 20000 in
theorem lk_Md_324 : LkV "LateSeekersModel" 324 mt_Md_looks 1 := ⟨tb_mem 1401 rfl rfl, fv_Md_looks.1, fv_Md_looks.2.1, fv_Md_looks.2.2.1, fv_Md_looks.2.2.2, ⟨by decide, by decide, by decide +kernel⟩, by decide⟩
set_option maxRecDepth 20000 in
theorem lk_Md_318 : LkV "LateSeekersModel" 318 mt_Md_looksPlain 1 := ⟨tb_mem 1405 rfl rfl, fv_Md_looksPlain.1, fv_Md_looksPlain.2.1, fv_Md_looksPlain.2.2.1, fv_Md_looksPlain.2.2.2, ⟨by decide, by decide, by decide +kernel⟩, by decide⟩
set_option maxRecDepth 20000 in
theorem lk_Law_195 : LkV "LateSeekersLaw" 195 mt_Md_trace 1 := ⟨tb_mem 1409 rfl rfl, fv_Md_trace.1, fv_Md_trace.2.1, fv_Md_trace.2.2.1, fv_Md_trace.2.2.2, ⟨by decide, by decide, by decide +kernel⟩, by decide⟩
set_option maxRecDepth 20000 in
theorem lk_Law_199 : LkV "LateSeekersLaw" 199 mt_Md_many 1 := ⟨tb_mem 1413 rfl rfl, fv_Md_many.1, fv_Md_many.2.1, fv_Md_many.2.2.1, fv_Md_many.2.2.2, ⟨by decide, by decide, by decide +kernel⟩, by decide⟩
set_option maxRecDepth 20000 in
theorem lk_Md_327 : LkV "LateSeekersModel" 327 mt_Md_crowded 0 := ⟨tb_mem 1417 rfl rfl, fv_Md_crowded.1, fv_Md_crowded.2.1, fv_Md_crowded.2.2.1, fv_Md_crowded.2.2.2, ⟨by decide, by decide, by decide +kernel⟩, by decide⟩
set_option maxRecDepth 20000 in
theorem lk_Law_203 : LkV "LateSeekersLaw" 203 mt_Md_keep 0 := ⟨tb_mem 1421 rfl rfl, fv_Md_keep.1, fv_Md_keep.2.1, fv_Md_keep.2.2.1, fv_Md_keep.2.2.2, ⟨by decide, by decide, by decide +kernel⟩, by decide⟩
set_option maxRecDepth 20000 in
theorem lk_Law_207 : LkV "LateSeekersLaw" 207 mt_Md_again 0 := ⟨tb_mem 1425 rfl rfl, fv_Md_again.1, fv_Md_again.2.1, fv_Md_again.2.2.1, fv_Md_again.2.2.2, ⟨by decide, by decide, by decide +kernel⟩, by decide⟩
set_option maxRecDepth 20000 in
theorem fl_Pk_9 : FL "LateSeekers$Park" 9 1 0 "[I" := ⟨by decide, R_Pk, F_Pk, 12, rfl, by decide, tb_mem 111 rfl rfl, rfl⟩
set_option maxRecDepth 20000 in
theorem fl_Tp_95 : FL "LateSeekers$TapeReader" 95 1 0 "[I" := ⟨by decide, R_Pk, F_Pk, 12, rfl, by decide, tb_mem 112 rfl rfl, rfl⟩
set_option maxRecDepth 20000 in
theorem fl_LS_103 : FL "LateSeekers" 103 1 0 "[I" := ⟨by decide, R_Pk, F_Pk, 12, rfl, by decide, tb_mem 113 rfl rfl, rfl⟩
set_option maxRecDepth 20000 in
theorem fl_Pk_15 : FL "LateSeekers$Park" 15 1 1 "[I" := ⟨by decide, R_Pk, F_Pk, 12, rfl, by decide, tb_mem 114 rfl rfl, rfl⟩
set_option maxRecDepth 20000 in
theorem fl_Tp_102 : FL "LateSeekers$TapeReader" 102 1 1 "[I" := ⟨by decide, R_Pk, F_Pk, 12, rfl, by decide, tb_mem 115 rfl rfl, rfl⟩
set_option maxRecDepth 20000 in
theorem fl_LS_151 : FL "LateSeekers" 151 1 1 "[I" := ⟨by decide, R_Pk, F_Pk, 12, rfl, by decide, tb_mem 116 rfl rfl, rfl⟩
set_option maxRecDepth 20000 in
theorem fl_Pk_18 : FL "LateSeekers$Park" 18 1 2 "[I" := ⟨by decide, R_Pk, F_Pk, 12, rfl, by decide, tb_mem 117 rfl rfl, rfl⟩
set_option maxRecDepth 20000 in
theorem fl_Ac_19 : FL "LateSeekers$Actor" 19 1 2 "[I" := ⟨by decide, R_Pk, F_Pk, 12, rfl, by decide, tb_mem 118 rfl rfl, rfl⟩
set_option maxRecDepth 20000 in
theorem fl_Tr_49 : FL "LateSeekers$Trials" 49 1 2 "[I" := ⟨by decide, R_Pk, F_Pk, 12, rfl, by decide, tb_mem 119 rfl rfl, rfl⟩
set_option maxRecDepth 20000 in
theorem fl_LS_119 : FL "LateSeekers" 119 1 2 "[I" := ⟨by decide, R_Pk, F_Pk, 12, rfl, by decide, tb_mem 120 rfl rfl, rfl⟩
set_option maxRecDepth 20000 in
theorem fl_Pk_21 : FL "LateSeekers$Park" 21 1 3 "[I" := ⟨by decide, R_Pk, F_Pk, 12, rfl, by decide, tb_mem 121 rfl rfl, rfl⟩
set_option maxRecDepth 20000 in
theorem fl_LS_122 : FL "LateSeekers" 122 1 3 "[I" := ⟨by decide, R_Pk, F_Pk, 12, rfl, by decide, tb_mem 122 rfl rfl, rfl⟩
set_option maxRecDepth 20000 in
theorem fl_Pk_24 : FL "LateSeekers$Park" 24 1 4 "[I" := ⟨by decide, R_Pk, F_Pk, 12, rfl, by decide, tb_mem 123 rfl rfl, rfl⟩
set_option maxRecDepth 20000 in
theorem fl_Ac_31 : FL "LateSeekers$Actor" 31 1 4 "[I" := ⟨by decide, R_Pk, F_Pk, 12, rfl, by decide, tb_mem 124 rfl rfl, rfl⟩
set_option maxRecDepth 20000 in
theorem fl_Tr_52 : FL "LateSeekers$Trials" 52 1 4 "[I" := ⟨by decide, R_Pk, F_Pk, 12, rfl, by decide, tb_mem 125 rfl rfl, rfl⟩
set_option maxRecDepth 20000 in
theorem fl_LS_125 : FL "LateSeekers" 125 1 4 "[I" := ⟨by decide, R_Pk, F_Pk, 12, rfl, by decide, tb_mem 126 rfl rfl, rfl⟩
set_option maxRecDepth 20000 in
theorem fl_Pk_27 : FL "LateSeekers$Park" 27 1 5 "[I" := ⟨by decide, R_Pk, F_Pk, 12, rfl, by decide, tb_mem 127 rfl rfl, rfl⟩
set_option maxRecDepth 20000 in
theorem fl_Tr_41 : FL "LateSeekers$Trials" 41 1 5 "[I" := ⟨by decide, R_Pk, F_Pk, 12, rfl, by decide, tb_mem 128 rfl rfl, rfl⟩
set_option maxRecDepth 20000 in
theorem fl_Rw_23 : FL "LateSeekers$Rows" 23 1 5 "[I" := ⟨by decide, R_Pk, F_Pk, 12, rfl, by decide, tb_mem 129 rfl rfl, rfl⟩
set_option maxRecDepth 20000 in
theorem fl_LS_128 : FL "LateSeekers" 128 1 5 "[I" := ⟨by decide, R_Pk, F_Pk, 12, rfl, by decide, tb_mem 130 rfl rfl, rfl⟩
set_option maxRecDepth 20000 in
theorem fl_Pk_30 : FL "LateSeekers$Park" 30 1 6 "[I" := ⟨by decide, R_Pk, F_Pk, 12, rfl, by decide, tb_mem 131 rfl rfl, rfl⟩
set_option maxRecDepth 20000 in
theorem fl_Rw_32 : FL "LateSeekers$Rows" 32 1 6 "[I" := ⟨by decide, R_Pk, F_Pk, 12, rfl, by decide, tb_mem 132 rfl rfl, rfl⟩
set_option maxRecDepth 20000 in
theorem fl_LS_134 : FL "LateSeekers" 134 1 6 "[I" := ⟨by decide, R_Pk, F_Pk, 12, rfl, by decide, tb_mem 133 rfl rfl, rfl⟩
set_option maxRecDepth 20000 in
theorem fl_Pk_33 : FL "LateSeekers$Park" 33 1 7 "[I" := ⟨by decide, R_Pk, F_Pk, 12, rfl, by decide, tb_mem 134 rfl rfl, rfl⟩
set_option maxRecDepth 20000 in
theorem fl_LS_196 : FL "LateSeekers" 196 1 7 "[I" := ⟨by decide, R_Pk, F_Pk, 12, rfl, by decide, tb_mem 135 rfl rfl, rfl⟩
set_option maxRecDepth 20000 in
theorem fl_Pk_46 : FLp "LateSeekers$Park" 46 1 8 "I" := ⟨by decide, R_Pk, F_Pk, 12, rfl, by decide, tb_mem 136 rfl rfl, rfl, rfl⟩
set_option maxRecDepth 20000 in
theorem fl_Tp_56 : FLp "LateSeekers$TapeReader" 56 1 8 "I" := ⟨by decide, R_Pk, F_Pk, 12, rfl, by decide, tb_mem 137 rfl rfl, rfl, rfl⟩
set_option maxRecDepth 20000 in
theorem fl_Tr_62 : FLp "LateSeekers$Trials" 62 1 8 "I" := ⟨by decide, R_Pk, F_Pk, 12, rfl, by decide, tb_mem 138 rfl rfl, rfl, rfl⟩
set_option maxRecDepth 20000 in
theorem fl_LS_92 : FLp "LateSeekers" 92 1 8 "I" := ⟨by decide, R_Pk, F_Pk, 12, rfl, by decide, tb_mem 139 rfl rfl, rfl, rfl⟩
set_option maxRecDepth 20000 in
theorem fl_Pk_49 : FLp "LateSeekers$Park" 49 1 9 "I" := ⟨by decide, R_Pk, F_Pk, 12, rfl, by decide, tb_mem 140 rfl rfl, rfl, rfl⟩
set_option maxRecDepth 20000 in
theorem fl_Tr_37 : FLp "LateSeekers$Trials" 37 1 9 "I" := ⟨by decide, R_Pk, F_Pk, 12, rfl, by decide, tb_mem 141 rfl rfl, rfl, rfl⟩
set_option maxRecDepth 20000 in
theorem fl_LS_157 : FLp "LateSeekers" 157 1 9 "I" := ⟨by decide, R_Pk, F_Pk, 12, rfl, by decide, tb_mem 142 rfl rfl, rfl, rfl⟩
set_option maxRecDepth 20000 in
theorem fl_Pk_52 : FLp "LateSeekers$Park" 52 1 10 "I" := ⟨by decide, R_Pk, F_Pk, 12, rfl, by decide, tb_mem 143 rfl rfl, rfl, rfl⟩
set_option maxRecDepth 20000 in
theorem fl_LS_179 : FLp "LateSeekers" 179 1 10 "I" := ⟨by decide, R_Pk, F_Pk, 12, rfl, by decide, tb_mem 144 rfl rfl, rfl, rfl⟩
set_option maxRecDepth 20000 in
theorem fl_Pk_36 : FLp "LateSeekers$Park" 36 1 11 "I" := ⟨by decide, R_Pk, F_Pk, 12, rfl, by decide, tb_mem 145 rfl rfl, rfl, rfl⟩
set_option maxRecDepth 20000 in
theorem fl_LS_84 : FLp "LateSeekers" 84 1 11 "I" := ⟨by decide, R_Pk, F_Pk, 12, rfl, by decide, tb_mem 146 rfl rfl, rfl, rfl⟩
set_option maxRecDepth 20000 in
theorem fl_Tr_83 : FLp "LateSeekers$Trials" 83 1 11 "I" := ⟨by decide, R_Pk, F_Pk, 12, rfl, by decide, tb_mem 147 rfl rfl, rfl, rfl⟩
set_option maxRecDepth 20000 in
theorem fl_Tr_12 : FL "LateSeekers$Trials" 12 2 0 "LLateSeekers$Park;" := ⟨by decide, R_Tr, F_Tr, 2, rfl, by decide, tb_mem 174 rfl rfl, rfl⟩
set_option maxRecDepth 20000 in
theorem fl_LS_16 : FL "LateSeekers" 16 2 0 "LLateSeekers$Park;" := ⟨by decide, R_Tr, F_Tr, 2, rfl, by decide, tb_mem 175 rfl rfl, rfl⟩
set_option maxRecDepth 20000 in
theorem fl_Tr_18 : FL "LateSeekers$Trials" 18 2 1 "LLateSeekers$Park;" := ⟨by decide, R_Tr, F_Tr, 2, rfl, by decide, tb_mem 176 rfl rfl, rfl⟩
set_option maxRecDepth 20000 in
theorem fl_LS_74 : FL "LateSeekers" 74 2 1 "LLateSeekers$Park;" := ⟨by decide, R_Tr, F_Tr, 2, rfl, by decide, tb_mem 177 rfl rfl, rfl⟩
set_option maxRecDepth 20000 in
theorem fl_Tp_9 : FL "LateSeekers$TapeReader" 9 3 0 "[B" := ⟨by decide, R_Tp, F_Tp, 6, rfl, by decide, tb_mem 191 rfl rfl, rfl⟩
set_option maxRecDepth 20000 in
theorem fl_Tp_15 : FLp "LateSeekers$TapeReader" 15 3 1 "I" := ⟨by decide, R_Tp, F_Tp, 6, rfl, by decide, tb_mem 192 rfl rfl, rfl, rfl⟩
set_option maxRecDepth 20000 in
theorem fl_LS_66 : FLp "LateSeekers" 66 3 1 "I" := ⟨by decide, R_Tp, F_Tp, 6, rfl, by decide, tb_mem 193 rfl rfl, rfl, rfl⟩
set_option maxRecDepth 20000 in
theorem fl_Tp_28 : FLp "LateSeekers$TapeReader" 28 3 2 "I" := ⟨by decide, R_Tp, F_Tp, 6, rfl, by decide, tb_mem 194 rfl rfl, rfl, rfl⟩
set_option maxRecDepth 20000 in
theorem fl_Tp_104 : FLp "LateSeekers$TapeReader" 104 3 3 "I" := ⟨by decide, R_Tp, F_Tp, 6, rfl, by decide, tb_mem 195 rfl rfl, rfl, rfl⟩
set_option maxRecDepth 20000 in
theorem fl_Tp_22 : FLp "LateSeekers$TapeReader" 22 3 4 "I" := ⟨by decide, R_Tp, F_Tp, 6, rfl, by decide, tb_mem 196 rfl rfl, rfl, rfl⟩
set_option maxRecDepth 20000 in
theorem fl_Tp_19 : FLp "LateSeekers$TapeReader" 19 3 5 "I" := ⟨by decide, R_Tp, F_Tp, 6, rfl, by decide, tb_mem 197 rfl rfl, rfl, rfl⟩
set_option maxRecDepth 20000 in
theorem fl_Rw_9 : FL "LateSeekers$Rows" 9 4 0 "[I" := ⟨by decide, R_Rw, F_Rw, 2, rfl, by decide, tb_mem 218 rfl rfl, rfl⟩
set_option maxRecDepth 20000 in
theorem fl_LS_255 : FL "LateSeekers" 255 4 0 "[I" := ⟨by decide, R_Rw, F_Rw, 2, rfl, by decide, tb_mem 219 rfl rfl, rfl⟩
set_option maxRecDepth 20000 in
theorem fl_Rw_15 : FLp "LateSeekers$Rows" 15 4 1 "I" := ⟨by decide, R_Rw, F_Rw, 2, rfl, by decide, tb_mem 220 rfl rfl, rfl, rfl⟩
set_option maxRecDepth 20000 in
theorem fl_LS_91 : FLp "LateSeekers" 91 4 1 "I" := ⟨by decide, R_Rw, F_Rw, 2, rfl, by decide, tb_mem 221 rfl rfl, rfl, rfl⟩
set_option maxRecDepth 20000 in
theorem fl_Sh_9 : FL "LateSeekers$Sheets" 9 5 0 "[I" := ⟨by decide, R_Sh, F_Sh, 3, rfl, by decide, tb_mem 233 rfl rfl, rfl⟩
set_option maxRecDepth 20000 in
theorem fl_LS_262 : FL "LateSeekers" 262 5 0 "[I" := ⟨by decide, R_Sh, F_Sh, 3, rfl, by decide, tb_mem 234 rfl rfl, rfl⟩
set_option maxRecDepth 20000 in
theorem fl_Sh_15 : FL "LateSeekers$Sheets" 15 5 1 "[I" := ⟨by decide, R_Sh, F_Sh, 3, rfl, by decide, tb_mem 235 rfl rfl, rfl⟩
set_option maxRecDepth 20000 in
theorem fl_Tr_75 : FL "LateSeekers$Trials" 75 5 1 "[I" := ⟨by decide, R_Sh, F_Sh, 3, rfl, by decide, tb_mem 236 rfl rfl, rfl⟩
set_option maxRecDepth 20000 in
theorem fl_LS_265 : FL "LateSeekers" 265 5 1 "[I" := ⟨by decide, R_Sh, F_Sh, 3, rfl, by decide, tb_mem 237 rfl rfl, rfl⟩
set_option maxRecDepth 20000 in
theorem fl_Sh_18 : FL "LateSeekers$Sheets" 18 5 2 "[I" := ⟨by decide, R_Sh, F_Sh, 3, rfl, by decide, tb_mem 238 rfl rfl, rfl⟩
set_option maxRecDepth 20000 in
theorem fl_Sv_11 : FL "LateSeekers$Shelves" 11 6 0 "[I" := ⟨by decide, R_Sv, F_Sv, 3, rfl, by decide, tb_mem 252 rfl rfl, rfl⟩
set_option maxRecDepth 20000 in
theorem fl_LS_306 : FL "LateSeekers" 306 6 0 "[I" := ⟨by decide, R_Sv, F_Sv, 3, rfl, by decide, tb_mem 253 rfl rfl, rfl⟩
set_option maxRecDepth 20000 in
theorem fl_Sv_15 : FL "LateSeekers$Shelves" 15 6 1 "[I" := ⟨by decide, R_Sv, F_Sv, 3, rfl, by decide, tb_mem 254 rfl rfl, rfl⟩
set_option maxRecDepth 20000 in
theorem fl_LS_300 : FL "LateSeekers" 300 6 1 "[I" := ⟨by decide, R_Sv, F_Sv, 3, rfl, by decide, tb_mem 255 rfl rfl, rfl⟩
set_option maxRecDepth 20000 in
theorem fl_Sv_18 : FL "LateSeekers$Shelves" 18 6 2 "[I" := ⟨by decide, R_Sv, F_Sv, 3, rfl, by decide, tb_mem 256 rfl rfl, rfl⟩
set_option maxRecDepth 20000 in
theorem fl_LS_303 : FL "LateSeekers" 303 6 2 "[I" := ⟨by decide, R_Sv, F_Sv, 3, rfl, by decide, tb_mem 257 rfl rfl, rfl⟩
set_option maxRecDepth 20000 in
theorem fl_Ac_9 : FL "LateSeekers$Actor" 9 7 0 "[I" := ⟨by decide, R_Ac, F_Ac, 6, rfl, by decide, tb_mem 271 rfl rfl, rfl⟩
set_option maxRecDepth 20000 in
theorem fl_LS_322 : FL "LateSeekers" 322 7 0 "[I" := ⟨by decide, R_Ac, F_Ac, 6, rfl, by decide, tb_mem 272 rfl rfl, rfl⟩
set_option maxRecDepth 20000 in
theorem fl_Ac_44 : FLp "LateSeekers$Actor" 44 7 1 "I" := ⟨by decide, R_Ac, F_Ac, 6, rfl, by decide, tb_mem 273 rfl rfl, rfl, rfl⟩
set_option maxRecDepth 20000 in
theorem fl_LS_315 : FLp "LateSeekers" 315 7 1 "I" := ⟨by decide, R_Ac, F_Ac, 6, rfl, by decide, tb_mem 274 rfl rfl, rfl, rfl⟩
set_option maxRecDepth 20000 in
theorem fl_Ac_24 : FLp "LateSeekers$Actor" 24 7 2 "I" := ⟨by decide, R_Ac, F_Ac, 6, rfl, by decide, tb_mem 275 rfl rfl, rfl, rfl⟩
set_option maxRecDepth 20000 in
theorem fl_Ac_28 : FLp "LateSeekers$Actor" 28 7 3 "I" := ⟨by decide, R_Ac, F_Ac, 6, rfl, by decide, tb_mem 276 rfl rfl, rfl, rfl⟩
set_option maxRecDepth 20000 in
theorem fl_Ac_34 : FLp "LateSeekers$Actor" 34 7 4 "I" := ⟨by decide, R_Ac, F_Ac, 6, rfl, by decide, tb_mem 277 rfl rfl, rfl, rfl⟩
set_option maxRecDepth 20000 in
theorem fl_Ac_15 : FLp "LateSeekers$Actor" 15 7 5 "Z" := ⟨by decide, R_Ac, F_Ac, 6, rfl, by decide, tb_mem 278 rfl rfl, rfl, rfl⟩
set_option maxRecDepth 20000 in
theorem fl_LS_20 : FL "LateSeekers" 20 0 0 "LLateSeekers$Park;" := ⟨by decide, R_LS, F_LS, 9, rfl, by decide, tb_mem 292 rfl rfl, rfl⟩
set_option maxRecDepth 20000 in
theorem fl_LS_24 : FL "LateSeekers" 24 0 1 "LLateSeekers$Park;" := ⟨by decide, R_LS, F_LS, 9, rfl, by decide, tb_mem 293 rfl rfl, rfl⟩
set_option maxRecDepth 20000 in
theorem fl_LS_328 : FLp "LateSeekers" 328 0 2 "Z" := ⟨by decide, R_LS, F_LS, 9, rfl, by decide, tb_mem 294 rfl rfl, rfl, rfl⟩
set_option maxRecDepth 20000 in
theorem fl_LS_12 : FL "LateSeekers" 12 0 3 "LLateSeekers$Trials;" := ⟨by decide, R_LS, F_LS, 9, rfl, by decide, tb_mem 295 rfl rfl, rfl⟩
set_option maxRecDepth 20000 in
theorem fl_LS_30 : FL "LateSeekers" 30 0 4 "LLateSeekers$TapeReader;" := ⟨by decide, R_LS, F_LS, 9, rfl, by decide, tb_mem 296 rfl rfl, rfl⟩
set_option maxRecDepth 20000 in
theorem fl_LS_37 : FL "LateSeekers" 37 0 5 "LLateSeekers$Rows;" := ⟨by decide, R_LS, F_LS, 9, rfl, by decide, tb_mem 297 rfl rfl, rfl⟩
set_option maxRecDepth 20000 in
theorem fl_LS_44 : FL "LateSeekers" 44 0 6 "LLateSeekers$Sheets;" := ⟨by decide, R_LS, F_LS, 9, rfl, by decide, tb_mem 298 rfl rfl, rfl⟩
set_option maxRecDepth 20000 in
theorem fl_LS_51 : FL "LateSeekers" 51 0 7 "LLateSeekers$Shelves;" := ⟨by decide, R_LS, F_LS, 9, rfl, by decide, tb_mem 299 rfl rfl, rfl⟩
set_option maxRecDepth 20000 in
theorem fl_LS_58 : FL "LateSeekers" 58 0 8 "LLateSeekers$Actor;" := ⟨by decide, R_LS, F_LS, 9, rfl, by decide, tb_mem 300 rfl rfl, rfl⟩
set_option maxRecDepth 20000 in
theorem fl_Md_7 : FL "LateSeekersModel" 7 8 0 "[I" := ⟨by decide, R_Md, F_Md, 27, rfl, by decide, tb_mem 913 rfl rfl, rfl⟩
set_option maxRecDepth 20000 in
theorem fl_Md_13 : FL "LateSeekersModel" 13 8 1 "[I" := ⟨by decide, R_Md, F_Md, 27, rfl, by decide, tb_mem 914 rfl rfl, rfl⟩
set_option maxRecDepth 20000 in
theorem fl_Md_16 : FL "LateSeekersModel" 16 8 2 "[I" := ⟨by decide, R_Md, F_Md, 27, rfl, by decide, tb_mem 915 rfl rfl, rfl⟩
set_option maxRecDepth 20000 in
theorem fl_Md_19 : FL "LateSeekersModel" 19 8 3 "[I" := ⟨by decide, R_Md, F_Md, 27, rfl, by decide, tb_mem 916 rfl rfl, rfl⟩
set_option maxRecDepth 20000 in
theorem fl_Md_330 : FLp "LateSeekersModel" 330 8 4 "Z" := ⟨by decide, R_Md, F_Md, 27, rfl, by decide, tb_mem 917 rfl rfl, rfl, rfl⟩
set_option maxRecDepth 20000 in
theorem fl_Md_22 : FL "LateSeekersModel" 22 8 5 "[I" := ⟨by decide, R_Md, F_Md, 27, rfl, by decide, tb_mem 918 rfl rfl, rfl⟩
set_option maxRecDepth 20000 in
theorem fl_Md_61 : FLp "LateSeekersModel" 61 8 6 "I" := ⟨by decide, R_Md, F_Md, 27, rfl, by decide, tb_mem 919 rfl rfl, rfl, rfl⟩
set_option maxRecDepth 20000 in
theorem fl_Md_84 : FLp "LateSeekersModel" 84 8 7 "I" := ⟨by decide, R_Md, F_Md, 27, rfl, by decide, tb_mem 920 rfl rfl, rfl, rfl⟩
set_option maxRecDepth 20000 in
theorem fl_Md_70 : FLp "LateSeekersModel" 70 8 8 "I" := ⟨by decide, R_Md, F_Md, 27, rfl, by decide, tb_mem 921 rfl rfl, rfl, rfl⟩
set_option maxRecDepth 20000 in
theorem fl_Md_67 : FLp "LateSeekersModel" 67 8 9 "I" := ⟨by decide, R_Md, F_Md, 27, rfl, by decide, tb_mem 922 rfl rfl, rfl, rfl⟩
set_option maxRecDepth 20000 in
theorem fl_Md_87 : FLp "LateSeekersModel" 87 8 10 "I" := ⟨by decide, R_Md, F_Md, 27, rfl, by decide, tb_mem 923 rfl rfl, rfl, rfl⟩
set_option maxRecDepth 20000 in
theorem fl_Md_90 : FLp "LateSeekersModel" 90 8 11 "Z" := ⟨by decide, R_Md, F_Md, 27, rfl, by decide, tb_mem 924 rfl rfl, rfl, rfl⟩
set_option maxRecDepth 20000 in
theorem fl_Md_25 : FL "LateSeekersModel" 25 8 12 "[I" := ⟨by decide, R_Md, F_Md, 27, rfl, by decide, tb_mem 925 rfl rfl, rfl⟩
set_option maxRecDepth 20000 in
theorem fl_Md_28 : FL "LateSeekersModel" 28 8 13 "[I" := ⟨by decide, R_Md, F_Md, 27, rfl, by decide, tb_mem 926 rfl rfl, rfl⟩
set_option maxRecDepth 20000 in
theorem fl_Md_148 : FLp "LateSeekersModel" 148 8 14 "I" := ⟨by decide, R_Md, F_Md, 27, rfl, by decide, tb_mem 927 rfl rfl, rfl, rfl⟩
set_option maxRecDepth 20000 in
theorem fl_Md_31 : FL "LateSeekersModel" 31 8 15 "[I" := ⟨by decide, R_Md, F_Md, 27, rfl, by decide, tb_mem 928 rfl rfl, rfl⟩
set_option maxRecDepth 20000 in
theorem fl_Md_34 : FL "LateSeekersModel" 34 8 16 "[I" := ⟨by decide, R_Md, F_Md, 27, rfl, by decide, tb_mem 929 rfl rfl, rfl⟩
set_option maxRecDepth 20000 in
theorem fl_Md_37 : FL "LateSeekersModel" 37 8 17 "[I" := ⟨by decide, R_Md, F_Md, 27, rfl, by decide, tb_mem 930 rfl rfl, rfl⟩
set_option maxRecDepth 20000 in
theorem fl_Md_40 : FL "LateSeekersModel" 40 8 18 "[I" := ⟨by decide, R_Md, F_Md, 27, rfl, by decide, tb_mem 931 rfl rfl, rfl⟩
set_option maxRecDepth 20000 in
theorem fl_Md_43 : FL "LateSeekersModel" 43 8 19 "[I" := ⟨by decide, R_Md, F_Md, 27, rfl, by decide, tb_mem 932 rfl rfl, rfl⟩
set_option maxRecDepth 20000 in
theorem fl_Md_46 : FL "LateSeekersModel" 46 8 20 "[I" := ⟨by decide, R_Md, F_Md, 27, rfl, by decide, tb_mem 933 rfl rfl, rfl⟩
set_option maxRecDepth 20000 in
theorem fl_Md_49 : FL "LateSeekersModel" 49 8 21 "[I" := ⟨by decide, R_Md, F_Md, 27, rfl, by decide, tb_mem 934 rfl rfl, rfl⟩
set_option maxRecDepth 20000 in
theorem fl_Md_282 : FLp "LateSeekersModel" 282 8 22 "I" := ⟨by decide, R_Md, F_Md, 27, rfl, by decide, tb_mem 935 rfl rfl, rfl, rfl⟩
set_option maxRecDepth 20000 in
theorem fl_Md_294 : FLp "LateSeekersModel" 294 8 23 "I" := ⟨by decide, R_Md, F_Md, 27, rfl, by decide, tb_mem 936 rfl rfl, rfl, rfl⟩
set_option maxRecDepth 20000 in
theorem fl_Md_288 : FLp "LateSeekersModel" 288 8 24 "I" := ⟨by decide, R_Md, F_Md, 27, rfl, by decide, tb_mem 937 rfl rfl, rfl, rfl⟩
set_option maxRecDepth 20000 in
theorem fl_Md_303 : FLp "LateSeekersModel" 303 8 25 "I" := ⟨by decide, R_Md, F_Md, 27, rfl, by decide, tb_mem 938 rfl rfl, rfl, rfl⟩
set_option maxRecDepth 20000 in
theorem fl_Md_309 : FLp "LateSeekersModel" 309 8 26 "Z" := ⟨by decide, R_Md, F_Md, 27, rfl, by decide, tb_mem 939 rfl rfl, rfl, rfl⟩
set_option maxRecDepth 20000 in
theorem kc_Integer_265 : Cond.constant "java/lang/Integer" 265 1431655765 ∈ tb := tb_mem 554 rfl rfl
set_option maxRecDepth 20000 in
theorem kc_Integer_266 : Cond.constant "java/lang/Integer" 266 858993459 ∈ tb := tb_mem 555 rfl rfl
set_option maxRecDepth 20000 in
theorem kc_Integer_267 : Cond.constant "java/lang/Integer" 267 252645135 ∈ tb := tb_mem 556 rfl rfl
set_option maxRecDepth 20000 in
theorem kc_Pk_110 : Cond.constant "LateSeekers$Park" 110 1103515245 ∈ tb := tb_mem 613 rfl rfl
set_option maxRecDepth 20000 in
theorem kc_Md_210 : Cond.constant "LateSeekersModel" 210 1103515245 ∈ tb := tb_mem 1199 rfl rfl
set_option maxRecDepth 20000 in
theorem kc_LS_232 : Cond.constantLong "LateSeekers" 232 (-1) ∈ tb := tb_mem 747 rfl rfl
set_option maxRecDepth 20000 in
theorem kc_LS_234 : Cond.constantLong "LateSeekers" 234 100 ∈ tb := tb_mem 748 rfl rfl
set_option maxRecDepth 20000 in
theorem kc_Md_55 : Cond.constantLong "LateSeekersModel" 55 8 ∈ tb := tb_mem 999 rfl rfl
set_option maxRecDepth 20000 in
theorem kc_Md_65 : Cond.constantLong "LateSeekersModel" 65 255 ∈ tb := tb_mem 1003 rfl rfl
set_option maxRecDepth 20000 in
theorem kc_Md_151 : Cond.constantLong "LateSeekersModel" 151 3 ∈ tb := tb_mem 1081 rfl rfl
set_option maxRecDepth 20000 in
theorem kc_Md_160 : Cond.constantLong "LateSeekersModel" 160 5 ∈ tb := tb_mem 1097 rfl rfl
set_option maxRecDepth 20000 in
theorem kc_Md_162 : Cond.constantLong "LateSeekersModel" 162 99 ∈ tb := tb_mem 1098 rfl rfl
set_option maxRecDepth 20000 in
theorem kc_Md_164 : Cond.constantLong "LateSeekersModel" 164 9 ∈ tb := tb_mem 1099 rfl rfl
set_option maxRecDepth 20000 in
theorem kc_Md_175 : Cond.constantLong "LateSeekersModel" 175 2 ∈ tb := tb_mem 1119 rfl rfl
set_option maxRecDepth 20000 in
theorem kc_Md_205 : Cond.constantLong "LateSeekersModel" 205 60 ∈ tb := tb_mem 1171 rfl rfl
set_option maxRecDepth 20000 in
theorem kc_Md_214 : Cond.constantLong "LateSeekersModel" 214 30 ∈ tb := tb_mem 1204 rfl rfl
set_option maxRecDepth 20000 in
theorem kc_Md_231 : Cond.constantLong "LateSeekersModel" 231 20 ∈ tb := tb_mem 1257 rfl rfl
set_option maxRecDepth 20000 in
theorem kc_Md_246 : Cond.constantLong "LateSeekersModel" 246 (-1) ∈ tb := tb_mem 1289 rfl rfl
set_option maxRecDepth 20000 in
theorem kc_Md_252 : Cond.constantLong "LateSeekersModel" 252 100 ∈ tb := tb_mem 1293 rfl rfl
set_option maxRecDepth 20000 in
theorem kc_Md_258 : Cond.constantLong "LateSeekersModel" 258 10 ∈ tb := tb_mem 1305 rfl rfl
set_option maxRecDepth 20000 in
theorem kc_Md_272 : Cond.constantLong "LateSeekersModel" 272 13 ∈ tb := tb_mem 1356 rfl rfl
set_option maxRecDepth 20000 in
theorem kc_Md_274 : Cond.constantLong "LateSeekersModel" 274 6 ∈ tb := tb_mem 1357 rfl rfl
set_option maxRecDepth 20000 in
theorem kc_Law_13 : Cond.constantLong "LateSeekersLaw" 13 4294967295 ∈ tb := tb_mem 1429 rfl rfl
set_option maxRecDepth 20000 in
theorem sl_LS_99 : Cond.fieldLink "LateSeekers" 99 (roC 1).1 (roC 1).2 "[I" ∈ tb := tb_mem 482 rfl rfl
set_option maxRecDepth 20000 in
theorem sl_LS_312 : Cond.fieldLink "LateSeekers" 312 (roC 2).1 (roC 2).2 "[I" ∈ tb := tb_mem 862 rfl rfl
set_option maxRecDepth 20000 in
theorem sl_Ac_41 : Cond.fieldLink "LateSeekers$Actor" 41 (roC 3).1 (roC 3).2 "[I" ∈ tb := tb_mem 876 rfl rfl
set_option maxRecDepth 20000 in
theorem ac_Pk_55 : Cond.methodLink "LateSeekers$Park" 55 arraycopyName ∈ tb := tb_mem 472 rfl rfl
set_option maxRecDepth 20000 in
theorem ac_all : Cond.native arraycopyName ∈ tb ∧ Cond.static arraycopyName ∈ tb ∧ Cond.initialized "java/lang/System" ∈ tb := ⟨tb_mem 474 rfl rfl, tb_mem 473 rfl rfl, tb_mem 82 rfl rfl⟩
