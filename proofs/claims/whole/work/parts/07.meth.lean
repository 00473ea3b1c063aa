/-! names, 2: methods and links, printed by gen/names2.py -/
section NAMES2
abbrev m_S_init : q_Me := (⟨"StuckSearch", "<init>", "()V"⟩, prog_1_method_1_code, 1, none, [])
abbrev m_Ta_init : q_Me := (⟨"StuckSearch$Tape", "<init>", "()V"⟩, prog_7_method_1_code, 1, none, [])
abbrev m_Wo_init : q_Me := (⟨"StuckSearch$World", "<init>", "()V"⟩, prog_9_method_1_code, 2, none, [])
abbrev m_Ar_fillI : q_Me := (⟨"java/util/Arrays", "fill", "([II)V"⟩, prog_23_method_103_code, 4, none, [])
abbrev m_Co_init : q_Me := (⟨"StuckSearch$Course", "<init>", "()V"⟩, prog_2_method_1_code, 1, none, [])
abbrev m_Re_init : q_Me := (⟨"StuckSearch$TextReader", "<init>", "(LStuckSearch$Tape;LStuckSearch$World;)V"⟩, prog_8_method_1_code, 4, none, [])
abbrev m_Pa_init : q_Me := (⟨"StuckSearch$Part", "<init>", "()V"⟩, prog_3_method_1_code, 1, none, [])
abbrev m_Se_init : q_Me := (⟨"StuckSearch$Search", "<init>", "(LStuckSearch$World;)V"⟩, prog_4_method_1_code, 2, none, [])
abbrev m_Ss_init : q_Me := (⟨"StuckSearch$StateSet", "<init>", "()V"⟩, prog_6_method_1_code, 1, none, [])
abbrev m_St_init : q_Me := (⟨"StuckSearch$State", "<init>", "()V"⟩, prog_5_method_1_code, 1, none, [])
abbrev m_S_wipe : q_Me := (⟨"StuckSearch", "wipe", "()I"⟩, prog_1_method_3_code, 2, some (FieldType.int), [])
abbrev m_S_process : q_Me := (⟨"StuckSearch", "process", "()I"⟩, prog_1_method_5_code, 1, some (FieldType.int), [])
abbrev m_Re_read : q_Me := (⟨"StuckSearch$TextReader", "read", "(LStuckSearch$Course;)Z"⟩, prog_8_method_2_code, 3, some (FieldType.boolean), [])
abbrev m_Co_reset : q_Me := (⟨"StuckSearch$Course", "reset", "()V"⟩, prog_2_method_2_code, 1, none, [])
abbrev m_Re_beginText : q_Me := (⟨"StuckSearch$TextReader", "beginText", "()V"⟩, prog_8_method_11_code, 1, none, [])
abbrev m_Pa_set : q_Me := (⟨"StuckSearch$Part", "set", "(ZI)V"⟩, prog_3_method_2_code, 3, none, [])
abbrev m_Re_readNext : q_Me := (⟨"StuckSearch$TextReader", "readNext", "(LStuckSearch$Course;)V"⟩, prog_8_method_3_code, 2, none, [])
abbrev m_Ta_byteAt : q_Me := (⟨"StuckSearch$Tape", "byteAt", "(I)I"⟩, prog_7_method_3_code, 2, some (FieldType.int), [])
abbrev m_Re_endChoice : q_Me := (⟨"StuckSearch$TextReader", "endChoice", "()V"⟩, prog_8_method_12_code, 1, none, [])
abbrev m_Pa_addChoice : q_Me := (⟨"StuckSearch$Part", "addChoice", "(LStuckSearch$Part;)V"⟩, prog_3_method_3_code, 2, none, [])
abbrev m_Re_openText : q_Me := (⟨"StuckSearch$TextReader", "openText", "()V"⟩, prog_8_method_4_code, 1, none, [])
abbrev m_Re_meetFault : q_Me := (⟨"StuckSearch$TextReader", "meetFault", "(I)V"⟩, prog_8_method_13_code, 2, none, [])
abbrev m_Re_closeText : q_Me := (⟨"StuckSearch$TextReader", "closeText", "(LStuckSearch$Course;)V"⟩, prog_8_method_5_code, 3, none, [])
abbrev m_Re_addThing : q_Me := (⟨"StuckSearch$TextReader", "addThing", "(LStuckSearch$Course;LStuckSearch$Part;)V"⟩, prog_8_method_10_code, 3, none, [])
abbrev m_Co_addSteps : q_Me := (⟨"StuckSearch$Course", "addSteps", "(II)V"⟩, prog_2_method_5_code, 4, none, [])
abbrev m_Pa_addBehind : q_Me := (⟨"StuckSearch$Part", "addBehind", "(LStuckSearch$Part;)V"⟩, prog_3_method_4_code, 2, none, [])
abbrev m_Re_readAct : q_Me := (⟨"StuckSearch$TextReader", "readAct", "(LStuckSearch$Course;)V"⟩, prog_8_method_6_code, 8, none, [])
abbrev m_Co_isFull : q_Me := (⟨"StuckSearch$Course", "isFull", "()Z"⟩, prog_2_method_3_code, 1, some (FieldType.boolean), [])
abbrev m_Re_readKind : q_Me := (⟨"StuckSearch$TextReader", "readKind", "()I"⟩, prog_8_method_7_code, 2, some (FieldType.int), [])
abbrev m_Re_takesFigure : q_Me := (⟨"StuckSearch$TextReader", "takesFigure", "(I)Z"⟩, prog_8_method_8_code, 1, some (FieldType.boolean), [])
abbrev m_Re_readFigure : q_Me := (⟨"StuckSearch$TextReader", "readFigure", "(I)I"⟩, prog_8_method_9_code, 3, some (FieldType.int), [])
abbrev m_Co_addAct : q_Me := (⟨"StuckSearch$Course", "addAct", "(III)I"⟩, prog_2_method_4_code, 5, some (FieldType.int), [])
abbrev m_Co_finish : q_Me := (⟨"StuckSearch$Course", "finish", "(LStuckSearch$Part;)V"⟩, prog_2_method_6_code, 2, none, [])
abbrev m_S_beginAnew : q_Me := (⟨"StuckSearch", "beginAnew", "()V"⟩, prog_1_method_21_code, 1, none, [])
abbrev m_Se_forget : q_Me := (⟨"StuckSearch$Search", "forget", "()V"⟩, prog_4_method_2_code, 1, none, [])
abbrev m_S_returnToFirst : q_Me := (⟨"StuckSearch", "returnToFirst", "()V"⟩, prog_1_method_22_code, 1, none, [])
abbrev m_Wo_putFirst : q_Me := (⟨"StuckSearch$World", "putFirst", "(LStuckSearch$State;)V"⟩, prog_9_method_6_code, 3, none, [])
abbrev m_S_fault : q_Me := (⟨"StuckSearch", "fault", "()I"⟩, prog_1_method_6_code, 1, some (FieldType.int), [])
abbrev m_S_faultAt : q_Me := (⟨"StuckSearch", "faultAt", "()I"⟩, prog_1_method_7_code, 1, some (FieldType.int), [])
abbrev m_S_clear : q_Me := (⟨"StuckSearch", "clear", "()I"⟩, prog_1_method_8_code, 2, some (FieldType.int), [])
abbrev m_Wo_removeAll : q_Me := (⟨"StuckSearch$World", "removeAll", "()V"⟩, prog_9_method_3_code, 1, none, [])
abbrev m_S_product : q_Me := (⟨"StuckSearch", "product", "()I"⟩, prog_1_method_10_code, 1, some (FieldType.int), [])
abbrev m_Wo_isSearchable : q_Me := (⟨"StuckSearch$World", "isSearchable", "()Z"⟩, prog_9_method_5_code, 1, some (FieldType.boolean), [])
abbrev m_Wo_countStates : q_Me := (⟨"StuckSearch$World", "countStates", "()J"⟩, prog_9_method_4_code, 4, some (FieldType.long), [])
abbrev m_S_stuck : q_Me := (⟨"StuckSearch", "stuck", "()I"⟩, prog_1_method_11_code, 1, some (FieldType.int), [])
abbrev m_Se_findStanding : q_Me := (⟨"StuckSearch$Search", "findStanding", "()V"⟩, prog_4_method_3_code, 3, none, [])
abbrev m_Se_weigh : q_Me := (⟨"StuckSearch$Search", "weigh", "()V"⟩, prog_4_method_6_code, 3, none, [])
abbrev m_Ss_empty : q_Me := (⟨"StuckSearch$StateSet", "empty", "()V"⟩, prog_6_method_2_code, 1, none, [])
abbrev m_Ar_fillJ : q_Me := (⟨"java/util/Arrays", "fill", "([JJ)V"⟩, prog_23_method_101_code, 5, none, [])
abbrev m_Wo_numberOf : q_Me := (⟨"StuckSearch$World", "numberOf", "(LStuckSearch$State;)I"⟩, prog_9_method_11_code, 4, some (FieldType.int), [])
abbrev m_Se_reach : q_Me := (⟨"StuckSearch$Search", "reach", "(I)V"⟩, prog_4_method_7_code, 2, none, [])
abbrev m_Ss_contains : q_Me := (⟨"StuckSearch$StateSet", "contains", "(I)Z"⟩, prog_6_method_4_code, 2, some (FieldType.boolean), [])
abbrev m_Ss_add : q_Me := (⟨"StuckSearch$StateSet", "add", "(I)V"⟩, prog_6_method_5_code, 2, none, [])
abbrev m_Ss_takeLowest : q_Me := (⟨"StuckSearch$StateSet", "takeLowest", "()I"⟩, prog_6_method_6_code, 2, some (FieldType.int), [])
abbrev m_S_nthBit : q_Me := (⟨"StuckSearch", "nthBit", "(JI)I"⟩, prog_1_method_25_code, 6, some (FieldType.int), [])
abbrev m_Lo_bitCount : q_Me := (⟨"java/lang/Long", "bitCount", "(J)I"⟩, prog_17_method_50_code, 2, some (FieldType.int), [])
abbrev m_Se_lookAhead : q_Me := (⟨"StuckSearch$Search", "lookAhead", "(I)V"⟩, prog_4_method_8_code, 5, none, [])
abbrev m_Wo_putNumbered : q_Me := (⟨"StuckSearch$World", "putNumbered", "(ILStuckSearch$State;)V"⟩, prog_9_method_12_code, 6, none, [])
abbrev m_Ma_max : q_Me := (⟨"java/lang/Math", "max", "(II)I"⟩, prog_18_method_65_code, 2, some (FieldType.int), [])
abbrev m_Wo_openPlaces : q_Me := (⟨"StuckSearch$World", "openPlaces", "(LStuckSearch$State;I)I"⟩, prog_9_method_7_code, 7, some (FieldType.int), [])
abbrev m_Wo_outcome : q_Me := (⟨"StuckSearch$World", "outcome", "(LStuckSearch$State;LStuckSearch$Course;I)I"⟩, prog_9_method_8_code, 5, some (FieldType.int), [])
abbrev m_Co_outcome : q_Me := (⟨"StuckSearch$Course", "outcome", "(III)I"⟩, prog_2_method_9_code, 4, some (FieldType.int), [])
abbrev m_Se_reachAll : q_Me := (⟨"StuckSearch$Search", "reachAll", "(III)V"⟩, prog_4_method_9_code, 8, none, [])
abbrev m_Wo_allAtEnds : q_Me := (⟨"StuckSearch$World", "allAtEnds", "(LStuckSearch$State;)Z"⟩, prog_9_method_10_code, 3, some (FieldType.boolean), [])
abbrev m_Co_isEnd : q_Me := (⟨"StuckSearch$Course", "isEnd", "(I)Z"⟩, prog_2_method_8_code, 2, some (FieldType.boolean), [])
abbrev m_S_ended : q_Me := (⟨"StuckSearch", "ended", "()I"⟩, prog_1_method_12_code, 1, some (FieldType.int), [])
abbrev m_S_moves : q_Me := (⟨"StuckSearch", "moves", "()I"⟩, prog_1_method_15_code, 3, some (FieldType.int), [])
abbrev m_In_bitCount : q_Me := (⟨"java/lang/Integer", "bitCount", "(I)I"⟩, prog_16_method_49_code, 1, some (FieldType.int), [])
abbrev m_S_restart : q_Me := (⟨"StuckSearch", "restart", "()I"⟩, prog_1_method_17_code, 2, some (FieldType.int), [])
abbrev m_La_feed : q_Me := (⟨"StuckSearchLaw", "feed", "(LStuckSearch;IJ[J)I"⟩, method_3_code, 6, some (FieldType.int), [(0, 11, 14, 13)])
abbrev m_S_feed : q_Me := (⟨"StuckSearch", "feed", "(IJ)I"⟩, prog_1_method_2_code, 4, some (FieldType.int), [])
abbrev m_Ta_append : q_Me := (⟨"StuckSearch$Tape", "append", "(IJ)Z"⟩, prog_7_method_2_code, 5, some (FieldType.boolean), [])
abbrev m_La_variable : q_Me := (⟨"StuckSearchLaw", "variable", "(LStuckSearch;II[J)I"⟩, method_4_code, 5, some (FieldType.int), [(0, 10, 13, 13)])
abbrev m_S_variable : q_Me := (⟨"StuckSearch", "variable", "(II)I"⟩, prog_1_method_4_code, 3, some (FieldType.int), [])
abbrev m_Wo_addVariable : q_Me := (⟨"StuckSearch$World", "addVariable", "(II)V"⟩, prog_9_method_2_code, 3, none, [])
abbrev m_La_told : q_Me := (⟨"StuckSearchLaw", "told", "(LStuckSearch;II[J)I"⟩, method_5_code, 5, some (FieldType.int), [(0, 10, 13, 22), (0, 10, 17, 13)])
abbrev m_S_told : q_Me := (⟨"StuckSearch", "told", "(II)I"⟩, prog_1_method_9_code, 4, some (FieldType.int), [])
abbrev m_S_checkIndex : q_Me := (⟨"StuckSearch", "checkIndex", "(II)V"⟩, prog_1_method_24_code, 2, none, [])
abbrev m_Co_countSteps : q_Me := (⟨"StuckSearch$Course", "countSteps", "()I"⟩, prog_2_method_7_code, 3, some (FieldType.int), [])
abbrev m_La_place : q_Me := (⟨"StuckSearchLaw", "place", "(LStuckSearch;II[J)I"⟩, method_6_code, 5, some (FieldType.int), [(0, 10, 13, 27), (0, 10, 17, 22)])
abbrev m_S_place : q_Me := (⟨"StuckSearch", "place", "(II)I"⟩, prog_1_method_13_code, 3, some (FieldType.int), [])
abbrev m_S_checkSearchable : q_Me := (⟨"StuckSearch", "checkSearchable", "()V"⟩, prog_1_method_23_code, 1, none, [])
abbrev m_Se_standingState : q_Me := (⟨"StuckSearch$Search", "standingState", "(I)LStuckSearch$State;"⟩, prog_4_method_5_code, 2, some ((FieldType.object "StuckSearch$State")), [])
abbrev m_Ss_nth : q_Me := (⟨"StuckSearch$StateSet", "nth", "(I)I"⟩, prog_6_method_7_code, 5, some (FieldType.int), [])
abbrev m_La_value : q_Me := (⟨"StuckSearchLaw", "value", "(LStuckSearch;II[J)I"⟩, method_7_code, 5, some (FieldType.int), [(0, 10, 13, 27), (0, 10, 17, 22)])
abbrev m_S_value : q_Me := (⟨"StuckSearch", "value", "(II)I"⟩, prog_1_method_14_code, 3, some (FieldType.int), [])
abbrev m_La_move : q_Me := (⟨"StuckSearchLaw", "move", "(LStuckSearch;I[J)I"⟩, method_8_code, 4, some (FieldType.int), [(0, 9, 12, 22)])
abbrev m_S_move : q_Me := (⟨"StuckSearch", "move", "(I)I"⟩, prog_1_method_16_code, 7, some (FieldType.int), [])
abbrev m_Wo_go : q_Me := (⟨"StuckSearch$World", "go", "(LStuckSearch$State;II)V"⟩, prog_9_method_9_code, 5, none, [])
abbrev m_La_now : q_Me := (⟨"StuckSearchLaw", "now", "(LStuckSearch;I[J)I"⟩, method_9_code, 4, some (FieldType.int), [(0, 9, 12, 22)])
abbrev m_S_now : q_Me := (⟨"StuckSearch", "now", "(I)I"⟩, prog_1_method_18_code, 2, some (FieldType.int), [])
abbrev m_La_has : q_Me := (⟨"StuckSearchLaw", "has", "(LStuckSearch;I[J)I"⟩, method_10_code, 4, some (FieldType.int), [(0, 9, 12, 22)])
abbrev m_S_has : q_Me := (⟨"StuckSearch", "has", "(I)I"⟩, prog_1_method_19_code, 2, some (FieldType.int), [])
abbrev m_La_falls : q_Me := (⟨"StuckSearchLaw", "falls", "(LStuckSearch;[J)I"⟩, method_11_code, 3, some (FieldType.int), [(0, 15, 18, 27)])
abbrev m_S_falls : q_Me := (⟨"StuckSearch", "falls", "()Z"⟩, prog_1_method_20_code, 1, some (FieldType.boolean), [])
abbrev m_Se_findFalling : q_Me := (⟨"StuckSearch$Search", "findFalling", "()V"⟩, prog_4_method_4_code, 3, none, [])
abbrev m_Ss_copyFrom : q_Me := (⟨"StuckSearch$StateSet", "copyFrom", "(LStuckSearch$StateSet;)V"⟩, prog_6_method_3_code, 2, none, [])
abbrev m_Se_lookBack : q_Me := (⟨"StuckSearch$Search", "lookBack", "(I)V"⟩, prog_4_method_10_code, 4, none, [])
abbrev m_Se_undoAct : q_Me := (⟨"StuckSearch$Search", "undoAct", "(III)V"⟩, prog_4_method_11_code, 9, none, [])
abbrev m_Se_undoStep : q_Me := (⟨"StuckSearch$Search", "undoStep", "(III)V"⟩, prog_4_method_12_code, 6, none, [])
abbrev m_Se_fall : q_Me := (⟨"StuckSearch$Search", "fall", "(I)V"⟩, prog_4_method_13_code, 2, none, [])
abbrev m_Mo_init : q_Me := (⟨"StuckSearchModel", "<init>", "()V"⟩, prog_11_method_1_code, 1, none, [])
abbrev m_Mo_thrown : q_Me := (⟨"StuckSearchModel", "thrown", "()I"⟩, prog_11_method_2_code, 1, some (FieldType.int), [])
abbrev m_Mo_feed : q_Me := (⟨"StuckSearchModel", "feed", "(IJ)I"⟩, prog_11_method_3_code, 5, some (FieldType.int), [])
abbrev m_Mo_wipe : q_Me := (⟨"StuckSearchModel", "wipe", "()I"⟩, prog_11_method_4_code, 2, some (FieldType.int), [])
abbrev m_Mo_variable : q_Me := (⟨"StuckSearchModel", "variable", "(II)I"⟩, prog_11_method_6_code, 3, some (FieldType.int), [])
abbrev m_Mo_begin : q_Me := (⟨"StuckSearchModel", "begin", "()V"⟩, prog_11_method_5_code, 2, none, [])
abbrev m_Mo_clear : q_Me := (⟨"StuckSearchModel", "clear", "()I"⟩, prog_11_method_7_code, 2, some (FieldType.int), [])
abbrev m_Mo_process : q_Me := (⟨"StuckSearchModel", "process", "()I"⟩, prog_11_method_18_code, 3, some (FieldType.int), [])
abbrev m_Mo_beginChoices : q_Me := (⟨"StuckSearchModel", "beginChoices", "()V"⟩, prog_11_method_11_code, 1, none, [])
abbrev m_Mo_beginRow : q_Me := (⟨"StuckSearchModel", "beginRow", "()V"⟩, prog_11_method_10_code, 1, none, [])
abbrev m_Mo_step : q_Me := (⟨"StuckSearchModel", "step", "()V"⟩, prog_11_method_17_code, 2, none, [])
abbrev m_Mo_byteAt : q_Me := (⟨"StuckSearchModel", "byteAt", "(I)I"⟩, prog_11_method_9_code, 2, some (FieldType.int), [])
abbrev m_Mo_fail : q_Me := (⟨"StuckSearchModel", "fail", "(II)V"⟩, prog_11_method_8_code, 3, none, [])
abbrev m_Mo_endRow : q_Me := (⟨"StuckSearchModel", "endRow", "()V"⟩, prog_11_method_12_code, 1, none, [])
abbrev m_Mo_take : q_Me := (⟨"StuckSearchModel", "take", "()V"⟩, prog_11_method_14_code, 1, none, [])
abbrev m_Mo_lead : q_Me := (⟨"StuckSearchModel", "lead", "(II)V"⟩, prog_11_method_13_code, 4, none, [])
abbrev m_Mo_readAct : q_Me := (⟨"StuckSearchModel", "readAct", "()V"⟩, prog_11_method_16_code, 5, none, [])
abbrev m_Mo_act : q_Me := (⟨"StuckSearchModel", "act", "(III)V"⟩, prog_11_method_15_code, 4, none, [])
abbrev m_Mo_fault : q_Me := (⟨"StuckSearchModel", "fault", "()I"⟩, prog_11_method_19_code, 1, some (FieldType.int), [])
abbrev m_Mo_faultAt : q_Me := (⟨"StuckSearchModel", "faultAt", "()I"⟩, prog_11_method_20_code, 1, some (FieldType.int), [])
abbrev m_Mo_told : q_Me := (⟨"StuckSearchModel", "told", "(II)I"⟩, prog_11_method_23_code, 5, some (FieldType.int), [])
abbrev m_Mo_noProcess : q_Me := (⟨"StuckSearchModel", "noProcess", "(I)Z"⟩, prog_11_method_21_code, 2, some (FieldType.boolean), [])
abbrev m_Mo_ones : q_Me := (⟨"StuckSearchModel", "ones", "(I)I"⟩, prog_11_method_22_code, 3, some (FieldType.int), [])
abbrev m_Mo_moves : q_Me := (⟨"StuckSearchModel", "moves", "()I"⟩, prog_11_method_27_code, 1, some (FieldType.int), [])
abbrev m_Mo_fromNow : q_Me := (⟨"StuckSearchModel", "fromNow", "()V"⟩, prog_11_method_26_code, 2, none, [])
abbrev m_Mo_possible : q_Me := (⟨"StuckSearchModel", "possible", "()I"⟩, prog_11_method_25_code, 4, some (FieldType.int), [])
abbrev m_Mo_goes : q_Me := (⟨"StuckSearchModel", "goes", "(II)Z"⟩, prog_11_method_24_code, 6, some (FieldType.boolean), [])
abbrev m_Mo_move : q_Me := (⟨"StuckSearchModel", "move", "(I)I"⟩, prog_11_method_28_code, 6, some (FieldType.int), [])
abbrev m_Mo_restart : q_Me := (⟨"StuckSearchModel", "restart", "()I"⟩, prog_11_method_29_code, 3, some (FieldType.int), [])
abbrev m_Mo_now : q_Me := (⟨"StuckSearchModel", "now", "(I)I"⟩, prog_11_method_30_code, 2, some (FieldType.int), [])
abbrev m_Mo_has : q_Me := (⟨"StuckSearchModel", "has", "(I)I"⟩, prog_11_method_31_code, 2, some (FieldType.int), [])
abbrev m_Mo_product : q_Me := (⟨"StuckSearchModel", "product", "()I"⟩, prog_11_method_32_code, 3, some (FieldType.int), [])
abbrev m_Mo_stuck : q_Me := (⟨"StuckSearchModel", "stuck", "()I"⟩, prog_11_method_37_code, 1, some (FieldType.int), [])
abbrev m_Mo_know : q_Me := (⟨"StuckSearchModel", "know", "()V"⟩, prog_11_method_36_code, 5, none, [])
abbrev m_Mo_number : q_Me := (⟨"StuckSearchModel", "number", "([I)I"⟩, prog_11_method_33_code, 4, some (FieldType.int), [])
abbrev m_Mo_walk : q_Me := (⟨"StuckSearchModel", "walk", "(I)V"⟩, prog_11_method_35_code, 6, none, [])
abbrev m_Mo_apart : q_Me := (⟨"StuckSearchModel", "apart", "(I)V"⟩, prog_11_method_34_code, 4, none, [])
abbrev m_Mo_ended : q_Me := (⟨"StuckSearchModel", "ended", "()I"⟩, prog_11_method_38_code, 1, some (FieldType.int), [])
abbrev m_Mo_place : q_Me := (⟨"StuckSearchModel", "place", "(II)I"⟩, prog_11_method_39_code, 3, some (FieldType.int), [])
abbrev m_Mo_value : q_Me := (⟨"StuckSearchModel", "value", "(II)I"⟩, prog_11_method_40_code, 3, some (FieldType.int), [])
abbrev m_Mo_falls : q_Me := (⟨"StuckSearchModel", "falls", "()Z"⟩, prog_11_method_41_code, 3, some (FieldType.boolean), [])
abbrev m_La_law : q_Me := (⟨"StuckSearchLaw", "law", "([I)Z"⟩, code, 7, some (FieldType.boolean), [])
set_option maxRecDepth 100000 in
theorem i_S_init : Jvm.Cond.instanceMethod m_S_init.1 ∈ q_gw := q_i 25 (by rfl)
set_option maxRecDepth 100000 in
theorem i_Ta_init : Jvm.Cond.instanceMethod m_Ta_init.1 ∈ q_gw := q_i 33 (by rfl)
set_option maxRecDepth 100000 in
theorem i_Wo_init : Jvm.Cond.instanceMethod m_Wo_init.1 ∈ q_gw := q_i 49 (by rfl)
set_option maxRecDepth 100000 in
theorem s_Ar_fillI : Jvm.Cond.static m_Ar_fillI.1 ∈ q_gw := q_i 55 (by rfl)
set_option maxRecDepth 100000 in
theorem i_Co_init : Jvm.Cond.instanceMethod m_Co_init.1 ∈ q_gw := q_i 59 (by rfl)
set_option maxRecDepth 100000 in
theorem i_Re_init : Jvm.Cond.instanceMethod m_Re_init.1 ∈ q_gw := q_i 117 (by rfl)
set_option maxRecDepth 100000 in
theorem i_Pa_init : Jvm.Cond.instanceMethod m_Pa_init.1 ∈ q_gw := q_i 124 (by rfl)
set_option maxRecDepth 100000 in
theorem i_Se_init : Jvm.Cond.instanceMethod m_Se_init.1 ∈ q_gw := q_i 176 (by rfl)
set_option maxRecDepth 100000 in
theorem i_Ss_init : Jvm.Cond.instanceMethod m_Ss_init.1 ∈ q_gw := q_i 182 (by rfl)
set_option maxRecDepth 100000 in
theorem i_St_init : Jvm.Cond.instanceMethod m_St_init.1 ∈ q_gw := q_i 196 (by rfl)
set_option maxRecDepth 100000 in
theorem i_S_wipe : Jvm.Cond.instanceMethod m_S_wipe.1 ∈ q_gw := q_i 274 (by rfl)
set_option maxRecDepth 100000 in
theorem v_S_wipe : Jvm.Cond.selects "StuckSearch" m_S_wipe.1 m_S_wipe.1 ∈ q_gw := q_i 275 (by rfl)
set_option maxRecDepth 100000 in
theorem i_S_process : Jvm.Cond.instanceMethod m_S_process.1 ∈ q_gw := q_i 278 (by rfl)
set_option maxRecDepth 100000 in
theorem v_S_process : Jvm.Cond.selects "StuckSearch" m_S_process.1 m_S_process.1 ∈ q_gw := q_i 279 (by rfl)
set_option maxRecDepth 100000 in
theorem i_Re_read : Jvm.Cond.instanceMethod m_Re_read.1 ∈ q_gw := q_i 283 (by rfl)
set_option maxRecDepth 100000 in
theorem v_Re_read : Jvm.Cond.selects "StuckSearch$TextReader" m_Re_read.1 m_Re_read.1 ∈ q_gw := q_is 0 (by rfl)
set_option maxRecDepth 100000 in
theorem i_Co_reset : Jvm.Cond.instanceMethod m_Co_reset.1 ∈ q_gw := q_i 287 (by rfl)
set_option maxRecDepth 100000 in
theorem v_Co_reset : Jvm.Cond.selects "StuckSearch$Course" m_Co_reset.1 m_Co_reset.1 ∈ q_gw := q_is 1 (by rfl)
set_option maxRecDepth 100000 in
theorem i_Re_beginText : Jvm.Cond.instanceMethod m_Re_beginText.1 ∈ q_gw := q_i 292 (by rfl)
set_option maxRecDepth 100000 in
theorem v_Re_beginText : Jvm.Cond.selects "StuckSearch$TextReader" m_Re_beginText.1 m_Re_beginText.1 ∈ q_gw := q_is 2 (by rfl)
set_option maxRecDepth 100000 in
theorem i_Pa_set : Jvm.Cond.instanceMethod m_Pa_set.1 ∈ q_gw := q_i 296 (by rfl)
set_option maxRecDepth 100000 in
theorem v_Pa_set : Jvm.Cond.selects "StuckSearch$Part" m_Pa_set.1 m_Pa_set.1 ∈ q_gw := q_is 3 (by rfl)
set_option maxRecDepth 100000 in
theorem i_Re_readNext : Jvm.Cond.instanceMethod m_Re_readNext.1 ∈ q_gw := q_i 300 (by rfl)
set_option maxRecDepth 100000 in
theorem v_Re_readNext : Jvm.Cond.selects "StuckSearch$TextReader" m_Re_readNext.1 m_Re_readNext.1 ∈ q_gw := q_is 4 (by rfl)
set_option maxRecDepth 100000 in
theorem i_Ta_byteAt : Jvm.Cond.instanceMethod m_Ta_byteAt.1 ∈ q_gw := q_i 304 (by rfl)
set_option maxRecDepth 100000 in
theorem v_Ta_byteAt : Jvm.Cond.selects "StuckSearch$Tape" m_Ta_byteAt.1 m_Ta_byteAt.1 ∈ q_gw := q_is 5 (by rfl)
set_option maxRecDepth 100000 in
theorem i_Re_endChoice : Jvm.Cond.instanceMethod m_Re_endChoice.1 ∈ q_gw := q_i 308 (by rfl)
set_option maxRecDepth 100000 in
theorem v_Re_endChoice : Jvm.Cond.selects "StuckSearch$TextReader" m_Re_endChoice.1 m_Re_endChoice.1 ∈ q_gw := q_is 6 (by rfl)
set_option maxRecDepth 100000 in
theorem i_Pa_addChoice : Jvm.Cond.instanceMethod m_Pa_addChoice.1 ∈ q_gw := q_i 312 (by rfl)
set_option maxRecDepth 100000 in
theorem v_Pa_addChoice : Jvm.Cond.selects "StuckSearch$Part" m_Pa_addChoice.1 m_Pa_addChoice.1 ∈ q_gw := q_is 7 (by rfl)
set_option maxRecDepth 100000 in
theorem i_Re_openText : Jvm.Cond.instanceMethod m_Re_openText.1 ∈ q_gw := q_i 316 (by rfl)
set_option maxRecDepth 100000 in
theorem v_Re_openText : Jvm.Cond.selects "StuckSearch$TextReader" m_Re_openText.1 m_Re_openText.1 ∈ q_gw := q_is 8 (by rfl)
set_option maxRecDepth 100000 in
theorem i_Re_meetFault : Jvm.Cond.instanceMethod m_Re_meetFault.1 ∈ q_gw := q_i 320 (by rfl)
set_option maxRecDepth 100000 in
theorem v_Re_meetFault : Jvm.Cond.selects "StuckSearch$TextReader" m_Re_meetFault.1 m_Re_meetFault.1 ∈ q_gw := q_is 9 (by rfl)
set_option maxRecDepth 100000 in
theorem i_Re_closeText : Jvm.Cond.instanceMethod m_Re_closeText.1 ∈ q_gw := q_i 324 (by rfl)
set_option maxRecDepth 100000 in
theorem v_Re_closeText : Jvm.Cond.selects "StuckSearch$TextReader" m_Re_closeText.1 m_Re_closeText.1 ∈ q_gw := q_is 10 (by rfl)
set_option maxRecDepth 100000 in
theorem i_Re_addThing : Jvm.Cond.instanceMethod m_Re_addThing.1 ∈ q_gw := q_i 328 (by rfl)
set_option maxRecDepth 100000 in
theorem v_Re_addThing : Jvm.Cond.selects "StuckSearch$TextReader" m_Re_addThing.1 m_Re_addThing.1 ∈ q_gw := q_is 11 (by rfl)
set_option maxRecDepth 100000 in
theorem i_Co_addSteps : Jvm.Cond.instanceMethod m_Co_addSteps.1 ∈ q_gw := q_i 332 (by rfl)
set_option maxRecDepth 100000 in
theorem v_Co_addSteps : Jvm.Cond.selects "StuckSearch$Course" m_Co_addSteps.1 m_Co_addSteps.1 ∈ q_gw := q_is 12 (by rfl)
set_option maxRecDepth 100000 in
theorem i_Pa_addBehind : Jvm.Cond.instanceMethod m_Pa_addBehind.1 ∈ q_gw := q_i 336 (by rfl)
set_option maxRecDepth 100000 in
theorem v_Pa_addBehind : Jvm.Cond.selects "StuckSearch$Part" m_Pa_addBehind.1 m_Pa_addBehind.1 ∈ q_gw := q_is 13 (by rfl)
set_option maxRecDepth 100000 in
theorem i_Re_readAct : Jvm.Cond.instanceMethod m_Re_readAct.1 ∈ q_gw := q_i 340 (by rfl)
set_option maxRecDepth 100000 in
theorem v_Re_readAct : Jvm.Cond.selects "StuckSearch$TextReader" m_Re_readAct.1 m_Re_readAct.1 ∈ q_gw := q_is 14 (by rfl)
set_option maxRecDepth 100000 in
theorem i_Co_isFull : Jvm.Cond.instanceMethod m_Co_isFull.1 ∈ q_gw := q_i 344 (by rfl)
set_option maxRecDepth 100000 in
theorem v_Co_isFull : Jvm.Cond.selects "StuckSearch$Course" m_Co_isFull.1 m_Co_isFull.1 ∈ q_gw := q_is 15 (by rfl)
set_option maxRecDepth 100000 in
theorem i_Re_readKind : Jvm.Cond.instanceMethod m_Re_readKind.1 ∈ q_gw := q_i 348 (by rfl)
set_option maxRecDepth 100000 in
theorem v_Re_readKind : Jvm.Cond.selects "StuckSearch$TextReader" m_Re_readKind.1 m_Re_readKind.1 ∈ q_gw := q_is 16 (by rfl)
set_option maxRecDepth 100000 in
theorem s_Re_takesFigure : Jvm.Cond.static m_Re_takesFigure.1 ∈ q_gw := q_i 351 (by rfl)
set_option maxRecDepth 100000 in
theorem i_Re_readFigure : Jvm.Cond.instanceMethod m_Re_readFigure.1 ∈ q_gw := q_i 355 (by rfl)
set_option maxRecDepth 100000 in
theorem v_Re_readFigure : Jvm.Cond.selects "StuckSearch$TextReader" m_Re_readFigure.1 m_Re_readFigure.1 ∈ q_gw := q_is 17 (by rfl)
set_option maxRecDepth 100000 in
theorem i_Co_addAct : Jvm.Cond.instanceMethod m_Co_addAct.1 ∈ q_gw := q_i 359 (by rfl)
set_option maxRecDepth 100000 in
theorem v_Co_addAct : Jvm.Cond.selects "StuckSearch$Course" m_Co_addAct.1 m_Co_addAct.1 ∈ q_gw := q_is 18 (by rfl)
set_option maxRecDepth 100000 in
theorem i_Co_finish : Jvm.Cond.instanceMethod m_Co_finish.1 ∈ q_gw := q_i 363 (by rfl)
set_option maxRecDepth 100000 in
theorem v_Co_finish : Jvm.Cond.selects "StuckSearch$Course" m_Co_finish.1 m_Co_finish.1 ∈ q_gw := q_is 19 (by rfl)
set_option maxRecDepth 100000 in
theorem i_S_beginAnew : Jvm.Cond.instanceMethod m_S_beginAnew.1 ∈ q_gw := q_i 367 (by rfl)
set_option maxRecDepth 100000 in
theorem v_S_beginAnew : Jvm.Cond.selects "StuckSearch" m_S_beginAnew.1 m_S_beginAnew.1 ∈ q_gw := q_is 20 (by rfl)
set_option maxRecDepth 100000 in
theorem i_Se_forget : Jvm.Cond.instanceMethod m_Se_forget.1 ∈ q_gw := q_i 371 (by rfl)
set_option maxRecDepth 100000 in
theorem v_Se_forget : Jvm.Cond.selects "StuckSearch$Search" m_Se_forget.1 m_Se_forget.1 ∈ q_gw := q_is 21 (by rfl)
set_option maxRecDepth 100000 in
theorem i_S_returnToFirst : Jvm.Cond.instanceMethod m_S_returnToFirst.1 ∈ q_gw := q_i 375 (by rfl)
set_option maxRecDepth 100000 in
theorem v_S_returnToFirst : Jvm.Cond.selects "StuckSearch" m_S_returnToFirst.1 m_S_returnToFirst.1 ∈ q_gw := q_is 22 (by rfl)
set_option maxRecDepth 100000 in
theorem i_Wo_putFirst : Jvm.Cond.instanceMethod m_Wo_putFirst.1 ∈ q_gw := q_i 379 (by rfl)
set_option maxRecDepth 100000 in
theorem v_Wo_putFirst : Jvm.Cond.selects "StuckSearch$World" m_Wo_putFirst.1 m_Wo_putFirst.1 ∈ q_gw := q_is 23 (by rfl)
set_option maxRecDepth 100000 in
theorem i_S_fault : Jvm.Cond.instanceMethod m_S_fault.1 ∈ q_gw := q_i 382 (by rfl)
set_option maxRecDepth 100000 in
theorem v_S_fault : Jvm.Cond.selects "StuckSearch" m_S_fault.1 m_S_fault.1 ∈ q_gw := q_i 383 (by rfl)
set_option maxRecDepth 100000 in
theorem i_S_faultAt : Jvm.Cond.instanceMethod m_S_faultAt.1 ∈ q_gw := q_i 386 (by rfl)
set_option maxRecDepth 100000 in
theorem v_S_faultAt : Jvm.Cond.selects "StuckSearch" m_S_faultAt.1 m_S_faultAt.1 ∈ q_gw := q_i 387 (by rfl)
set_option maxRecDepth 100000 in
theorem i_S_clear : Jvm.Cond.instanceMethod m_S_clear.1 ∈ q_gw := q_i 390 (by rfl)
set_option maxRecDepth 100000 in
theorem v_S_clear : Jvm.Cond.selects "StuckSearch" m_S_clear.1 m_S_clear.1 ∈ q_gw := q_i 391 (by rfl)
set_option maxRecDepth 100000 in
theorem i_Wo_removeAll : Jvm.Cond.instanceMethod m_Wo_removeAll.1 ∈ q_gw := q_i 395 (by rfl)
set_option maxRecDepth 100000 in
theorem v_Wo_removeAll : Jvm.Cond.selects "StuckSearch$World" m_Wo_removeAll.1 m_Wo_removeAll.1 ∈ q_gw := q_is 24 (by rfl)
set_option maxRecDepth 100000 in
theorem i_S_product : Jvm.Cond.instanceMethod m_S_product.1 ∈ q_gw := q_i 398 (by rfl)
set_option maxRecDepth 100000 in
theorem v_S_product : Jvm.Cond.selects "StuckSearch" m_S_product.1 m_S_product.1 ∈ q_gw := q_i 399 (by rfl)
set_option maxRecDepth 100000 in
theorem i_Wo_isSearchable : Jvm.Cond.instanceMethod m_Wo_isSearchable.1 ∈ q_gw := q_i 403 (by rfl)
set_option maxRecDepth 100000 in
theorem v_Wo_isSearchable : Jvm.Cond.selects "StuckSearch$World" m_Wo_isSearchable.1 m_Wo_isSearchable.1 ∈ q_gw := q_is 25 (by rfl)
set_option maxRecDepth 100000 in
theorem i_Wo_countStates : Jvm.Cond.instanceMethod m_Wo_countStates.1 ∈ q_gw := q_i 407 (by rfl)
set_option maxRecDepth 100000 in
theorem v_Wo_countStates : Jvm.Cond.selects "StuckSearch$World" m_Wo_countStates.1 m_Wo_countStates.1 ∈ q_gw := q_is 26 (by rfl)
set_option maxRecDepth 100000 in
theorem i_S_stuck : Jvm.Cond.instanceMethod m_S_stuck.1 ∈ q_gw := q_i 412 (by rfl)
set_option maxRecDepth 100000 in
theorem v_S_stuck : Jvm.Cond.selects "StuckSearch" m_S_stuck.1 m_S_stuck.1 ∈ q_gw := q_i 413 (by rfl)
set_option maxRecDepth 100000 in
theorem i_Se_findStanding : Jvm.Cond.instanceMethod m_Se_findStanding.1 ∈ q_gw := q_i 417 (by rfl)
set_option maxRecDepth 100000 in
theorem v_Se_findStanding : Jvm.Cond.selects "StuckSearch$Search" m_Se_findStanding.1 m_Se_findStanding.1 ∈ q_gw := q_is 27 (by rfl)
set_option maxRecDepth 100000 in
theorem i_Se_weigh : Jvm.Cond.instanceMethod m_Se_weigh.1 ∈ q_gw := q_i 421 (by rfl)
set_option maxRecDepth 100000 in
theorem v_Se_weigh : Jvm.Cond.selects "StuckSearch$Search" m_Se_weigh.1 m_Se_weigh.1 ∈ q_gw := q_is 28 (by rfl)
set_option maxRecDepth 100000 in
theorem i_Ss_empty : Jvm.Cond.instanceMethod m_Ss_empty.1 ∈ q_gw := q_i 425 (by rfl)
set_option maxRecDepth 100000 in
theorem v_Ss_empty : Jvm.Cond.selects "StuckSearch$StateSet" m_Ss_empty.1 m_Ss_empty.1 ∈ q_gw := q_is 29 (by rfl)
set_option maxRecDepth 100000 in
theorem s_Ar_fillJ : Jvm.Cond.static m_Ar_fillJ.1 ∈ q_gw := q_i 428 (by rfl)
set_option maxRecDepth 100000 in
theorem i_Wo_numberOf : Jvm.Cond.instanceMethod m_Wo_numberOf.1 ∈ q_gw := q_i 433 (by rfl)
set_option maxRecDepth 100000 in
theorem v_Wo_numberOf : Jvm.Cond.selects "StuckSearch$World" m_Wo_numberOf.1 m_Wo_numberOf.1 ∈ q_gw := q_is 30 (by rfl)
set_option maxRecDepth 100000 in
theorem i_Se_reach : Jvm.Cond.instanceMethod m_Se_reach.1 ∈ q_gw := q_i 437 (by rfl)
set_option maxRecDepth 100000 in
theorem v_Se_reach : Jvm.Cond.selects "StuckSearch$Search" m_Se_reach.1 m_Se_reach.1 ∈ q_gw := q_is 31 (by rfl)
set_option maxRecDepth 100000 in
theorem i_Ss_contains : Jvm.Cond.instanceMethod m_Ss_contains.1 ∈ q_gw := q_i 441 (by rfl)
set_option maxRecDepth 100000 in
theorem v_Ss_contains : Jvm.Cond.selects "StuckSearch$StateSet" m_Ss_contains.1 m_Ss_contains.1 ∈ q_gw := q_is 32 (by rfl)
set_option maxRecDepth 100000 in
theorem i_Ss_add : Jvm.Cond.instanceMethod m_Ss_add.1 ∈ q_gw := q_i 445 (by rfl)
set_option maxRecDepth 100000 in
theorem v_Ss_add : Jvm.Cond.selects "StuckSearch$StateSet" m_Ss_add.1 m_Ss_add.1 ∈ q_gw := q_is 33 (by rfl)
set_option maxRecDepth 100000 in
theorem i_Ss_takeLowest : Jvm.Cond.instanceMethod m_Ss_takeLowest.1 ∈ q_gw := q_i 449 (by rfl)
set_option maxRecDepth 100000 in
theorem v_Ss_takeLowest : Jvm.Cond.selects "StuckSearch$StateSet" m_Ss_takeLowest.1 m_Ss_takeLowest.1 ∈ q_gw := q_is 34 (by rfl)
set_option maxRecDepth 100000 in
theorem s_S_nthBit : Jvm.Cond.static m_S_nthBit.1 ∈ q_gw := q_i 452 (by rfl)
set_option maxRecDepth 100000 in
theorem s_Lo_bitCount : Jvm.Cond.static m_Lo_bitCount.1 ∈ q_gw := q_i 455 (by rfl)
set_option maxRecDepth 100000 in
theorem i_Se_lookAhead : Jvm.Cond.instanceMethod m_Se_lookAhead.1 ∈ q_gw := q_i 462 (by rfl)
set_option maxRecDepth 100000 in
theorem v_Se_lookAhead : Jvm.Cond.selects "StuckSearch$Search" m_Se_lookAhead.1 m_Se_lookAhead.1 ∈ q_gw := q_is 35 (by rfl)
set_option maxRecDepth 100000 in
theorem i_Wo_putNumbered : Jvm.Cond.instanceMethod m_Wo_putNumbered.1 ∈ q_gw := q_i 466 (by rfl)
set_option maxRecDepth 100000 in
theorem v_Wo_putNumbered : Jvm.Cond.selects "StuckSearch$World" m_Wo_putNumbered.1 m_Wo_putNumbered.1 ∈ q_gw := q_is 36 (by rfl)
set_option maxRecDepth 100000 in
theorem s_Ma_max : Jvm.Cond.static m_Ma_max.1 ∈ q_gw := q_i 469 (by rfl)
set_option maxRecDepth 100000 in
theorem i_Wo_openPlaces : Jvm.Cond.instanceMethod m_Wo_openPlaces.1 ∈ q_gw := q_i 473 (by rfl)
set_option maxRecDepth 100000 in
theorem v_Wo_openPlaces : Jvm.Cond.selects "StuckSearch$World" m_Wo_openPlaces.1 m_Wo_openPlaces.1 ∈ q_gw := q_is 37 (by rfl)
set_option maxRecDepth 100000 in
theorem i_Wo_outcome : Jvm.Cond.instanceMethod m_Wo_outcome.1 ∈ q_gw := q_i 477 (by rfl)
set_option maxRecDepth 100000 in
theorem v_Wo_outcome : Jvm.Cond.selects "StuckSearch$World" m_Wo_outcome.1 m_Wo_outcome.1 ∈ q_gw := q_is 38 (by rfl)
set_option maxRecDepth 100000 in
theorem i_Co_outcome : Jvm.Cond.instanceMethod m_Co_outcome.1 ∈ q_gw := q_i 481 (by rfl)
set_option maxRecDepth 100000 in
theorem v_Co_outcome : Jvm.Cond.selects "StuckSearch$Course" m_Co_outcome.1 m_Co_outcome.1 ∈ q_gw := q_is 39 (by rfl)
set_option maxRecDepth 100000 in
theorem i_Se_reachAll : Jvm.Cond.instanceMethod m_Se_reachAll.1 ∈ q_gw := q_i 485 (by rfl)
set_option maxRecDepth 100000 in
theorem v_Se_reachAll : Jvm.Cond.selects "StuckSearch$Search" m_Se_reachAll.1 m_Se_reachAll.1 ∈ q_gw := q_is 40 (by rfl)
set_option maxRecDepth 100000 in
theorem i_Wo_allAtEnds : Jvm.Cond.instanceMethod m_Wo_allAtEnds.1 ∈ q_gw := q_i 490 (by rfl)
set_option maxRecDepth 100000 in
theorem v_Wo_allAtEnds : Jvm.Cond.selects "StuckSearch$World" m_Wo_allAtEnds.1 m_Wo_allAtEnds.1 ∈ q_gw := q_is 41 (by rfl)
set_option maxRecDepth 100000 in
theorem i_Co_isEnd : Jvm.Cond.instanceMethod m_Co_isEnd.1 ∈ q_gw := q_i 494 (by rfl)
set_option maxRecDepth 100000 in
theorem v_Co_isEnd : Jvm.Cond.selects "StuckSearch$Course" m_Co_isEnd.1 m_Co_isEnd.1 ∈ q_gw := q_is 42 (by rfl)
set_option maxRecDepth 100000 in
theorem i_S_ended : Jvm.Cond.instanceMethod m_S_ended.1 ∈ q_gw := q_i 497 (by rfl)
set_option maxRecDepth 100000 in
theorem v_S_ended : Jvm.Cond.selects "StuckSearch" m_S_ended.1 m_S_ended.1 ∈ q_gw := q_i 498 (by rfl)
set_option maxRecDepth 100000 in
theorem i_S_moves : Jvm.Cond.instanceMethod m_S_moves.1 ∈ q_gw := q_i 501 (by rfl)
set_option maxRecDepth 100000 in
theorem v_S_moves : Jvm.Cond.selects "StuckSearch" m_S_moves.1 m_S_moves.1 ∈ q_gw := q_i 502 (by rfl)
set_option maxRecDepth 100000 in
theorem s_In_bitCount : Jvm.Cond.static m_In_bitCount.1 ∈ q_gw := q_i 506 (by rfl)
set_option maxRecDepth 100000 in
theorem i_S_restart : Jvm.Cond.instanceMethod m_S_restart.1 ∈ q_gw := q_i 512 (by rfl)
set_option maxRecDepth 100000 in
theorem v_S_restart : Jvm.Cond.selects "StuckSearch" m_S_restart.1 m_S_restart.1 ∈ q_gw := q_i 513 (by rfl)
set_option maxRecDepth 100000 in
theorem s_La_feed : Jvm.Cond.static m_La_feed.1 ∈ q_gw := q_i 516 (by rfl)
set_option maxRecDepth 100000 in
theorem i_S_feed : Jvm.Cond.instanceMethod m_S_feed.1 ∈ q_gw := q_i 520 (by rfl)
set_option maxRecDepth 100000 in
theorem v_S_feed : Jvm.Cond.selects "StuckSearch" m_S_feed.1 m_S_feed.1 ∈ q_gw := q_i 521 (by rfl)
set_option maxRecDepth 100000 in
theorem i_Ta_append : Jvm.Cond.instanceMethod m_Ta_append.1 ∈ q_gw := q_i 592 (by rfl)
set_option maxRecDepth 100000 in
theorem v_Ta_append : Jvm.Cond.selects "StuckSearch$Tape" m_Ta_append.1 m_Ta_append.1 ∈ q_gw := q_is 44 (by rfl)
set_option maxRecDepth 100000 in
theorem s_La_variable : Jvm.Cond.static m_La_variable.1 ∈ q_gw := q_i 595 (by rfl)
set_option maxRecDepth 100000 in
theorem i_S_variable : Jvm.Cond.instanceMethod m_S_variable.1 ∈ q_gw := q_i 598 (by rfl)
set_option maxRecDepth 100000 in
theorem v_S_variable : Jvm.Cond.selects "StuckSearch" m_S_variable.1 m_S_variable.1 ∈ q_gw := q_i 599 (by rfl)
set_option maxRecDepth 100000 in
theorem i_Wo_addVariable : Jvm.Cond.instanceMethod m_Wo_addVariable.1 ∈ q_gw := q_i 604 (by rfl)
set_option maxRecDepth 100000 in
theorem v_Wo_addVariable : Jvm.Cond.selects "StuckSearch$World" m_Wo_addVariable.1 m_Wo_addVariable.1 ∈ q_gw := q_is 45 (by rfl)
set_option maxRecDepth 100000 in
theorem s_La_told : Jvm.Cond.static m_La_told.1 ∈ q_gw := q_i 607 (by rfl)
set_option maxRecDepth 100000 in
theorem i_S_told : Jvm.Cond.instanceMethod m_S_told.1 ∈ q_gw := q_i 611 (by rfl)
set_option maxRecDepth 100000 in
theorem v_S_told : Jvm.Cond.selects "StuckSearch" m_S_told.1 m_S_told.1 ∈ q_gw := q_i 612 (by rfl)
set_option maxRecDepth 100000 in
theorem s_S_checkIndex : Jvm.Cond.static m_S_checkIndex.1 ∈ q_gw := q_i 615 (by rfl)
set_option maxRecDepth 100000 in
theorem i_Co_countSteps : Jvm.Cond.instanceMethod m_Co_countSteps.1 ∈ q_gw := q_i 635 (by rfl)
set_option maxRecDepth 100000 in
theorem v_Co_countSteps : Jvm.Cond.selects "StuckSearch$Course" m_Co_countSteps.1 m_Co_countSteps.1 ∈ q_gw := q_is 46 (by rfl)
set_option maxRecDepth 100000 in
theorem s_La_place : Jvm.Cond.static m_La_place.1 ∈ q_gw := q_i 640 (by rfl)
set_option maxRecDepth 100000 in
theorem i_S_place : Jvm.Cond.instanceMethod m_S_place.1 ∈ q_gw := q_i 644 (by rfl)
set_option maxRecDepth 100000 in
theorem v_S_place : Jvm.Cond.selects "StuckSearch" m_S_place.1 m_S_place.1 ∈ q_gw := q_i 645 (by rfl)
set_option maxRecDepth 100000 in
theorem i_S_checkSearchable : Jvm.Cond.instanceMethod m_S_checkSearchable.1 ∈ q_gw := q_i 649 (by rfl)
set_option maxRecDepth 100000 in
theorem v_S_checkSearchable : Jvm.Cond.selects "StuckSearch" m_S_checkSearchable.1 m_S_checkSearchable.1 ∈ q_gw := q_is 47 (by rfl)
set_option maxRecDepth 100000 in
theorem i_Se_standingState : Jvm.Cond.instanceMethod m_Se_standingState.1 ∈ q_gw := q_i 669 (by rfl)
set_option maxRecDepth 100000 in
theorem v_Se_standingState : Jvm.Cond.selects "StuckSearch$Search" m_Se_standingState.1 m_Se_standingState.1 ∈ q_gw := q_is 48 (by rfl)
set_option maxRecDepth 100000 in
theorem i_Ss_nth : Jvm.Cond.instanceMethod m_Ss_nth.1 ∈ q_gw := q_i 673 (by rfl)
set_option maxRecDepth 100000 in
theorem v_Ss_nth : Jvm.Cond.selects "StuckSearch$StateSet" m_Ss_nth.1 m_Ss_nth.1 ∈ q_gw := q_is 49 (by rfl)
set_option maxRecDepth 100000 in
theorem s_La_value : Jvm.Cond.static m_La_value.1 ∈ q_gw := q_i 677 (by rfl)
set_option maxRecDepth 100000 in
theorem i_S_value : Jvm.Cond.instanceMethod m_S_value.1 ∈ q_gw := q_i 680 (by rfl)
set_option maxRecDepth 100000 in
theorem v_S_value : Jvm.Cond.selects "StuckSearch" m_S_value.1 m_S_value.1 ∈ q_gw := q_i 681 (by rfl)
set_option maxRecDepth 100000 in
theorem s_La_move : Jvm.Cond.static m_La_move.1 ∈ q_gw := q_i 684 (by rfl)
set_option maxRecDepth 100000 in
theorem i_S_move : Jvm.Cond.instanceMethod m_S_move.1 ∈ q_gw := q_i 687 (by rfl)
set_option maxRecDepth 100000 in
theorem v_S_move : Jvm.Cond.selects "StuckSearch" m_S_move.1 m_S_move.1 ∈ q_gw := q_i 688 (by rfl)
set_option maxRecDepth 100000 in
theorem i_Wo_go : Jvm.Cond.instanceMethod m_Wo_go.1 ∈ q_gw := q_i 693 (by rfl)
set_option maxRecDepth 100000 in
theorem v_Wo_go : Jvm.Cond.selects "StuckSearch$World" m_Wo_go.1 m_Wo_go.1 ∈ q_gw := q_is 50 (by rfl)
set_option maxRecDepth 100000 in
theorem s_La_now : Jvm.Cond.static m_La_now.1 ∈ q_gw := q_i 697 (by rfl)
set_option maxRecDepth 100000 in
theorem i_S_now : Jvm.Cond.instanceMethod m_S_now.1 ∈ q_gw := q_i 700 (by rfl)
set_option maxRecDepth 100000 in
theorem v_S_now : Jvm.Cond.selects "StuckSearch" m_S_now.1 m_S_now.1 ∈ q_gw := q_i 701 (by rfl)
set_option maxRecDepth 100000 in
theorem s_La_has : Jvm.Cond.static m_La_has.1 ∈ q_gw := q_i 704 (by rfl)
set_option maxRecDepth 100000 in
theorem i_S_has : Jvm.Cond.instanceMethod m_S_has.1 ∈ q_gw := q_i 707 (by rfl)
set_option maxRecDepth 100000 in
theorem v_S_has : Jvm.Cond.selects "StuckSearch" m_S_has.1 m_S_has.1 ∈ q_gw := q_i 708 (by rfl)
set_option maxRecDepth 100000 in
theorem s_La_falls : Jvm.Cond.static m_La_falls.1 ∈ q_gw := q_i 711 (by rfl)
set_option maxRecDepth 100000 in
theorem i_S_falls : Jvm.Cond.instanceMethod m_S_falls.1 ∈ q_gw := q_i 714 (by rfl)
set_option maxRecDepth 100000 in
theorem v_S_falls : Jvm.Cond.selects "StuckSearch" m_S_falls.1 m_S_falls.1 ∈ q_gw := q_i 715 (by rfl)
set_option maxRecDepth 100000 in
theorem i_Se_findFalling : Jvm.Cond.instanceMethod m_Se_findFalling.1 ∈ q_gw := q_i 719 (by rfl)
set_option maxRecDepth 100000 in
theorem v_Se_findFalling : Jvm.Cond.selects "StuckSearch$Search" m_Se_findFalling.1 m_Se_findFalling.1 ∈ q_gw := q_is 51 (by rfl)
set_option maxRecDepth 100000 in
theorem i_Ss_copyFrom : Jvm.Cond.instanceMethod m_Ss_copyFrom.1 ∈ q_gw := q_i 724 (by rfl)
set_option maxRecDepth 100000 in
theorem v_Ss_copyFrom : Jvm.Cond.selects "StuckSearch$StateSet" m_Ss_copyFrom.1 m_Ss_copyFrom.1 ∈ q_gw := q_is 52 (by rfl)
set_option maxRecDepth 100000 in
theorem i_Se_lookBack : Jvm.Cond.instanceMethod m_Se_lookBack.1 ∈ q_gw := q_i 731 (by rfl)
set_option maxRecDepth 100000 in
theorem v_Se_lookBack : Jvm.Cond.selects "StuckSearch$Search" m_Se_lookBack.1 m_Se_lookBack.1 ∈ q_gw := q_is 53 (by rfl)
set_option maxRecDepth 100000 in
theorem i_Se_undoAct : Jvm.Cond.instanceMethod m_Se_undoAct.1 ∈ q_gw := q_i 735 (by rfl)
set_option maxRecDepth 100000 in
theorem v_Se_undoAct : Jvm.Cond.selects "StuckSearch$Search" m_Se_undoAct.1 m_Se_undoAct.1 ∈ q_gw := q_is 54 (by rfl)
set_option maxRecDepth 100000 in
theorem i_Se_undoStep : Jvm.Cond.instanceMethod m_Se_undoStep.1 ∈ q_gw := q_i 740 (by rfl)
set_option maxRecDepth 100000 in
theorem v_Se_undoStep : Jvm.Cond.selects "StuckSearch$Search" m_Se_undoStep.1 m_Se_undoStep.1 ∈ q_gw := q_is 55 (by rfl)
set_option maxRecDepth 100000 in
theorem i_Se_fall : Jvm.Cond.instanceMethod m_Se_fall.1 ∈ q_gw := q_i 744 (by rfl)
set_option maxRecDepth 100000 in
theorem v_Se_fall : Jvm.Cond.selects "StuckSearch$Search" m_Se_fall.1 m_Se_fall.1 ∈ q_gw := q_is 56 (by rfl)
set_option maxRecDepth 100000 in
theorem i_Mo_init : Jvm.Cond.instanceMethod m_Mo_init.1 ∈ q_gw := q_i 751 (by rfl)
set_option maxRecDepth 100000 in
theorem i_Mo_thrown : Jvm.Cond.instanceMethod m_Mo_thrown.1 ∈ q_gw := q_i 880 (by rfl)
set_option maxRecDepth 100000 in
theorem v_Mo_thrown : Jvm.Cond.selects "StuckSearchModel" m_Mo_thrown.1 m_Mo_thrown.1 ∈ q_gw := q_i 881 (by rfl)
set_option maxRecDepth 100000 in
theorem i_Mo_feed : Jvm.Cond.instanceMethod m_Mo_feed.1 ∈ q_gw := q_i 884 (by rfl)
set_option maxRecDepth 100000 in
theorem v_Mo_feed : Jvm.Cond.selects "StuckSearchModel" m_Mo_feed.1 m_Mo_feed.1 ∈ q_gw := q_i 885 (by rfl)
set_option maxRecDepth 100000 in
theorem i_Mo_wipe : Jvm.Cond.instanceMethod m_Mo_wipe.1 ∈ q_gw := q_i 889 (by rfl)
set_option maxRecDepth 100000 in
theorem v_Mo_wipe : Jvm.Cond.selects "StuckSearchModel" m_Mo_wipe.1 m_Mo_wipe.1 ∈ q_gw := q_i 890 (by rfl)
set_option maxRecDepth 100000 in
theorem i_Mo_variable : Jvm.Cond.instanceMethod m_Mo_variable.1 ∈ q_gw := q_i 893 (by rfl)
set_option maxRecDepth 100000 in
theorem v_Mo_variable : Jvm.Cond.selects "StuckSearchModel" m_Mo_variable.1 m_Mo_variable.1 ∈ q_gw := q_i 894 (by rfl)
set_option maxRecDepth 100000 in
theorem i_Mo_begin : Jvm.Cond.instanceMethod m_Mo_begin.1 ∈ q_gw := q_i 898 (by rfl)
set_option maxRecDepth 100000 in
theorem v_Mo_begin : Jvm.Cond.selects "StuckSearchModel" m_Mo_begin.1 m_Mo_begin.1 ∈ q_gw := q_is 57 (by rfl)
set_option maxRecDepth 100000 in
theorem i_Mo_clear : Jvm.Cond.instanceMethod m_Mo_clear.1 ∈ q_gw := q_i 901 (by rfl)
set_option maxRecDepth 100000 in
theorem v_Mo_clear : Jvm.Cond.selects "StuckSearchModel" m_Mo_clear.1 m_Mo_clear.1 ∈ q_gw := q_i 902 (by rfl)
set_option maxRecDepth 100000 in
theorem i_Mo_process : Jvm.Cond.instanceMethod m_Mo_process.1 ∈ q_gw := q_i 905 (by rfl)
set_option maxRecDepth 100000 in
theorem v_Mo_process : Jvm.Cond.selects "StuckSearchModel" m_Mo_process.1 m_Mo_process.1 ∈ q_gw := q_i 906 (by rfl)
set_option maxRecDepth 100000 in
theorem i_Mo_beginChoices : Jvm.Cond.instanceMethod m_Mo_beginChoices.1 ∈ q_gw := q_i 910 (by rfl)
set_option maxRecDepth 100000 in
theorem v_Mo_beginChoices : Jvm.Cond.selects "StuckSearchModel" m_Mo_beginChoices.1 m_Mo_beginChoices.1 ∈ q_gw := q_is 58 (by rfl)
set_option maxRecDepth 100000 in
theorem i_Mo_beginRow : Jvm.Cond.instanceMethod m_Mo_beginRow.1 ∈ q_gw := q_i 914 (by rfl)
set_option maxRecDepth 100000 in
theorem v_Mo_beginRow : Jvm.Cond.selects "StuckSearchModel" m_Mo_beginRow.1 m_Mo_beginRow.1 ∈ q_gw := q_is 59 (by rfl)
set_option maxRecDepth 100000 in
theorem i_Mo_step : Jvm.Cond.instanceMethod m_Mo_step.1 ∈ q_gw := q_i 918 (by rfl)
set_option maxRecDepth 100000 in
theorem v_Mo_step : Jvm.Cond.selects "StuckSearchModel" m_Mo_step.1 m_Mo_step.1 ∈ q_gw := q_is 60 (by rfl)
set_option maxRecDepth 100000 in
theorem i_Mo_byteAt : Jvm.Cond.instanceMethod m_Mo_byteAt.1 ∈ q_gw := q_i 922 (by rfl)
set_option maxRecDepth 100000 in
theorem v_Mo_byteAt : Jvm.Cond.selects "StuckSearchModel" m_Mo_byteAt.1 m_Mo_byteAt.1 ∈ q_gw := q_is 61 (by rfl)
set_option maxRecDepth 100000 in
theorem i_Mo_fail : Jvm.Cond.instanceMethod m_Mo_fail.1 ∈ q_gw := q_i 926 (by rfl)
set_option maxRecDepth 100000 in
theorem v_Mo_fail : Jvm.Cond.selects "StuckSearchModel" m_Mo_fail.1 m_Mo_fail.1 ∈ q_gw := q_is 62 (by rfl)
set_option maxRecDepth 100000 in
theorem i_Mo_endRow : Jvm.Cond.instanceMethod m_Mo_endRow.1 ∈ q_gw := q_i 930 (by rfl)
set_option maxRecDepth 100000 in
theorem v_Mo_endRow : Jvm.Cond.selects "StuckSearchModel" m_Mo_endRow.1 m_Mo_endRow.1 ∈ q_gw := q_is 63 (by rfl)
set_option maxRecDepth 100000 in
theorem i_Mo_take : Jvm.Cond.instanceMethod m_Mo_take.1 ∈ q_gw := q_i 934 (by rfl)
set_option maxRecDepth 100000 in
theorem v_Mo_take : Jvm.Cond.selects "StuckSearchModel" m_Mo_take.1 m_Mo_take.1 ∈ q_gw := q_is 64 (by rfl)
set_option maxRecDepth 100000 in
theorem i_Mo_lead : Jvm.Cond.instanceMethod m_Mo_lead.1 ∈ q_gw := q_i 938 (by rfl)
set_option maxRecDepth 100000 in
theorem v_Mo_lead : Jvm.Cond.selects "StuckSearchModel" m_Mo_lead.1 m_Mo_lead.1 ∈ q_gw := q_is 65 (by rfl)
set_option maxRecDepth 100000 in
theorem i_Mo_readAct : Jvm.Cond.instanceMethod m_Mo_readAct.1 ∈ q_gw := q_i 942 (by rfl)
set_option maxRecDepth 100000 in
theorem v_Mo_readAct : Jvm.Cond.selects "StuckSearchModel" m_Mo_readAct.1 m_Mo_readAct.1 ∈ q_gw := q_is 66 (by rfl)
set_option maxRecDepth 100000 in
theorem i_Mo_act : Jvm.Cond.instanceMethod m_Mo_act.1 ∈ q_gw := q_i 946 (by rfl)
set_option maxRecDepth 100000 in
theorem v_Mo_act : Jvm.Cond.selects "StuckSearchModel" m_Mo_act.1 m_Mo_act.1 ∈ q_gw := q_is 67 (by rfl)
set_option maxRecDepth 100000 in
theorem i_Mo_fault : Jvm.Cond.instanceMethod m_Mo_fault.1 ∈ q_gw := q_i 949 (by rfl)
set_option maxRecDepth 100000 in
theorem v_Mo_fault : Jvm.Cond.selects "StuckSearchModel" m_Mo_fault.1 m_Mo_fault.1 ∈ q_gw := q_i 950 (by rfl)
set_option maxRecDepth 100000 in
theorem i_Mo_faultAt : Jvm.Cond.instanceMethod m_Mo_faultAt.1 ∈ q_gw := q_i 953 (by rfl)
set_option maxRecDepth 100000 in
theorem v_Mo_faultAt : Jvm.Cond.selects "StuckSearchModel" m_Mo_faultAt.1 m_Mo_faultAt.1 ∈ q_gw := q_i 954 (by rfl)
set_option maxRecDepth 100000 in
theorem i_Mo_told : Jvm.Cond.instanceMethod m_Mo_told.1 ∈ q_gw := q_i 957 (by rfl)
set_option maxRecDepth 100000 in
theorem v_Mo_told : Jvm.Cond.selects "StuckSearchModel" m_Mo_told.1 m_Mo_told.1 ∈ q_gw := q_i 958 (by rfl)
set_option maxRecDepth 100000 in
theorem i_Mo_noProcess : Jvm.Cond.instanceMethod m_Mo_noProcess.1 ∈ q_gw := q_i 962 (by rfl)
set_option maxRecDepth 100000 in
theorem v_Mo_noProcess : Jvm.Cond.selects "StuckSearchModel" m_Mo_noProcess.1 m_Mo_noProcess.1 ∈ q_gw := q_is 68 (by rfl)
set_option maxRecDepth 100000 in
theorem s_Mo_ones : Jvm.Cond.static m_Mo_ones.1 ∈ q_gw := q_i 965 (by rfl)
set_option maxRecDepth 100000 in
theorem i_Mo_moves : Jvm.Cond.instanceMethod m_Mo_moves.1 ∈ q_gw := q_i 968 (by rfl)
set_option maxRecDepth 100000 in
theorem v_Mo_moves : Jvm.Cond.selects "StuckSearchModel" m_Mo_moves.1 m_Mo_moves.1 ∈ q_gw := q_i 969 (by rfl)
set_option maxRecDepth 100000 in
theorem i_Mo_fromNow : Jvm.Cond.instanceMethod m_Mo_fromNow.1 ∈ q_gw := q_i 973 (by rfl)
set_option maxRecDepth 100000 in
theorem v_Mo_fromNow : Jvm.Cond.selects "StuckSearchModel" m_Mo_fromNow.1 m_Mo_fromNow.1 ∈ q_gw := q_is 69 (by rfl)
set_option maxRecDepth 100000 in
theorem i_Mo_possible : Jvm.Cond.instanceMethod m_Mo_possible.1 ∈ q_gw := q_i 977 (by rfl)
set_option maxRecDepth 100000 in
theorem v_Mo_possible : Jvm.Cond.selects "StuckSearchModel" m_Mo_possible.1 m_Mo_possible.1 ∈ q_gw := q_is 70 (by rfl)
set_option maxRecDepth 100000 in
theorem i_Mo_goes : Jvm.Cond.instanceMethod m_Mo_goes.1 ∈ q_gw := q_i 981 (by rfl)
set_option maxRecDepth 100000 in
theorem v_Mo_goes : Jvm.Cond.selects "StuckSearchModel" m_Mo_goes.1 m_Mo_goes.1 ∈ q_gw := q_is 71 (by rfl)
set_option maxRecDepth 100000 in
theorem i_Mo_move : Jvm.Cond.instanceMethod m_Mo_move.1 ∈ q_gw := q_i 984 (by rfl)
set_option maxRecDepth 100000 in
theorem v_Mo_move : Jvm.Cond.selects "StuckSearchModel" m_Mo_move.1 m_Mo_move.1 ∈ q_gw := q_i 985 (by rfl)
set_option maxRecDepth 100000 in
theorem i_Mo_restart : Jvm.Cond.instanceMethod m_Mo_restart.1 ∈ q_gw := q_i 988 (by rfl)
set_option maxRecDepth 100000 in
theorem v_Mo_restart : Jvm.Cond.selects "StuckSearchModel" m_Mo_restart.1 m_Mo_restart.1 ∈ q_gw := q_i 989 (by rfl)
set_option maxRecDepth 100000 in
theorem i_Mo_now : Jvm.Cond.instanceMethod m_Mo_now.1 ∈ q_gw := q_i 992 (by rfl)
set_option maxRecDepth 100000 in
theorem v_Mo_now : Jvm.Cond.selects "StuckSearchModel" m_Mo_now.1 m_Mo_now.1 ∈ q_gw := q_i 993 (by rfl)
set_option maxRecDepth 100000 in
theorem i_Mo_has : Jvm.Cond.instanceMethod m_Mo_has.1 ∈ q_gw := q_i 996 (by rfl)
set_option maxRecDepth 100000 in
theorem v_Mo_has : Jvm.Cond.selects "StuckSearchModel" m_Mo_has.1 m_Mo_has.1 ∈ q_gw := q_i 997 (by rfl)
set_option maxRecDepth 100000 in
theorem i_Mo_product : Jvm.Cond.instanceMethod m_Mo_product.1 ∈ q_gw := q_i 1000 (by rfl)
set_option maxRecDepth 100000 in
theorem v_Mo_product : Jvm.Cond.selects "StuckSearchModel" m_Mo_product.1 m_Mo_product.1 ∈ q_gw := q_i 1001 (by rfl)
set_option maxRecDepth 100000 in
theorem i_Mo_stuck : Jvm.Cond.instanceMethod m_Mo_stuck.1 ∈ q_gw := q_i 1004 (by rfl)
set_option maxRecDepth 100000 in
theorem v_Mo_stuck : Jvm.Cond.selects "StuckSearchModel" m_Mo_stuck.1 m_Mo_stuck.1 ∈ q_gw := q_i 1005 (by rfl)
set_option maxRecDepth 100000 in
theorem i_Mo_know : Jvm.Cond.instanceMethod m_Mo_know.1 ∈ q_gw := q_i 1010 (by rfl)
set_option maxRecDepth 100000 in
theorem v_Mo_know : Jvm.Cond.selects "StuckSearchModel" m_Mo_know.1 m_Mo_know.1 ∈ q_gw := q_is 72 (by rfl)
set_option maxRecDepth 100000 in
theorem i_Mo_number : Jvm.Cond.instanceMethod m_Mo_number.1 ∈ q_gw := q_i 1014 (by rfl)
set_option maxRecDepth 100000 in
theorem v_Mo_number : Jvm.Cond.selects "StuckSearchModel" m_Mo_number.1 m_Mo_number.1 ∈ q_gw := q_is 73 (by rfl)
set_option maxRecDepth 100000 in
theorem i_Mo_walk : Jvm.Cond.instanceMethod m_Mo_walk.1 ∈ q_gw := q_i 1018 (by rfl)
set_option maxRecDepth 100000 in
theorem v_Mo_walk : Jvm.Cond.selects "StuckSearchModel" m_Mo_walk.1 m_Mo_walk.1 ∈ q_gw := q_is 74 (by rfl)
set_option maxRecDepth 100000 in
theorem i_Mo_apart : Jvm.Cond.instanceMethod m_Mo_apart.1 ∈ q_gw := q_i 1022 (by rfl)
set_option maxRecDepth 100000 in
theorem v_Mo_apart : Jvm.Cond.selects "StuckSearchModel" m_Mo_apart.1 m_Mo_apart.1 ∈ q_gw := q_is 75 (by rfl)
set_option maxRecDepth 100000 in
theorem i_Mo_ended : Jvm.Cond.instanceMethod m_Mo_ended.1 ∈ q_gw := q_i 1025 (by rfl)
set_option maxRecDepth 100000 in
theorem v_Mo_ended : Jvm.Cond.selects "StuckSearchModel" m_Mo_ended.1 m_Mo_ended.1 ∈ q_gw := q_i 1026 (by rfl)
set_option maxRecDepth 100000 in
theorem i_Mo_place : Jvm.Cond.instanceMethod m_Mo_place.1 ∈ q_gw := q_i 1029 (by rfl)
set_option maxRecDepth 100000 in
theorem v_Mo_place : Jvm.Cond.selects "StuckSearchModel" m_Mo_place.1 m_Mo_place.1 ∈ q_gw := q_i 1030 (by rfl)
set_option maxRecDepth 100000 in
theorem i_Mo_value : Jvm.Cond.instanceMethod m_Mo_value.1 ∈ q_gw := q_i 1033 (by rfl)
set_option maxRecDepth 100000 in
theorem v_Mo_value : Jvm.Cond.selects "StuckSearchModel" m_Mo_value.1 m_Mo_value.1 ∈ q_gw := q_i 1034 (by rfl)
set_option maxRecDepth 100000 in
theorem i_Mo_falls : Jvm.Cond.instanceMethod m_Mo_falls.1 ∈ q_gw := q_i 1037 (by rfl)
set_option maxRecDepth 100000 in
theorem v_Mo_falls : Jvm.Cond.selects "StuckSearchModel" m_Mo_falls.1 m_Mo_falls.1 ∈ q_gw := q_i 1038 (by rfl)
set_option maxRecDepth 100000 in
theorem f_S_10 : q_F "StuckSearch" 10 0 0 true := ⟨("StuckSearch", q_T0, 6), rfl, (by decide), rfl, rfl, Or.inl (q_i 254 (by rfl))⟩
set_option maxRecDepth 100000 in
theorem f_S_19 : q_F "StuckSearch" 19 0 1 true := ⟨("StuckSearch", q_T0, 6), rfl, (by decide), rfl, rfl, Or.inl (q_i 255 (by rfl))⟩
set_option maxRecDepth 100000 in
theorem f_S_28 : q_F "StuckSearch" 28 0 2 true := ⟨("StuckSearch", q_T0, 6), rfl, (by decide), rfl, rfl, Or.inl (q_i 256 (by rfl))⟩
set_option maxRecDepth 100000 in
theorem f_S_37 : q_F "StuckSearch" 37 0 3 true := ⟨("StuckSearch", q_T0, 6), rfl, (by decide), rfl, rfl, Or.inl (q_i 257 (by rfl))⟩
set_option maxRecDepth 100000 in
theorem f_S_44 : q_F "StuckSearch" 44 0 4 true := ⟨("StuckSearch", q_T0, 6), rfl, (by decide), rfl, rfl, Or.inl (q_i 258 (by rfl))⟩
set_option maxRecDepth 100000 in
theorem f_S_59 : q_F "StuckSearch" 59 1 1 false := ⟨("StuckSearch$Tape", q_T1, 2), rfl, (by decide), rfl, rfl, Or.inr ⟨"StuckSearch", q_i 38 (by rfl)⟩⟩
set_option maxRecDepth 100000 in
theorem f_S_65 : q_F "StuckSearch" 65 2 2 false := ⟨("StuckSearch$World", q_T2, 5), rfl, (by decide), rfl, rfl, Or.inr ⟨"StuckSearch", q_i 95 (by rfl)⟩⟩
set_option maxRecDepth 100000 in
theorem f_S_75 : q_F "StuckSearch" 75 2 4 false := ⟨("StuckSearch$World", q_T2, 5), rfl, (by decide), rfl, rfl, Or.inr ⟨"StuckSearch", q_i 101 (by rfl)⟩⟩
set_option maxRecDepth 100000 in
theorem f_S_78 : q_F "StuckSearch" 78 2 3 true := ⟨("StuckSearch$World", q_T2, 5), rfl, (by decide), rfl, rfl, Or.inr ⟨"StuckSearch", q_i 98 (by rfl)⟩⟩
set_option maxRecDepth 100000 in
theorem f_S_86 : q_F "StuckSearch" 86 4 7 false := ⟨("StuckSearch$TextReader", q_T4, 9), rfl, (by decide), rfl, rfl, Or.inr ⟨"StuckSearch", q_i 151 (by rfl)⟩⟩
set_option maxRecDepth 100000 in
theorem f_S_89 : q_F "StuckSearch" 89 4 8 false := ⟨("StuckSearch$TextReader", q_T4, 9), rfl, (by decide), rfl, rfl, Or.inr ⟨"StuckSearch", q_i 153 (by rfl)⟩⟩
set_option maxRecDepth 100000 in
theorem f_S_98 : q_F "StuckSearch" 98 3 0 false := ⟨("StuckSearch$Course", q_T3, 6), rfl, (by decide), rfl, rfl, Or.inr ⟨"StuckSearch", q_i 65 (by rfl)⟩⟩
set_option maxRecDepth 100000 in
theorem f_S_107 : q_F "StuckSearch" 107 3 1 false := ⟨("StuckSearch$Course", q_T3, 6), rfl, (by decide), rfl, rfl, Or.inr ⟨"StuckSearch", q_i 67 (by rfl)⟩⟩
set_option maxRecDepth 100000 in
theorem f_S_129 : q_F "StuckSearch" 129 6 8 false := ⟨("StuckSearch$Search", q_T6, 12), rfl, (by decide), rfl, rfl, Or.inr ⟨"StuckSearch", q_i 222 (by rfl)⟩⟩
set_option maxRecDepth 100000 in
theorem f_S_132 : q_F "StuckSearch" 132 6 9 false := ⟨("StuckSearch$Search", q_T6, 12), rfl, (by decide), rfl, rfl, Or.inr ⟨"StuckSearch", q_i 224 (by rfl)⟩⟩
set_option maxRecDepth 100000 in
theorem f_S_142 : q_F "StuckSearch" 142 8 0 true := ⟨("StuckSearch$State", q_T8, 2), rfl, (by decide), rfl, rfl, Or.inr ⟨"StuckSearch", q_i 202 (by rfl)⟩⟩
set_option maxRecDepth 100000 in
theorem f_S_146 : q_F "StuckSearch" 146 8 1 true := ⟨("StuckSearch$State", q_T8, 2), rfl, (by decide), rfl, rfl, Or.inr ⟨"StuckSearch", q_i 206 (by rfl)⟩⟩
set_option maxRecDepth 100000 in
theorem f_S_161 : q_F "StuckSearch" 161 0 5 false := ⟨("StuckSearch", q_T0, 6), rfl, (by decide), rfl, rfl, Or.inl (q_i 259 (by rfl))⟩
set_option maxRecDepth 100000 in
theorem f_S_175 : q_F "StuckSearch" 175 6 3 true := ⟨("StuckSearch$Search", q_T6, 12), rfl, (by decide), rfl, rfl, Or.inr ⟨"StuckSearch", q_i 216 (by rfl)⟩⟩
set_option maxRecDepth 100000 in
theorem f_Co_9 : q_F "StuckSearch$Course" 9 3 0 false := ⟨("StuckSearch$Course", q_T3, 6), rfl, (by decide), rfl, rfl, Or.inl (q_i 62 (by rfl))⟩
set_option maxRecDepth 100000 in
theorem f_Co_15 : q_F "StuckSearch$Course" 15 3 2 true := ⟨("StuckSearch$Course", q_T3, 6), rfl, (by decide), rfl, rfl, Or.inl (q_i 68 (by rfl))⟩
set_option maxRecDepth 100000 in
theorem f_Co_19 : q_F "StuckSearch$Course" 19 3 3 true := ⟨("StuckSearch$Course", q_T3, 6), rfl, (by decide), rfl, rfl, Or.inl (q_i 71 (by rfl))⟩
set_option maxRecDepth 100000 in
theorem f_Co_22 : q_F "StuckSearch$Course" 22 3 4 true := ⟨("StuckSearch$Course", q_T3, 6), rfl, (by decide), rfl, rfl, Or.inl (q_i 72 (by rfl))⟩
set_option maxRecDepth 100000 in
theorem f_Co_25 : q_F "StuckSearch$Course" 25 3 5 true := ⟨("StuckSearch$Course", q_T3, 6), rfl, (by decide), rfl, rfl, Or.inl (q_i 75 (by rfl))⟩
set_option maxRecDepth 100000 in
theorem f_Co_28 : q_F "StuckSearch$Course" 28 3 1 false := ⟨("StuckSearch$Course", q_T3, 6), rfl, (by decide), rfl, rfl, Or.inl (q_i 66 (by rfl))⟩
set_option maxRecDepth 100000 in
theorem f_Co_37 : q_F "StuckSearch$Course" 37 5 1 false := ⟨("StuckSearch$Part", q_T5, 3), rfl, (by decide), rfl, rfl, Or.inr ⟨"StuckSearch", q_i 131 (by rfl)⟩⟩
set_option maxRecDepth 100000 in
theorem f_Co_42 : q_F "StuckSearch$Course" 42 5 2 false := ⟨("StuckSearch$Part", q_T5, 3), rfl, (by decide), rfl, rfl, Or.inr ⟨"StuckSearch", q_i 134 (by rfl)⟩⟩
set_option maxRecDepth 100000 in
theorem f_Co_45 : q_F "StuckSearch$Course" 45 5 0 false := ⟨("StuckSearch$Part", q_T5, 3), rfl, (by decide), rfl, rfl, Or.inr ⟨"StuckSearch", q_i 128 (by rfl)⟩⟩
set_option maxRecDepth 100000 in
theorem f_Pa_7 : q_F "StuckSearch$Part" 7 5 0 false := ⟨("StuckSearch$Part", q_T5, 3), rfl, (by decide), rfl, rfl, Or.inl (q_i 127 (by rfl))⟩
set_option maxRecDepth 100000 in
theorem f_Pa_13 : q_F "StuckSearch$Part" 13 5 1 false := ⟨("StuckSearch$Part", q_T5, 3), rfl, (by decide), rfl, rfl, Or.inl (q_i 130 (by rfl))⟩
set_option maxRecDepth 100000 in
theorem f_Pa_17 : q_F "StuckSearch$Part" 17 5 2 false := ⟨("StuckSearch$Part", q_T5, 3), rfl, (by decide), rfl, rfl, Or.inl (q_i 133 (by rfl))⟩
set_option maxRecDepth 100000 in
theorem f_Se_12 : q_F "StuckSearch$Search" 12 6 1 true := ⟨("StuckSearch$Search", q_T6, 12), rfl, (by decide), rfl, rfl, Or.inl (q_i 213 (by rfl))⟩
set_option maxRecDepth 100000 in
theorem f_Se_18 : q_F "StuckSearch$Search" 18 6 2 true := ⟨("StuckSearch$Search", q_T6, 12), rfl, (by decide), rfl, rfl, Or.inl (q_i 214 (by rfl))⟩
set_option maxRecDepth 100000 in
theorem f_Se_21 : q_F "StuckSearch$Search" 21 6 3 true := ⟨("StuckSearch$Search", q_T6, 12), rfl, (by decide), rfl, rfl, Or.inl (q_i 215 (by rfl))⟩
set_option maxRecDepth 100000 in
theorem f_Se_24 : q_F "StuckSearch$Search" 24 6 4 true := ⟨("StuckSearch$Search", q_T6, 12), rfl, (by decide), rfl, rfl, Or.inl (q_i 217 (by rfl))⟩
set_option maxRecDepth 100000 in
theorem f_Se_30 : q_F "StuckSearch$Search" 30 6 5 true := ⟨("StuckSearch$Search", q_T6, 12), rfl, (by decide), rfl, rfl, Or.inl (q_i 218 (by rfl))⟩
set_option maxRecDepth 100000 in
theorem f_Se_34 : q_F "StuckSearch$Search" 34 6 6 true := ⟨("StuckSearch$Search", q_T6, 12), rfl, (by decide), rfl, rfl, Or.inl (q_i 219 (by rfl))⟩
set_option maxRecDepth 100000 in
theorem f_Se_38 : q_F "StuckSearch$Search" 38 6 7 true := ⟨("StuckSearch$Search", q_T6, 12), rfl, (by decide), rfl, rfl, Or.inl (q_i 220 (by rfl))⟩
set_option maxRecDepth 100000 in
theorem f_Se_41 : q_F "StuckSearch$Search" 41 6 0 true := ⟨("StuckSearch$Search", q_T6, 12), rfl, (by decide), rfl, rfl, Or.inl (q_i 212 (by rfl))⟩
set_option maxRecDepth 100000 in
theorem f_Se_45 : q_F "StuckSearch$Search" 45 6 10 false := ⟨("StuckSearch$Search", q_T6, 12), rfl, (by decide), rfl, rfl, Or.inl (q_i 225 (by rfl))⟩
set_option maxRecDepth 100000 in
theorem f_Se_49 : q_F "StuckSearch$Search" 49 6 11 false := ⟨("StuckSearch$Search", q_T6, 12), rfl, (by decide), rfl, rfl, Or.inl (q_i 226 (by rfl))⟩
set_option maxRecDepth 100000 in
theorem f_Se_58 : q_F "StuckSearch$Search" 58 6 8 false := ⟨("StuckSearch$Search", q_T6, 12), rfl, (by decide), rfl, rfl, Or.inl (q_i 221 (by rfl))⟩
set_option maxRecDepth 100000 in
theorem f_Se_62 : q_F "StuckSearch$Search" 62 6 9 false := ⟨("StuckSearch$Search", q_T6, 12), rfl, (by decide), rfl, rfl, Or.inl (q_i 223 (by rfl))⟩
set_option maxRecDepth 100000 in
theorem f_Se_104 : q_F "StuckSearch$Search" 104 2 0 true := ⟨("StuckSearch$World", q_T2, 5), rfl, (by decide), rfl, rfl, Or.inr ⟨"StuckSearch", q_i 91 (by rfl)⟩⟩
set_option maxRecDepth 100000 in
theorem f_Se_107 : q_F "StuckSearch$Search" 107 2 4 false := ⟨("StuckSearch$World", q_T2, 5), rfl, (by decide), rfl, rfl, Or.inr ⟨"StuckSearch", q_i 102 (by rfl)⟩⟩
set_option maxRecDepth 100000 in
theorem f_Se_110 : q_F "StuckSearch$Search" 110 2 3 true := ⟨("StuckSearch$World", q_T2, 5), rfl, (by decide), rfl, rfl, Or.inr ⟨"StuckSearch", q_i 99 (by rfl)⟩⟩
set_option maxRecDepth 100000 in
theorem f_Se_114 : q_F "StuckSearch$Search" 114 3 0 false := ⟨("StuckSearch$Course", q_T3, 6), rfl, (by decide), rfl, rfl, Or.inr ⟨"StuckSearch", q_i 64 (by rfl)⟩⟩
set_option maxRecDepth 100000 in
theorem f_Se_138 : q_F "StuckSearch$Search" 138 3 4 true := ⟨("StuckSearch$Course", q_T3, 6), rfl, (by decide), rfl, rfl, Or.inr ⟨"StuckSearch", q_i 74 (by rfl)⟩⟩
set_option maxRecDepth 100000 in
theorem f_Se_145 : q_F "StuckSearch$Search" 145 8 1 true := ⟨("StuckSearch$State", q_T8, 2), rfl, (by decide), rfl, rfl, Or.inr ⟨"StuckSearch", q_i 205 (by rfl)⟩⟩
set_option maxRecDepth 100000 in
theorem f_Se_148 : q_F "StuckSearch$Search" 148 8 0 true := ⟨("StuckSearch$State", q_T8, 2), rfl, (by decide), rfl, rfl, Or.inr ⟨"StuckSearch", q_i 201 (by rfl)⟩⟩
set_option maxRecDepth 100000 in
theorem f_Se_160 : q_F "StuckSearch$Search" 160 3 2 true := ⟨("StuckSearch$Course", q_T3, 6), rfl, (by decide), rfl, rfl, Or.inr ⟨"StuckSearch", q_i 70 (by rfl)⟩⟩
set_option maxRecDepth 100000 in
theorem f_St_9 : q_F "StuckSearch$State" 9 8 0 true := ⟨("StuckSearch$State", q_T8, 2), rfl, (by decide), rfl, rfl, Or.inl (q_i 199 (by rfl))⟩
set_option maxRecDepth 100000 in
theorem f_St_15 : q_F "StuckSearch$State" 15 8 1 true := ⟨("StuckSearch$State", q_T8, 2), rfl, (by decide), rfl, rfl, Or.inl (q_i 203 (by rfl))⟩
set_option maxRecDepth 100000 in
theorem f_Ss_11 : q_F "StuckSearch$StateSet" 11 7 0 true := ⟨("StuckSearch$StateSet", q_T7, 2), rfl, (by decide), rfl, rfl, Or.inl (q_i 185 (by rfl))⟩
set_option maxRecDepth 100000 in
theorem f_Ss_15 : q_F "StuckSearch$StateSet" 15 7 1 false := ⟨("StuckSearch$StateSet", q_T7, 2), rfl, (by decide), rfl, rfl, Or.inl (q_i 186 (by rfl))⟩
set_option maxRecDepth 100000 in
theorem f_Ta_9 : q_F "StuckSearch$Tape" 9 1 0 true := ⟨("StuckSearch$Tape", q_T1, 2), rfl, (by decide), rfl, rfl, Or.inl (q_i 36 (by rfl))⟩
set_option maxRecDepth 100000 in
theorem f_Ta_15 : q_F "StuckSearch$Tape" 15 1 1 false := ⟨("StuckSearch$Tape", q_T1, 2), rfl, (by decide), rfl, rfl, Or.inl (q_i 37 (by rfl))⟩
set_option maxRecDepth 100000 in
theorem f_Re_11 : q_F "StuckSearch$TextReader" 11 4 2 true := ⟨("StuckSearch$TextReader", q_T4, 9), rfl, (by decide), rfl, rfl, Or.inl (q_i 145 (by rfl))⟩
set_option maxRecDepth 100000 in
theorem f_Re_17 : q_F "StuckSearch$TextReader" 17 4 3 true := ⟨("StuckSearch$TextReader", q_T4, 9), rfl, (by decide), rfl, rfl, Or.inl (q_i 146 (by rfl))⟩
set_option maxRecDepth 100000 in
theorem f_Re_21 : q_F "StuckSearch$TextReader" 21 4 4 true := ⟨("StuckSearch$TextReader", q_T4, 9), rfl, (by decide), rfl, rfl, Or.inl (q_i 147 (by rfl))⟩
set_option maxRecDepth 100000 in
theorem f_Re_25 : q_F "StuckSearch$TextReader" 25 4 8 false := ⟨("StuckSearch$TextReader", q_T4, 9), rfl, (by decide), rfl, rfl, Or.inl (q_i 152 (by rfl))⟩
set_option maxRecDepth 100000 in
theorem f_Re_29 : q_F "StuckSearch$TextReader" 29 4 0 true := ⟨("StuckSearch$TextReader", q_T4, 9), rfl, (by decide), rfl, rfl, Or.inl (q_i 143 (by rfl))⟩
set_option maxRecDepth 100000 in
theorem f_Re_33 : q_F "StuckSearch$TextReader" 33 4 1 true := ⟨("StuckSearch$TextReader", q_T4, 9), rfl, (by decide), rfl, rfl, Or.inl (q_i 144 (by rfl))⟩
set_option maxRecDepth 100000 in
theorem f_Re_37 : q_F "StuckSearch$TextReader" 37 4 7 false := ⟨("StuckSearch$TextReader", q_T4, 9), rfl, (by decide), rfl, rfl, Or.inl (q_i 150 (by rfl))⟩
set_option maxRecDepth 100000 in
theorem f_Re_40 : q_F "StuckSearch$TextReader" 40 4 6 false := ⟨("StuckSearch$TextReader", q_T4, 9), rfl, (by decide), rfl, rfl, Or.inl (q_i 149 (by rfl))⟩
set_option maxRecDepth 100000 in
theorem f_Re_43 : q_F "StuckSearch$TextReader" 43 4 5 false := ⟨("StuckSearch$TextReader", q_T4, 9), rfl, (by decide), rfl, rfl, Or.inl (q_i 148 (by rfl))⟩
set_option maxRecDepth 100000 in
theorem f_Re_54 : q_F "StuckSearch$TextReader" 54 1 1 false := ⟨("StuckSearch$Tape", q_T1, 2), rfl, (by decide), rfl, rfl, Or.inr ⟨"StuckSearch", q_i 39 (by rfl)⟩⟩
set_option maxRecDepth 100000 in
theorem f_Re_91 : q_F "StuckSearch$TextReader" 91 2 2 false := ⟨("StuckSearch$World", q_T2, 5), rfl, (by decide), rfl, rfl, Or.inr ⟨"StuckSearch", q_i 96 (by rfl)⟩⟩
set_option maxRecDepth 100000 in
theorem f_Re_108 : q_F "StuckSearch$TextReader" 108 2 0 true := ⟨("StuckSearch$World", q_T2, 5), rfl, (by decide), rfl, rfl, Or.inr ⟨"StuckSearch", q_i 92 (by rfl)⟩⟩
set_option maxRecDepth 100000 in
theorem f_Re_123 : q_F "StuckSearch$TextReader" 123 5 2 false := ⟨("StuckSearch$Part", q_T5, 3), rfl, (by decide), rfl, rfl, Or.inr ⟨"StuckSearch", q_i 135 (by rfl)⟩⟩
set_option maxRecDepth 100000 in
theorem f_Re_126 : q_F "StuckSearch$TextReader" 126 5 1 false := ⟨("StuckSearch$Part", q_T5, 3), rfl, (by decide), rfl, rfl, Or.inr ⟨"StuckSearch", q_i 132 (by rfl)⟩⟩
set_option maxRecDepth 100000 in
theorem f_Re_133 : q_F "StuckSearch$TextReader" 133 5 0 false := ⟨("StuckSearch$Part", q_T5, 3), rfl, (by decide), rfl, rfl, Or.inr ⟨"StuckSearch", q_i 129 (by rfl)⟩⟩
set_option maxRecDepth 100000 in
theorem f_Wo_9 : q_F "StuckSearch$World" 9 2 0 true := ⟨("StuckSearch$World", q_T2, 5), rfl, (by decide), rfl, rfl, Or.inl (q_i 90 (by rfl))⟩
set_option maxRecDepth 100000 in
theorem f_Wo_15 : q_F "StuckSearch$World" 15 2 1 true := ⟨("StuckSearch$World", q_T2, 5), rfl, (by decide), rfl, rfl, Or.inl (q_i 93 (by rfl))⟩
set_option maxRecDepth 100000 in
theorem f_Wo_20 : q_F "StuckSearch$World" 20 2 3 true := ⟨("StuckSearch$World", q_T2, 5), rfl, (by decide), rfl, rfl, Or.inl (q_i 97 (by rfl))⟩
set_option maxRecDepth 100000 in
theorem f_Wo_31 : q_F "StuckSearch$World" 31 2 2 false := ⟨("StuckSearch$World", q_T2, 5), rfl, (by decide), rfl, rfl, Or.inl (q_i 94 (by rfl))⟩
set_option maxRecDepth 100000 in
theorem f_Wo_35 : q_F "StuckSearch$World" 35 2 4 false := ⟨("StuckSearch$World", q_T2, 5), rfl, (by decide), rfl, rfl, Or.inl (q_i 100 (by rfl))⟩
set_option maxRecDepth 100000 in
theorem f_Wo_38 : q_F "StuckSearch$World" 38 3 0 false := ⟨("StuckSearch$Course", q_T3, 6), rfl, (by decide), rfl, rfl, Or.inr ⟨"StuckSearch", q_i 63 (by rfl)⟩⟩
set_option maxRecDepth 100000 in
theorem f_Wo_47 : q_F "StuckSearch$World" 47 8 0 true := ⟨("StuckSearch$State", q_T8, 2), rfl, (by decide), rfl, rfl, Or.inr ⟨"StuckSearch", q_i 200 (by rfl)⟩⟩
set_option maxRecDepth 100000 in
theorem f_Wo_52 : q_F "StuckSearch$World" 52 8 1 true := ⟨("StuckSearch$State", q_T8, 2), rfl, (by decide), rfl, rfl, Or.inr ⟨"StuckSearch", q_i 204 (by rfl)⟩⟩
set_option maxRecDepth 100000 in
theorem f_Wo_55 : q_F "StuckSearch$World" 55 3 2 true := ⟨("StuckSearch$Course", q_T3, 6), rfl, (by decide), rfl, rfl, Or.inr ⟨"StuckSearch", q_i 69 (by rfl)⟩⟩
set_option maxRecDepth 100000 in
theorem f_Wo_62 : q_F "StuckSearch$World" 62 3 4 true := ⟨("StuckSearch$Course", q_T3, 6), rfl, (by decide), rfl, rfl, Or.inr ⟨"StuckSearch", q_i 73 (by rfl)⟩⟩
set_option maxRecDepth 100000 in
theorem f_Mo_7 : q_F "StuckSearchModel" 7 9 1 true := ⟨("StuckSearchModel", q_T9, 41), rfl, (by decide), rfl, rfl, Or.inl (q_i 755 (by rfl))⟩
set_option maxRecDepth 100000 in
theorem f_Mo_13 : q_F "StuckSearchModel" 13 9 4 false := ⟨("StuckSearchModel", q_T9, 41), rfl, (by decide), rfl, rfl, Or.inl (q_i 758 (by rfl))⟩
set_option maxRecDepth 100000 in
theorem f_Mo_17 : q_F "StuckSearchModel" 17 9 6 true := ⟨("StuckSearchModel", q_T9, 41), rfl, (by decide), rfl, rfl, Or.inl (q_i 760 (by rfl))⟩
set_option maxRecDepth 100000 in
theorem f_Mo_20 : q_F "StuckSearchModel" 20 9 7 true := ⟨("StuckSearchModel", q_T9, 41), rfl, (by decide), rfl, rfl, Or.inl (q_i 761 (by rfl))⟩
set_option maxRecDepth 100000 in
theorem f_Mo_23 : q_F "StuckSearchModel" 23 9 9 true := ⟨("StuckSearchModel", q_T9, 41), rfl, (by decide), rfl, rfl, Or.inl (q_i 763 (by rfl))⟩
set_option maxRecDepth 100000 in
theorem f_Mo_26 : q_F "StuckSearchModel" 26 9 10 true := ⟨("StuckSearchModel", q_T9, 41), rfl, (by decide), rfl, rfl, Or.inl (q_i 764 (by rfl))⟩
set_option maxRecDepth 100000 in
theorem f_Mo_29 : q_F "StuckSearchModel" 29 9 11 true := ⟨("StuckSearchModel", q_T9, 41), rfl, (by decide), rfl, rfl, Or.inl (q_i 765 (by rfl))⟩
set_option maxRecDepth 100000 in
theorem f_Mo_32 : q_F "StuckSearchModel" 32 9 12 true := ⟨("StuckSearchModel", q_T9, 41), rfl, (by decide), rfl, rfl, Or.inl (q_i 766 (by rfl))⟩
set_option maxRecDepth 100000 in
theorem f_Mo_35 : q_F "StuckSearchModel" 35 9 13 true := ⟨("StuckSearchModel", q_T9, 41), rfl, (by decide), rfl, rfl, Or.inl (q_i 767 (by rfl))⟩
set_option maxRecDepth 100000 in
theorem f_Mo_38 : q_F "StuckSearchModel" 38 9 14 true := ⟨("StuckSearchModel", q_T9, 41), rfl, (by decide), rfl, rfl, Or.inl (q_i 768 (by rfl))⟩
set_option maxRecDepth 100000 in
theorem f_Mo_41 : q_F "StuckSearchModel" 41 9 17 true := ⟨("StuckSearchModel", q_T9, 41), rfl, (by decide), rfl, rfl, Or.inl (q_i 771 (by rfl))⟩
set_option maxRecDepth 100000 in
theorem f_Mo_44 : q_F "StuckSearchModel" 44 9 18 true := ⟨("StuckSearchModel", q_T9, 41), rfl, (by decide), rfl, rfl, Or.inl (q_i 772 (by rfl))⟩
set_option maxRecDepth 100000 in
theorem f_Mo_47 : q_F "StuckSearchModel" 47 9 19 true := ⟨("StuckSearchModel", q_T9, 41), rfl, (by decide), rfl, rfl, Or.inl (q_i 773 (by rfl))⟩
set_option maxRecDepth 100000 in
theorem f_Mo_50 : q_F "StuckSearchModel" 50 9 20 true := ⟨("StuckSearchModel", q_T9, 41), rfl, (by decide), rfl, rfl, Or.inl (q_i 774 (by rfl))⟩
set_option maxRecDepth 100000 in
theorem f_Mo_53 : q_F "StuckSearchModel" 53 9 22 true := ⟨("StuckSearchModel", q_T9, 41), rfl, (by decide), rfl, rfl, Or.inl (q_i 776 (by rfl))⟩
set_option maxRecDepth 100000 in
theorem f_Mo_57 : q_F "StuckSearchModel" 57 9 23 true := ⟨("StuckSearchModel", q_T9, 41), rfl, (by decide), rfl, rfl, Or.inl (q_i 777 (by rfl))⟩
set_option maxRecDepth 100000 in
theorem f_Mo_60 : q_F "StuckSearchModel" 60 9 24 true := ⟨("StuckSearchModel", q_T9, 41), rfl, (by decide), rfl, rfl, Or.inl (q_i 778 (by rfl))⟩
set_option maxRecDepth 100000 in
theorem f_Mo_63 : q_F "StuckSearchModel" 63 9 25 true := ⟨("StuckSearchModel", q_T9, 41), rfl, (by decide), rfl, rfl, Or.inl (q_i 779 (by rfl))⟩
set_option maxRecDepth 100000 in
theorem f_Mo_66 : q_F "StuckSearchModel" 66 9 26 true := ⟨("StuckSearchModel", q_T9, 41), rfl, (by decide), rfl, rfl, Or.inl (q_i 780 (by rfl))⟩
set_option maxRecDepth 100000 in
theorem f_Mo_69 : q_F "StuckSearchModel" 69 9 27 true := ⟨("StuckSearchModel", q_T9, 41), rfl, (by decide), rfl, rfl, Or.inl (q_i 781 (by rfl))⟩
set_option maxRecDepth 100000 in
theorem f_Mo_72 : q_F "StuckSearchModel" 72 9 31 true := ⟨("StuckSearchModel", q_T9, 41), rfl, (by decide), rfl, rfl, Or.inl (q_i 785 (by rfl))⟩
set_option maxRecDepth 100000 in
theorem f_Mo_75 : q_F "StuckSearchModel" 75 9 32 true := ⟨("StuckSearchModel", q_T9, 41), rfl, (by decide), rfl, rfl, Or.inl (q_i 786 (by rfl))⟩
set_option maxRecDepth 100000 in
theorem f_Mo_78 : q_F "StuckSearchModel" 78 9 33 true := ⟨("StuckSearchModel", q_T9, 41), rfl, (by decide), rfl, rfl, Or.inl (q_i 787 (by rfl))⟩
set_option maxRecDepth 100000 in
theorem f_Mo_81 : q_F "StuckSearchModel" 81 9 35 true := ⟨("StuckSearchModel", q_T9, 41), rfl, (by decide), rfl, rfl, Or.inl (q_i 789 (by rfl))⟩
set_option maxRecDepth 100000 in
theorem f_Mo_84 : q_F "StuckSearchModel" 84 9 36 true := ⟨("StuckSearchModel", q_T9, 41), rfl, (by decide), rfl, rfl, Or.inl (q_i 790 (by rfl))⟩
set_option maxRecDepth 100000 in
theorem f_Mo_87 : q_F "StuckSearchModel" 87 9 38 true := ⟨("StuckSearchModel", q_T9, 41), rfl, (by decide), rfl, rfl, Or.inl (q_i 792 (by rfl))⟩
set_option maxRecDepth 100000 in
theorem f_Mo_90 : q_F "StuckSearchModel" 90 9 0 false := ⟨("StuckSearchModel", q_T9, 41), rfl, (by decide), rfl, rfl, Or.inl (q_i 754 (by rfl))⟩
set_option maxRecDepth 100000 in
theorem f_Mo_93 : q_F "StuckSearchModel" 93 9 2 false := ⟨("StuckSearchModel", q_T9, 41), rfl, (by decide), rfl, rfl, Or.inl (q_i 756 (by rfl))⟩
set_option maxRecDepth 100000 in
theorem f_Mo_98 : q_F "StuckSearchModel" 98 9 37 false := ⟨("StuckSearchModel", q_T9, 41), rfl, (by decide), rfl, rfl, Or.inl (q_i 791 (by rfl))⟩
set_option maxRecDepth 100000 in
theorem f_Mo_102 : q_F "StuckSearchModel" 102 9 34 false := ⟨("StuckSearchModel", q_T9, 41), rfl, (by decide), rfl, rfl, Or.inl (q_i 788 (by rfl))⟩
set_option maxRecDepth 100000 in
theorem f_Mo_105 : q_F "StuckSearchModel" 105 9 5 false := ⟨("StuckSearchModel", q_T9, 41), rfl, (by decide), rfl, rfl, Or.inl (q_i 759 (by rfl))⟩
set_option maxRecDepth 100000 in
theorem f_Mo_111 : q_F "StuckSearchModel" 111 9 8 false := ⟨("StuckSearchModel", q_T9, 41), rfl, (by decide), rfl, rfl, Or.inl (q_i 762 (by rfl))⟩
set_option maxRecDepth 100000 in
theorem f_Mo_114 : q_F "StuckSearchModel" 114 9 3 false := ⟨("StuckSearchModel", q_T9, 41), rfl, (by decide), rfl, rfl, Or.inl (q_i 757 (by rfl))⟩
set_option maxRecDepth 100000 in
theorem f_Mo_117 : q_F "StuckSearchModel" 117 9 21 false := ⟨("StuckSearchModel", q_T9, 41), rfl, (by decide), rfl, rfl, Or.inl (q_i 775 (by rfl))⟩
set_option maxRecDepth 100000 in
theorem f_Mo_123 : q_F "StuckSearchModel" 123 9 15 false := ⟨("StuckSearchModel", q_T9, 41), rfl, (by decide), rfl, rfl, Or.inl (q_i 769 (by rfl))⟩
set_option maxRecDepth 100000 in
theorem f_Mo_130 : q_F "StuckSearchModel" 130 9 28 false := ⟨("StuckSearchModel", q_T9, 41), rfl, (by decide), rfl, rfl, Or.inl (q_i 782 (by rfl))⟩
set_option maxRecDepth 100000 in
theorem f_Mo_133 : q_F "StuckSearchModel" 133 9 30 false := ⟨("StuckSearchModel", q_T9, 41), rfl, (by decide), rfl, rfl, Or.inl (q_i 784 (by rfl))⟩
set_option maxRecDepth 100000 in
theorem f_Mo_136 : q_F "StuckSearchModel" 136 9 29 false := ⟨("StuckSearchModel", q_T9, 41), rfl, (by decide), rfl, rfl, Or.inl (q_i 783 (by rfl))⟩
set_option maxRecDepth 100000 in
theorem f_Mo_143 : q_F "StuckSearchModel" 143 9 16 false := ⟨("StuckSearchModel", q_T9, 41), rfl, (by decide), rfl, rfl, Or.inl (q_i 770 (by rfl))⟩
set_option maxRecDepth 100000 in
theorem f_Mo_200 : q_F "StuckSearchModel" 200 9 39 false := ⟨("StuckSearchModel", q_T9, 41), rfl, (by decide), rfl, rfl, Or.inl (q_i 793 (by rfl))⟩
set_option maxRecDepth 100000 in
theorem f_Mo_203 : q_F "StuckSearchModel" 203 9 40 false := ⟨("StuckSearchModel", q_T9, 41), rfl, (by decide), rfl, rfl, Or.inl (q_i 794 (by rfl))⟩
set_option maxRecDepth 100000 in
theorem lo_S_1 : Jvm.Cond.methodLink "StuckSearch" 1 Lib.objectInit ∈ q_gw := q_i 27 (by rfl)
set_option maxRecDepth 100000 in
theorem l_S_9 : q_ML "StuckSearch" 9 m_Ta_init 0 := ⟨Or.inr ⟨"StuckSearch", q_i 32 (by rfl)⟩, q_i 34 (by rfl), q_i 2 (by rfl), ⟨by decide, by decide⟩, by decide +kernel⟩
set_option maxRecDepth 100000 in
theorem l_S_18 : q_ML "StuckSearch" 18 m_Wo_init 0 := ⟨Or.inr ⟨"StuckSearch", q_i 48 (by rfl)⟩, q_i 50 (by rfl), q_i 3 (by rfl), ⟨by decide, by decide⟩, by decide +kernel⟩
set_option maxRecDepth 100000 in
theorem l_S_25 : q_ML "StuckSearch" 25 m_Re_init 2 := ⟨Or.inr ⟨"StuckSearch", q_i 116 (by rfl)⟩, q_i 118 (by rfl), q_i 6 (by rfl), ⟨by decide, by decide⟩, by decide +kernel⟩
set_option maxRecDepth 100000 in
theorem l_S_34 : q_ML "StuckSearch" 34 m_Se_init 1 := ⟨Or.inr ⟨"StuckSearch", q_i 175 (by rfl)⟩, q_i 177 (by rfl), q_i 8 (by rfl), ⟨by decide, by decide⟩, by decide +kernel⟩
set_option maxRecDepth 100000 in
theorem l_S_43 : q_ML "StuckSearch" 43 m_St_init 0 := ⟨Or.inr ⟨"StuckSearch", q_i 253 (by rfl)⟩, q_i 197 (by rfl), q_i 10 (by rfl), ⟨by decide, by decide⟩, by decide +kernel⟩
set_option maxRecDepth 100000 in
theorem l_S_55 : q_ML "StuckSearch" 55 m_Ta_append 2 := ⟨Or.inr ⟨"StuckSearch", q_i 590 (by rfl)⟩, q_i 593 (by rfl), q_i 2 (by rfl), ⟨by decide, by decide⟩, by decide +kernel⟩
set_option maxRecDepth 100000 in
theorem l_S_68 : q_ML "StuckSearch" 68 m_Wo_addVariable 2 := ⟨Or.inr ⟨"StuckSearch", q_i 602 (by rfl)⟩, q_i 605 (by rfl), q_i 3 (by rfl), ⟨by decide, by decide⟩, by decide +kernel⟩
set_option maxRecDepth 100000 in
theorem l_S_72 : q_ML "StuckSearch" 72 m_S_beginAnew 0 := ⟨Or.inl (q_i 365 (by rfl)), q_i 368 (by rfl), q_i 1 (by rfl), ⟨by decide, by decide⟩, by decide +kernel⟩
set_option maxRecDepth 100000 in
theorem l_S_82 : q_ML "StuckSearch" 82 m_Re_read 1 := ⟨Or.inr ⟨"StuckSearch", q_i 281 (by rfl)⟩, q_i 284 (by rfl), q_i 6 (by rfl), ⟨by decide, by decide⟩, by decide +kernel⟩
set_option maxRecDepth 100000 in
theorem l_S_92 : q_ML "StuckSearch" 92 m_Wo_removeAll 0 := ⟨Or.inr ⟨"StuckSearch", q_i 393 (by rfl)⟩, q_i 396 (by rfl), q_i 3 (by rfl), ⟨by decide, by decide⟩, by decide +kernel⟩
set_option maxRecDepth 100000 in
theorem l_S_95 : q_ML "StuckSearch" 95 m_S_checkIndex 2 := ⟨Or.inl (q_i 614 (by rfl)), q_i 616 (by rfl), q_i 1 (by rfl), ⟨by decide, by decide⟩, by decide +kernel⟩
set_option maxRecDepth 100000 in
theorem l_S_103 : q_ML "StuckSearch" 103 m_Co_countSteps 0 := ⟨Or.inr ⟨"StuckSearch", q_i 633 (by rfl)⟩, q_i 636 (by rfl), q_i 5 (by rfl), ⟨by decide, by decide⟩, by decide +kernel⟩
set_option maxRecDepth 100000 in
theorem l_S_110 : q_ML "StuckSearch" 110 m_In_bitCount 1 := ⟨Or.inl (q_i 505 (by rfl)), q_i 507 (by rfl), q_i 17 (by rfl), ⟨by decide, by decide⟩, by decide +kernel⟩
set_option maxRecDepth 100000 in
theorem l_S_118 : q_ML "StuckSearch" 118 m_Wo_isSearchable 0 := ⟨Or.inr ⟨"StuckSearch", q_i 401 (by rfl)⟩, q_i 404 (by rfl), q_i 3 (by rfl), ⟨by decide, by decide⟩, by decide +kernel⟩
set_option maxRecDepth 100000 in
theorem l_S_122 : q_ML "StuckSearch" 122 m_Wo_countStates 0 := ⟨Or.inr ⟨"StuckSearch", q_i 410 (by rfl)⟩, q_i 408 (by rfl), q_i 3 (by rfl), ⟨by decide, by decide⟩, by decide +kernel⟩
set_option maxRecDepth 100000 in
theorem l_S_126 : q_ML "StuckSearch" 126 m_Se_findStanding 0 := ⟨Or.inr ⟨"StuckSearch", q_i 415 (by rfl)⟩, q_i 418 (by rfl), q_i 8 (by rfl), ⟨by decide, by decide⟩, by decide +kernel⟩
set_option maxRecDepth 100000 in
theorem l_S_135 : q_ML "StuckSearch" 135 m_S_checkSearchable 0 := ⟨Or.inl (q_i 647 (by rfl)), q_i 650 (by rfl), q_i 1 (by rfl), ⟨by decide, by decide⟩, by decide +kernel⟩
set_option maxRecDepth 100000 in
theorem l_S_138 : q_ML "StuckSearch" 138 m_Se_standingState 1 := ⟨Or.inr ⟨"StuckSearch", q_i 667 (by rfl)⟩, q_i 670 (by rfl), q_i 8 (by rfl), ⟨by decide, by decide⟩, by decide +kernel⟩
set_option maxRecDepth 100000 in
theorem l_S_149 : q_ML "StuckSearch" 149 m_Wo_openPlaces 2 := ⟨Or.inr ⟨"StuckSearch", q_i 504 (by rfl)⟩, q_i 474 (by rfl), q_i 3 (by rfl), ⟨by decide, by decide⟩, by decide +kernel⟩
set_option maxRecDepth 100000 in
theorem l_S_153 : q_ML "StuckSearch" 153 m_S_nthBit 2 := ⟨Or.inl (q_i 690 (by rfl)), q_i 453 (by rfl), q_i 1 (by rfl), ⟨by decide, by decide⟩, by decide +kernel⟩
set_option maxRecDepth 100000 in
theorem l_S_157 : q_ML "StuckSearch" 157 m_Wo_go 3 := ⟨Or.inr ⟨"StuckSearch", q_i 691 (by rfl)⟩, q_i 694 (by rfl), q_i 3 (by rfl), ⟨by decide, by decide⟩, by decide +kernel⟩
set_option maxRecDepth 100000 in
theorem l_S_169 : q_ML "StuckSearch" 169 m_S_returnToFirst 0 := ⟨Or.inl (q_i 373 (by rfl)), q_i 376 (by rfl), q_i 1 (by rfl), ⟨by decide, by decide⟩, by decide +kernel⟩
set_option maxRecDepth 100000 in
theorem l_S_172 : q_ML "StuckSearch" 172 m_Se_findFalling 0 := ⟨Or.inr ⟨"StuckSearch", q_i 717 (by rfl)⟩, q_i 720 (by rfl), q_i 8 (by rfl), ⟨by decide, by decide⟩, by decide +kernel⟩
set_option maxRecDepth 100000 in
theorem l_S_179 : q_ML "StuckSearch" 179 m_Wo_numberOf 1 := ⟨Or.inr ⟨"StuckSearch", q_i 746 (by rfl)⟩, q_i 434 (by rfl), q_i 3 (by rfl), ⟨by decide, by decide⟩, by decide +kernel⟩
set_option maxRecDepth 100000 in
theorem l_S_183 : q_ML "StuckSearch" 183 m_Ss_contains 1 := ⟨Or.inr ⟨"StuckSearch", q_i 747 (by rfl)⟩, q_i 442 (by rfl), q_i 9 (by rfl), ⟨by decide, by decide⟩, by decide +kernel⟩
set_option maxRecDepth 100000 in
theorem l_S_189 : q_ML "StuckSearch" 189 m_Se_forget 0 := ⟨Or.inr ⟨"StuckSearch", q_i 369 (by rfl)⟩, q_i 372 (by rfl), q_i 8 (by rfl), ⟨by decide, by decide⟩, by decide +kernel⟩
set_option maxRecDepth 100000 in
theorem l_S_192 : q_ML "StuckSearch" 192 m_Wo_putFirst 1 := ⟨Or.inr ⟨"StuckSearch", q_i 377 (by rfl)⟩, q_i 380 (by rfl), q_i 3 (by rfl), ⟨by decide, by decide⟩, by decide +kernel⟩
set_option maxRecDepth 100000 in
theorem l_S_203 : q_ML "StuckSearch" 203 m_Lo_bitCount 1 := ⟨Or.inl (q_i 454 (by rfl)), q_i 456 (by rfl), q_i 18 (by rfl), ⟨by decide, by decide⟩, by decide +kernel⟩
set_option maxRecDepth 100000 in
theorem lo_Co_3 : Jvm.Cond.methodLink "StuckSearch$Course" 3 Lib.objectInit ∈ q_gw := q_i 61 (by rfl)
set_option maxRecDepth 100000 in
theorem l_Co_31 : q_ML "StuckSearch$Course" 31 m_Ar_fillI 2 := ⟨Or.inl (q_i 289 (by rfl)), q_i 56 (by rfl), q_i 4 (by rfl), ⟨by decide, by decide⟩, by decide +kernel⟩
set_option maxRecDepth 100000 in
theorem l_Co_49 : q_ML "StuckSearch$Course" 49 m_In_bitCount 1 := ⟨Or.inl (q_i 637 (by rfl)), q_i 507 (by rfl), q_i 17 (by rfl), ⟨by decide, by decide⟩, by decide +kernel⟩
set_option maxRecDepth 100000 in
theorem lo_Pa_1 : Jvm.Cond.methodLink "StuckSearch$Part" 1 Lib.objectInit ∈ q_gw := q_i 126 (by rfl)
set_option maxRecDepth 100000 in
theorem lo_Se_3 : Jvm.Cond.methodLink "StuckSearch$Search" 3 Lib.objectInit ∈ q_gw := q_i 178 (by rfl)
set_option maxRecDepth 100000 in
theorem l_Se_11 : q_ML "StuckSearch$Search" 11 m_Ss_init 0 := ⟨Or.inr ⟨"StuckSearch", q_i 181 (by rfl)⟩, q_i 183 (by rfl), q_i 9 (by rfl), ⟨by decide, by decide⟩, by decide +kernel⟩
set_option maxRecDepth 100000 in
theorem l_Se_29 : q_ML "StuckSearch$Search" 29 m_St_init 0 := ⟨Or.inr ⟨"StuckSearch", q_i 195 (by rfl)⟩, q_i 197 (by rfl), q_i 10 (by rfl), ⟨by decide, by decide⟩, by decide +kernel⟩
set_option maxRecDepth 100000 in
theorem l_Se_52 : q_ML "StuckSearch$Search" 52 m_Se_weigh 0 := ⟨Or.inl (q_i 419 (by rfl)), q_i 422 (by rfl), q_i 8 (by rfl), ⟨by decide, by decide⟩, by decide +kernel⟩
set_option maxRecDepth 100000 in
theorem l_Se_55 : q_ML "StuckSearch$Search" 55 m_Ss_empty 0 := ⟨Or.inr ⟨"StuckSearch", q_i 423 (by rfl)⟩, q_i 426 (by rfl), q_i 9 (by rfl), ⟨by decide, by decide⟩, by decide +kernel⟩
set_option maxRecDepth 100000 in
theorem l_Se_65 : q_ML "StuckSearch$Search" 65 m_Wo_putFirst 1 := ⟨Or.inr ⟨"StuckSearch", q_i 430 (by rfl)⟩, q_i 380 (by rfl), q_i 3 (by rfl), ⟨by decide, by decide⟩, by decide +kernel⟩
set_option maxRecDepth 100000 in
theorem l_Se_71 : q_ML "StuckSearch$Search" 71 m_Wo_numberOf 1 := ⟨Or.inr ⟨"StuckSearch", q_i 431 (by rfl)⟩, q_i 434 (by rfl), q_i 3 (by rfl), ⟨by decide, by decide⟩, by decide +kernel⟩
set_option maxRecDepth 100000 in
theorem l_Se_75 : q_ML "StuckSearch$Search" 75 m_Se_reach 1 := ⟨Or.inl (q_i 435 (by rfl)), q_i 438 (by rfl), q_i 8 (by rfl), ⟨by decide, by decide⟩, by decide +kernel⟩
set_option maxRecDepth 100000 in
theorem l_Se_79 : q_ML "StuckSearch$Search" 79 m_Ss_takeLowest 0 := ⟨Or.inr ⟨"StuckSearch", q_i 447 (by rfl)⟩, q_i 450 (by rfl), q_i 9 (by rfl), ⟨by decide, by decide⟩, by decide +kernel⟩
set_option maxRecDepth 100000 in
theorem l_Se_83 : q_ML "StuckSearch$Search" 83 m_Se_lookAhead 1 := ⟨Or.inl (q_i 460 (by rfl)), q_i 463 (by rfl), q_i 8 (by rfl), ⟨by decide, by decide⟩, by decide +kernel⟩
set_option maxRecDepth 100000 in
theorem l_Se_86 : q_ML "StuckSearch$Search" 86 m_Se_findStanding 0 := ⟨Or.inl (q_i 721 (by rfl)), q_i 418 (by rfl), q_i 8 (by rfl), ⟨by decide, by decide⟩, by decide +kernel⟩
set_option maxRecDepth 100000 in
theorem l_Se_89 : q_ML "StuckSearch$Search" 89 m_Ss_copyFrom 1 := ⟨Or.inr ⟨"StuckSearch", q_i 722 (by rfl)⟩, q_i 725 (by rfl), q_i 9 (by rfl), ⟨by decide, by decide⟩, by decide +kernel⟩
set_option maxRecDepth 100000 in
theorem l_Se_93 : q_ML "StuckSearch$Search" 93 m_Se_lookBack 1 := ⟨Or.inl (q_i 729 (by rfl)), q_i 732 (by rfl), q_i 8 (by rfl), ⟨by decide, by decide⟩, by decide +kernel⟩
set_option maxRecDepth 100000 in
theorem l_Se_96 : q_ML "StuckSearch$Search" 96 m_Ss_nth 1 := ⟨Or.inr ⟨"StuckSearch", q_i 671 (by rfl)⟩, q_i 674 (by rfl), q_i 9 (by rfl), ⟨by decide, by decide⟩, by decide +kernel⟩
set_option maxRecDepth 100000 in
theorem l_Se_100 : q_ML "StuckSearch$Search" 100 m_Wo_putNumbered 2 := ⟨Or.inr ⟨"StuckSearch", q_i 464 (by rfl)⟩, q_i 467 (by rfl), q_i 3 (by rfl), ⟨by decide, by decide⟩, by decide +kernel⟩
set_option maxRecDepth 100000 in
theorem l_Se_119 : q_ML "StuckSearch$Search" 119 m_Ss_contains 1 := ⟨Or.inr ⟨"StuckSearch", q_i 439 (by rfl)⟩, q_i 442 (by rfl), q_i 9 (by rfl), ⟨by decide, by decide⟩, by decide +kernel⟩
set_option maxRecDepth 100000 in
theorem l_Se_123 : q_ML "StuckSearch$Search" 123 m_Ss_add 1 := ⟨Or.inr ⟨"StuckSearch", q_i 443 (by rfl)⟩, q_i 446 (by rfl), q_i 9 (by rfl), ⟨by decide, by decide⟩, by decide +kernel⟩
set_option maxRecDepth 100000 in
theorem l_Se_126 : q_ML "StuckSearch$Search" 126 m_Wo_openPlaces 2 := ⟨Or.inr ⟨"StuckSearch", q_i 471 (by rfl)⟩, q_i 474 (by rfl), q_i 3 (by rfl), ⟨by decide, by decide⟩, by decide +kernel⟩
set_option maxRecDepth 100000 in
theorem l_Se_130 : q_ML "StuckSearch$Search" 130 m_Se_reachAll 3 := ⟨Or.inl (q_i 483 (by rfl)), q_i 486 (by rfl), q_i 8 (by rfl), ⟨by decide, by decide⟩, by decide +kernel⟩
set_option maxRecDepth 100000 in
theorem l_Se_134 : q_ML "StuckSearch$Search" 134 m_Wo_allAtEnds 1 := ⟨Or.inr ⟨"StuckSearch", q_i 488 (by rfl)⟩, q_i 491 (by rfl), q_i 3 (by rfl), ⟨by decide, by decide⟩, by decide +kernel⟩
set_option maxRecDepth 100000 in
theorem l_Se_141 : q_ML "StuckSearch$Search" 141 m_Wo_outcome 3 := ⟨Or.inr ⟨"StuckSearch", q_i 487 (by rfl)⟩, q_i 478 (by rfl), q_i 3 (by rfl), ⟨by decide, by decide⟩, by decide +kernel⟩
set_option maxRecDepth 100000 in
theorem l_Se_151 : q_ML "StuckSearch$Search" 151 m_Se_undoAct 3 := ⟨Or.inl (q_i 733 (by rfl)), q_i 736 (by rfl), q_i 8 (by rfl), ⟨by decide, by decide⟩, by decide +kernel⟩
set_option maxRecDepth 100000 in
theorem l_Se_154 : q_ML "StuckSearch$Search" 154 m_Co_outcome 3 := ⟨Or.inr ⟨"StuckSearch", q_i 737 (by rfl)⟩, q_i 482 (by rfl), q_i 5 (by rfl), ⟨by decide, by decide⟩, by decide +kernel⟩
set_option maxRecDepth 100000 in
theorem l_Se_157 : q_ML "StuckSearch$Search" 157 m_Se_undoStep 3 := ⟨Or.inl (q_i 738 (by rfl)), q_i 741 (by rfl), q_i 8 (by rfl), ⟨by decide, by decide⟩, by decide +kernel⟩
set_option maxRecDepth 100000 in
theorem l_Se_163 : q_ML "StuckSearch$Search" 163 m_Se_fall 1 := ⟨Or.inl (q_i 742 (by rfl)), q_i 745 (by rfl), q_i 8 (by rfl), ⟨by decide, by decide⟩, by decide +kernel⟩
set_option maxRecDepth 100000 in
theorem lo_St_3 : Jvm.Cond.methodLink "StuckSearch$State" 3 Lib.objectInit ∈ q_gw := q_i 198 (by rfl)
set_option maxRecDepth 100000 in
theorem lo_Ss_3 : Jvm.Cond.methodLink "StuckSearch$StateSet" 3 Lib.objectInit ∈ q_gw := q_i 184 (by rfl)
set_option maxRecDepth 100000 in
theorem l_Ss_19 : q_ML "StuckSearch$StateSet" 19 m_Ar_fillJ 2 := ⟨Or.inl (q_i 427 (by rfl)), q_i 429 (by rfl), q_i 4 (by rfl), ⟨by decide, by decide⟩, by decide +kernel⟩
set_option maxRecDepth 100000 in
theorem l_Ss_31 : q_ML "StuckSearch$StateSet" 31 m_S_nthBit 2 := ⟨Or.inr ⟨"StuckSearch", q_i 451 (by rfl)⟩, q_i 453 (by rfl), q_i 1 (by rfl), ⟨by decide, by decide⟩, by decide +kernel⟩
set_option maxRecDepth 100000 in
theorem l_Ss_35 : q_ML "StuckSearch$StateSet" 35 m_Lo_bitCount 1 := ⟨Or.inl (q_i 675 (by rfl)), q_i 456 (by rfl), q_i 18 (by rfl), ⟨by decide, by decide⟩, by decide +kernel⟩
set_option maxRecDepth 100000 in
theorem lo_Ta_3 : Jvm.Cond.methodLink "StuckSearch$Tape" 3 Lib.objectInit ∈ q_gw := q_i 35 (by rfl)
set_option maxRecDepth 100000 in
theorem lo_Re_3 : Jvm.Cond.methodLink "StuckSearch$TextReader" 3 Lib.objectInit ∈ q_gw := q_i 119 (by rfl)
set_option maxRecDepth 100000 in
theorem l_Re_20 : q_ML "StuckSearch$TextReader" 20 m_Pa_init 0 := ⟨Or.inr ⟨"StuckSearch", q_i 123 (by rfl)⟩, q_i 125 (by rfl), q_i 7 (by rfl), ⟨by decide, by decide⟩, by decide +kernel⟩
set_option maxRecDepth 100000 in
theorem l_Re_46 : q_ML "StuckSearch$TextReader" 46 m_Co_reset 0 := ⟨Or.inr ⟨"StuckSearch", q_i 285 (by rfl)⟩, q_i 288 (by rfl), q_i 5 (by rfl), ⟨by decide, by decide⟩, by decide +kernel⟩
set_option maxRecDepth 100000 in
theorem l_Re_51 : q_ML "StuckSearch$TextReader" 51 m_Re_beginText 0 := ⟨Or.inl (q_i 290 (by rfl)), q_i 293 (by rfl), q_i 6 (by rfl), ⟨by decide, by decide⟩, by decide +kernel⟩
set_option maxRecDepth 100000 in
theorem l_Re_59 : q_ML "StuckSearch$TextReader" 59 m_Re_readNext 1 := ⟨Or.inl (q_i 298 (by rfl)), q_i 301 (by rfl), q_i 6 (by rfl), ⟨by decide, by decide⟩, by decide +kernel⟩
set_option maxRecDepth 100000 in
theorem l_Re_63 : q_ML "StuckSearch$TextReader" 63 m_Re_meetFault 1 := ⟨Or.inl (q_i 318 (by rfl)), q_i 321 (by rfl), q_i 6 (by rfl), ⟨by decide, by decide⟩, by decide +kernel⟩
set_option maxRecDepth 100000 in
theorem l_Re_67 : q_ML "StuckSearch$TextReader" 67 m_Re_endChoice 0 := ⟨Or.inl (q_i 306 (by rfl)), q_i 309 (by rfl), q_i 6 (by rfl), ⟨by decide, by decide⟩, by decide +kernel⟩
set_option maxRecDepth 100000 in
theorem l_Re_70 : q_ML "StuckSearch$TextReader" 70 m_Co_finish 1 := ⟨Or.inr ⟨"StuckSearch", q_i 361 (by rfl)⟩, q_i 364 (by rfl), q_i 5 (by rfl), ⟨by decide, by decide⟩, by decide +kernel⟩
set_option maxRecDepth 100000 in
theorem l_Re_74 : q_ML "StuckSearch$TextReader" 74 m_Ta_byteAt 1 := ⟨Or.inr ⟨"StuckSearch", q_i 302 (by rfl)⟩, q_i 305 (by rfl), q_i 2 (by rfl), ⟨by decide, by decide⟩, by decide +kernel⟩
set_option maxRecDepth 100000 in
theorem l_Re_78 : q_ML "StuckSearch$TextReader" 78 m_Re_openText 0 := ⟨Or.inl (q_i 314 (by rfl)), q_i 317 (by rfl), q_i 6 (by rfl), ⟨by decide, by decide⟩, by decide +kernel⟩
set_option maxRecDepth 100000 in
theorem l_Re_81 : q_ML "StuckSearch$TextReader" 81 m_Re_closeText 1 := ⟨Or.inl (q_i 322 (by rfl)), q_i 325 (by rfl), q_i 6 (by rfl), ⟨by decide, by decide⟩, by decide +kernel⟩
set_option maxRecDepth 100000 in
theorem l_Re_84 : q_ML "StuckSearch$TextReader" 84 m_Re_readAct 1 := ⟨Or.inl (q_i 338 (by rfl)), q_i 341 (by rfl), q_i 6 (by rfl), ⟨by decide, by decide⟩, by decide +kernel⟩
set_option maxRecDepth 100000 in
theorem l_Re_87 : q_ML "StuckSearch$TextReader" 87 m_Re_addThing 2 := ⟨Or.inl (q_i 326 (by rfl)), q_i 329 (by rfl), q_i 6 (by rfl), ⟨by decide, by decide⟩, by decide +kernel⟩
set_option maxRecDepth 100000 in
theorem l_Re_96 : q_ML "StuckSearch$TextReader" 96 m_Co_isFull 0 := ⟨Or.inr ⟨"StuckSearch", q_i 342 (by rfl)⟩, q_i 345 (by rfl), q_i 5 (by rfl), ⟨by decide, by decide⟩, by decide +kernel⟩
set_option maxRecDepth 100000 in
theorem l_Re_100 : q_ML "StuckSearch$TextReader" 100 m_Re_readKind 0 := ⟨Or.inl (q_i 346 (by rfl)), q_i 349 (by rfl), q_i 6 (by rfl), ⟨by decide, by decide⟩, by decide +kernel⟩
set_option maxRecDepth 100000 in
theorem l_Re_104 : q_ML "StuckSearch$TextReader" 104 m_Re_takesFigure 1 := ⟨Or.inl (q_i 350 (by rfl)), q_i 352 (by rfl), q_i 6 (by rfl), ⟨by decide, by decide⟩, by decide +kernel⟩
set_option maxRecDepth 100000 in
theorem l_Re_112 : q_ML "StuckSearch$TextReader" 112 m_Re_readFigure 1 := ⟨Or.inl (q_i 353 (by rfl)), q_i 356 (by rfl), q_i 6 (by rfl), ⟨by decide, by decide⟩, by decide +kernel⟩
set_option maxRecDepth 100000 in
theorem l_Re_115 : q_ML "StuckSearch$TextReader" 115 m_Co_addAct 3 := ⟨Or.inr ⟨"StuckSearch", q_i 357 (by rfl)⟩, q_i 360 (by rfl), q_i 5 (by rfl), ⟨by decide, by decide⟩, by decide +kernel⟩
set_option maxRecDepth 100000 in
theorem l_Re_119 : q_ML "StuckSearch$TextReader" 119 m_Pa_set 2 := ⟨Or.inr ⟨"StuckSearch", q_i 294 (by rfl)⟩, q_i 297 (by rfl), q_i 7 (by rfl), ⟨by decide, by decide⟩, by decide +kernel⟩
set_option maxRecDepth 100000 in
theorem l_Re_129 : q_ML "StuckSearch$TextReader" 129 m_Co_addSteps 2 := ⟨Or.inr ⟨"StuckSearch", q_i 330 (by rfl)⟩, q_i 333 (by rfl), q_i 5 (by rfl), ⟨by decide, by decide⟩, by decide +kernel⟩
set_option maxRecDepth 100000 in
theorem l_Re_137 : q_ML "StuckSearch$TextReader" 137 m_Pa_addBehind 1 := ⟨Or.inr ⟨"StuckSearch", q_i 334 (by rfl)⟩, q_i 337 (by rfl), q_i 7 (by rfl), ⟨by decide, by decide⟩, by decide +kernel⟩
set_option maxRecDepth 100000 in
theorem l_Re_140 : q_ML "StuckSearch$TextReader" 140 m_Pa_addChoice 1 := ⟨Or.inr ⟨"StuckSearch", q_i 310 (by rfl)⟩, q_i 313 (by rfl), q_i 7 (by rfl), ⟨by decide, by decide⟩, by decide +kernel⟩
set_option maxRecDepth 100000 in
theorem lo_Wo_3 : Jvm.Cond.methodLink "StuckSearch$World" 3 Lib.objectInit ∈ q_gw := q_i 51 (by rfl)
set_option maxRecDepth 100000 in
theorem l_Wo_24 : q_ML "StuckSearch$World" 24 m_Ar_fillI 2 := ⟨Or.inl (q_i 54 (by rfl)), q_i 56 (by rfl), q_i 4 (by rfl), ⟨by decide, by decide⟩, by decide +kernel⟩
set_option maxRecDepth 100000 in
theorem l_Wo_30 : q_ML "StuckSearch$World" 30 m_Co_init 0 := ⟨Or.inr ⟨"StuckSearch", q_i 58 (by rfl)⟩, q_i 60 (by rfl), q_i 5 (by rfl), ⟨by decide, by decide⟩, by decide +kernel⟩
set_option maxRecDepth 100000 in
theorem l_Wo_41 : q_ML "StuckSearch$World" 41 m_Wo_countStates 0 := ⟨Or.inl (q_i 405 (by rfl)), q_i 408 (by rfl), q_i 3 (by rfl), ⟨by decide, by decide⟩, by decide +kernel⟩
set_option maxRecDepth 100000 in
theorem l_Wo_58 : q_ML "StuckSearch$World" 58 m_Wo_outcome 3 := ⟨Or.inl (q_i 475 (by rfl)), q_i 478 (by rfl), q_i 3 (by rfl), ⟨by decide, by decide⟩, by decide +kernel⟩
set_option maxRecDepth 100000 in
theorem l_Wo_65 : q_ML "StuckSearch$World" 65 m_Co_outcome 3 := ⟨Or.inr ⟨"StuckSearch", q_i 479 (by rfl)⟩, q_i 482 (by rfl), q_i 5 (by rfl), ⟨by decide, by decide⟩, by decide +kernel⟩
set_option maxRecDepth 100000 in
theorem l_Wo_68 : q_ML "StuckSearch$World" 68 m_Co_isEnd 1 := ⟨Or.inr ⟨"StuckSearch", q_i 492 (by rfl)⟩, q_i 495 (by rfl), q_i 5 (by rfl), ⟨by decide, by decide⟩, by decide +kernel⟩
set_option maxRecDepth 100000 in
theorem l_Wo_72 : q_ML "StuckSearch$World" 72 m_Ma_max 2 := ⟨Or.inl (q_i 468 (by rfl)), q_i 470 (by rfl), q_i 19 (by rfl), ⟨by decide, by decide⟩, by decide +kernel⟩
set_option maxRecDepth 100000 in
theorem l_La_7 : q_ML "StuckSearchLaw" 7 m_S_feed 2 := ⟨Or.inl (q_i 519 (by rfl)), q_i 522 (by rfl), q_i 1 (by rfl), ⟨by decide, by decide⟩, by decide +kernel⟩
set_option maxRecDepth 100000 in
theorem l_La_15 : q_ML "StuckSearchLaw" 15 m_S_variable 2 := ⟨Or.inl (q_i 597 (by rfl)), q_i 600 (by rfl), q_i 1 (by rfl), ⟨by decide, by decide⟩, by decide +kernel⟩
set_option maxRecDepth 100000 in
theorem l_La_19 : q_ML "StuckSearchLaw" 19 m_S_told 2 := ⟨Or.inl (q_i 610 (by rfl)), q_i 613 (by rfl), q_i 1 (by rfl), ⟨by decide, by decide⟩, by decide +kernel⟩
set_option maxRecDepth 100000 in
theorem l_La_24 : q_ML "StuckSearchLaw" 24 m_S_place 2 := ⟨Or.inl (q_i 643 (by rfl)), q_i 646 (by rfl), q_i 1 (by rfl), ⟨by decide, by decide⟩, by decide +kernel⟩
set_option maxRecDepth 100000 in
theorem l_La_29 : q_ML "StuckSearchLaw" 29 m_S_value 2 := ⟨Or.inl (q_i 679 (by rfl)), q_i 682 (by rfl), q_i 1 (by rfl), ⟨by decide, by decide⟩, by decide +kernel⟩
set_option maxRecDepth 100000 in
theorem l_La_32 : q_ML "StuckSearchLaw" 32 m_S_move 1 := ⟨Or.inl (q_i 686 (by rfl)), q_i 689 (by rfl), q_i 1 (by rfl), ⟨by decide, by decide⟩, by decide +kernel⟩
set_option maxRecDepth 100000 in
theorem l_La_36 : q_ML "StuckSearchLaw" 36 m_S_now 1 := ⟨Or.inl (q_i 699 (by rfl)), q_i 702 (by rfl), q_i 1 (by rfl), ⟨by decide, by decide⟩, by decide +kernel⟩
set_option maxRecDepth 100000 in
theorem l_La_39 : q_ML "StuckSearchLaw" 39 m_S_has 1 := ⟨Or.inl (q_i 706 (by rfl)), q_i 709 (by rfl), q_i 1 (by rfl), ⟨by decide, by decide⟩, by decide +kernel⟩
set_option maxRecDepth 100000 in
theorem l_La_42 : q_ML "StuckSearchLaw" 42 m_S_falls 0 := ⟨Or.inl (q_i 713 (by rfl)), q_i 716 (by rfl), q_i 1 (by rfl), ⟨by decide, by decide⟩, by decide +kernel⟩
set_option maxRecDepth 100000 in
theorem l_La_46 : q_ML "StuckSearchLaw" 46 m_S_init 0 := ⟨Or.inl (q_i 24 (by rfl)), q_i 26 (by rfl), q_i 1 (by rfl), ⟨by decide, by decide⟩, by decide +kernel⟩
set_option maxRecDepth 100000 in
theorem l_La_49 : q_ML "StuckSearchLaw" 49 m_Mo_init 0 := ⟨Or.inl (q_i 750 (by rfl)), q_i 752 (by rfl), q_i 11 (by rfl), ⟨by decide, by decide⟩, by decide +kernel⟩
set_option maxRecDepth 100000 in
theorem l_La_52 : q_ML "StuckSearchLaw" 52 m_La_feed 4 := ⟨Or.inl (q_i 515 (by rfl)), q_i 517 (by rfl), q_i 0 (by rfl), ⟨by decide, by decide⟩, by decide +kernel⟩
set_option maxRecDepth 100000 in
theorem l_La_57 : q_ML "StuckSearchLaw" 57 m_Mo_feed 2 := ⟨Or.inl (q_i 883 (by rfl)), q_i 886 (by rfl), q_i 11 (by rfl), ⟨by decide, by decide⟩, by decide +kernel⟩
set_option maxRecDepth 100000 in
theorem l_La_58 : q_ML "StuckSearchLaw" 58 m_Mo_thrown 0 := ⟨Or.inl (q_i 879 (by rfl)), q_i 882 (by rfl), q_i 11 (by rfl), ⟨by decide, by decide⟩, by decide +kernel⟩
set_option maxRecDepth 100000 in
theorem l_La_62 : q_ML "StuckSearchLaw" 62 m_S_wipe 0 := ⟨Or.inl (q_i 273 (by rfl)), q_i 276 (by rfl), q_i 1 (by rfl), ⟨by decide, by decide⟩, by decide +kernel⟩
set_option maxRecDepth 100000 in
theorem l_La_65 : q_ML "StuckSearchLaw" 65 m_Mo_wipe 0 := ⟨Or.inl (q_i 888 (by rfl)), q_i 891 (by rfl), q_i 11 (by rfl), ⟨by decide, by decide⟩, by decide +kernel⟩
set_option maxRecDepth 100000 in
theorem l_La_66 : q_ML "StuckSearchLaw" 66 m_La_variable 4 := ⟨Or.inl (q_i 594 (by rfl)), q_i 596 (by rfl), q_i 0 (by rfl), ⟨by decide, by decide⟩, by decide +kernel⟩
set_option maxRecDepth 100000 in
theorem l_La_69 : q_ML "StuckSearchLaw" 69 m_Mo_variable 2 := ⟨Or.inl (q_i 892 (by rfl)), q_i 895 (by rfl), q_i 11 (by rfl), ⟨by decide, by decide⟩, by decide +kernel⟩
set_option maxRecDepth 100000 in
theorem l_La_70 : q_ML "StuckSearchLaw" 70 m_S_process 0 := ⟨Or.inl (q_i 277 (by rfl)), q_i 280 (by rfl), q_i 1 (by rfl), ⟨by decide, by decide⟩, by decide +kernel⟩
set_option maxRecDepth 100000 in
theorem l_La_73 : q_ML "StuckSearchLaw" 73 m_Mo_process 0 := ⟨Or.inl (q_i 904 (by rfl)), q_i 907 (by rfl), q_i 11 (by rfl), ⟨by decide, by decide⟩, by decide +kernel⟩
set_option maxRecDepth 100000 in
theorem l_La_74 : q_ML "StuckSearchLaw" 74 m_S_fault 0 := ⟨Or.inl (q_i 381 (by rfl)), q_i 384 (by rfl), q_i 1 (by rfl), ⟨by decide, by decide⟩, by decide +kernel⟩
set_option maxRecDepth 100000 in
theorem l_La_77 : q_ML "StuckSearchLaw" 77 m_Mo_fault 0 := ⟨Or.inl (q_i 948 (by rfl)), q_i 951 (by rfl), q_i 11 (by rfl), ⟨by decide, by decide⟩, by decide +kernel⟩
set_option maxRecDepth 100000 in
theorem l_La_78 : q_ML "StuckSearchLaw" 78 m_S_faultAt 0 := ⟨Or.inl (q_i 385 (by rfl)), q_i 388 (by rfl), q_i 1 (by rfl), ⟨by decide, by decide⟩, by decide +kernel⟩
set_option maxRecDepth 100000 in
theorem l_La_81 : q_ML "StuckSearchLaw" 81 m_Mo_faultAt 0 := ⟨Or.inl (q_i 952 (by rfl)), q_i 955 (by rfl), q_i 11 (by rfl), ⟨by decide, by decide⟩, by decide +kernel⟩
set_option maxRecDepth 100000 in
theorem l_La_82 : q_ML "StuckSearchLaw" 82 m_S_clear 0 := ⟨Or.inl (q_i 389 (by rfl)), q_i 392 (by rfl), q_i 1 (by rfl), ⟨by decide, by decide⟩, by decide +kernel⟩
set_option maxRecDepth 100000 in
theorem l_La_85 : q_ML "StuckSearchLaw" 85 m_Mo_clear 0 := ⟨Or.inl (q_i 900 (by rfl)), q_i 903 (by rfl), q_i 11 (by rfl), ⟨by decide, by decide⟩, by decide +kernel⟩
set_option maxRecDepth 100000 in
theorem l_La_86 : q_ML "StuckSearchLaw" 86 m_La_told 4 := ⟨Or.inl (q_i 606 (by rfl)), q_i 608 (by rfl), q_i 0 (by rfl), ⟨by decide, by decide⟩, by decide +kernel⟩
set_option maxRecDepth 100000 in
theorem l_La_88 : q_ML "StuckSearchLaw" 88 m_Mo_told 2 := ⟨Or.inl (q_i 956 (by rfl)), q_i 959 (by rfl), q_i 11 (by rfl), ⟨by decide, by decide⟩, by decide +kernel⟩
set_option maxRecDepth 100000 in
theorem l_La_89 : q_ML "StuckSearchLaw" 89 m_S_product 0 := ⟨Or.inl (q_i 397 (by rfl)), q_i 400 (by rfl), q_i 1 (by rfl), ⟨by decide, by decide⟩, by decide +kernel⟩
set_option maxRecDepth 100000 in
theorem l_La_92 : q_ML "StuckSearchLaw" 92 m_Mo_product 0 := ⟨Or.inl (q_i 999 (by rfl)), q_i 1002 (by rfl), q_i 11 (by rfl), ⟨by decide, by decide⟩, by decide +kernel⟩
set_option maxRecDepth 100000 in
theorem l_La_93 : q_ML "StuckSearchLaw" 93 m_S_stuck 0 := ⟨Or.inl (q_i 411 (by rfl)), q_i 414 (by rfl), q_i 1 (by rfl), ⟨by decide, by decide⟩, by decide +kernel⟩
set_option maxRecDepth 100000 in
theorem l_La_96 : q_ML "StuckSearchLaw" 96 m_Mo_stuck 0 := ⟨Or.inl (q_i 1003 (by rfl)), q_i 1006 (by rfl), q_i 11 (by rfl), ⟨by decide, by decide⟩, by decide +kernel⟩
set_option maxRecDepth 100000 in
theorem l_La_97 : q_ML "StuckSearchLaw" 97 m_S_ended 0 := ⟨Or.inl (q_i 496 (by rfl)), q_i 499 (by rfl), q_i 1 (by rfl), ⟨by decide, by decide⟩, by decide +kernel⟩
set_option maxRecDepth 100000 in
theorem l_La_100 : q_ML "StuckSearchLaw" 100 m_Mo_ended 0 := ⟨Or.inl (q_i 1024 (by rfl)), q_i 1027 (by rfl), q_i 11 (by rfl), ⟨by decide, by decide⟩, by decide +kernel⟩
set_option maxRecDepth 100000 in
theorem l_La_101 : q_ML "StuckSearchLaw" 101 m_La_place 4 := ⟨Or.inl (q_i 639 (by rfl)), q_i 641 (by rfl), q_i 0 (by rfl), ⟨by decide, by decide⟩, by decide +kernel⟩
set_option maxRecDepth 100000 in
theorem l_La_103 : q_ML "StuckSearchLaw" 103 m_Mo_place 2 := ⟨Or.inl (q_i 1028 (by rfl)), q_i 1031 (by rfl), q_i 11 (by rfl), ⟨by decide, by decide⟩, by decide +kernel⟩
set_option maxRecDepth 100000 in
theorem l_La_104 : q_ML "StuckSearchLaw" 104 m_La_value 4 := ⟨Or.inl (q_i 676 (by rfl)), q_i 678 (by rfl), q_i 0 (by rfl), ⟨by decide, by decide⟩, by decide +kernel⟩
set_option maxRecDepth 100000 in
theorem l_La_106 : q_ML "StuckSearchLaw" 106 m_Mo_value 2 := ⟨Or.inl (q_i 1032 (by rfl)), q_i 1035 (by rfl), q_i 11 (by rfl), ⟨by decide, by decide⟩, by decide +kernel⟩
set_option maxRecDepth 100000 in
theorem l_La_107 : q_ML "StuckSearchLaw" 107 m_S_moves 0 := ⟨Or.inl (q_i 500 (by rfl)), q_i 503 (by rfl), q_i 1 (by rfl), ⟨by decide, by decide⟩, by decide +kernel⟩
set_option maxRecDepth 100000 in
theorem l_La_110 : q_ML "StuckSearchLaw" 110 m_Mo_moves 0 := ⟨Or.inl (q_i 967 (by rfl)), q_i 970 (by rfl), q_i 11 (by rfl), ⟨by decide, by decide⟩, by decide +kernel⟩
set_option maxRecDepth 100000 in
theorem l_La_111 : q_ML "StuckSearchLaw" 111 m_La_move 3 := ⟨Or.inl (q_i 683 (by rfl)), q_i 685 (by rfl), q_i 0 (by rfl), ⟨by decide, by decide⟩, by decide +kernel⟩
set_option maxRecDepth 100000 in
theorem l_La_114 : q_ML "StuckSearchLaw" 114 m_Mo_move 1 := ⟨Or.inl (q_i 983 (by rfl)), q_i 986 (by rfl), q_i 11 (by rfl), ⟨by decide, by decide⟩, by decide +kernel⟩
set_option maxRecDepth 100000 in
theorem l_La_115 : q_ML "StuckSearchLaw" 115 m_S_restart 0 := ⟨Or.inl (q_i 511 (by rfl)), q_i 514 (by rfl), q_i 1 (by rfl), ⟨by decide, by decide⟩, by decide +kernel⟩
set_option maxRecDepth 100000 in
theorem l_La_118 : q_ML "StuckSearchLaw" 118 m_Mo_restart 0 := ⟨Or.inl (q_i 987 (by rfl)), q_i 990 (by rfl), q_i 11 (by rfl), ⟨by decide, by decide⟩, by decide +kernel⟩
set_option maxRecDepth 100000 in
theorem l_La_119 : q_ML "StuckSearchLaw" 119 m_La_now 3 := ⟨Or.inl (q_i 696 (by rfl)), q_i 698 (by rfl), q_i 0 (by rfl), ⟨by decide, by decide⟩, by decide +kernel⟩
set_option maxRecDepth 100000 in
theorem l_La_121 : q_ML "StuckSearchLaw" 121 m_Mo_now 1 := ⟨Or.inl (q_i 991 (by rfl)), q_i 994 (by rfl), q_i 11 (by rfl), ⟨by decide, by decide⟩, by decide +kernel⟩
set_option maxRecDepth 100000 in
theorem l_La_122 : q_ML "StuckSearchLaw" 122 m_La_has 3 := ⟨Or.inl (q_i 703 (by rfl)), q_i 705 (by rfl), q_i 0 (by rfl), ⟨by decide, by decide⟩, by decide +kernel⟩
set_option maxRecDepth 100000 in
theorem l_La_124 : q_ML "StuckSearchLaw" 124 m_Mo_has 1 := ⟨Or.inl (q_i 995 (by rfl)), q_i 998 (by rfl), q_i 11 (by rfl), ⟨by decide, by decide⟩, by decide +kernel⟩
set_option maxRecDepth 100000 in
theorem l_La_125 : q_ML "StuckSearchLaw" 125 m_La_falls 2 := ⟨Or.inl (q_i 710 (by rfl)), q_i 712 (by rfl), q_i 0 (by rfl), ⟨by decide, by decide⟩, by decide +kernel⟩
set_option maxRecDepth 100000 in
theorem l_La_128 : q_ML "StuckSearchLaw" 128 m_Mo_falls 0 := ⟨Or.inl (q_i 1036 (by rfl)), q_i 1039 (by rfl), q_i 11 (by rfl), ⟨by decide, by decide⟩, by decide +kernel⟩
set_option maxRecDepth 100000 in
theorem lo_Mo_1 : Jvm.Cond.methodLink "StuckSearchModel" 1 Lib.objectInit ∈ q_gw := q_i 753 (by rfl)
set_option maxRecDepth 100000 in
theorem l_Mo_108 : q_ML "StuckSearchModel" 108 m_Mo_begin 0 := ⟨Or.inl (q_i 896 (by rfl)), q_i 899 (by rfl), q_i 11 (by rfl), ⟨by decide, by decide⟩, by decide +kernel⟩
set_option maxRecDepth 100000 in
theorem l_Mo_120 : q_ML "StuckSearchModel" 120 m_Mo_beginRow 0 := ⟨Or.inl (q_i 912 (by rfl)), q_i 915 (by rfl), q_i 11 (by rfl), ⟨by decide, by decide⟩, by decide +kernel⟩
set_option maxRecDepth 100000 in
theorem l_Mo_126 : q_ML "StuckSearchModel" 126 m_Mo_byteAt 1 := ⟨Or.inl (q_i 920 (by rfl)), q_i 923 (by rfl), q_i 11 (by rfl), ⟨by decide, by decide⟩, by decide +kernel⟩
set_option maxRecDepth 100000 in
theorem l_Mo_139 : q_ML "StuckSearchModel" 139 m_Mo_lead 2 := ⟨Or.inl (q_i 936 (by rfl)), q_i 939 (by rfl), q_i 11 (by rfl), ⟨by decide, by decide⟩, by decide +kernel⟩
set_option maxRecDepth 100000 in
theorem l_Mo_146 : q_ML "StuckSearchModel" 146 m_Mo_take 0 := ⟨Or.inl (q_i 932 (by rfl)), q_i 935 (by rfl), q_i 11 (by rfl), ⟨by decide, by decide⟩, by decide +kernel⟩
set_option maxRecDepth 100000 in
theorem l_Mo_149 : q_ML "StuckSearchModel" 149 m_Mo_fail 2 := ⟨Or.inl (q_i 924 (by rfl)), q_i 927 (by rfl), q_i 11 (by rfl), ⟨by decide, by decide⟩, by decide +kernel⟩
set_option maxRecDepth 100000 in
theorem l_Mo_152 : q_ML "StuckSearchModel" 152 m_Mo_act 3 := ⟨Or.inl (q_i 944 (by rfl)), q_i 947 (by rfl), q_i 11 (by rfl), ⟨by decide, by decide⟩, by decide +kernel⟩
set_option maxRecDepth 100000 in
theorem l_Mo_156 : q_ML "StuckSearchModel" 156 m_Mo_beginChoices 0 := ⟨Or.inl (q_i 908 (by rfl)), q_i 911 (by rfl), q_i 11 (by rfl), ⟨by decide, by decide⟩, by decide +kernel⟩
set_option maxRecDepth 100000 in
theorem l_Mo_159 : q_ML "StuckSearchModel" 159 m_Mo_endRow 0 := ⟨Or.inl (q_i 928 (by rfl)), q_i 931 (by rfl), q_i 11 (by rfl), ⟨by decide, by decide⟩, by decide +kernel⟩
set_option maxRecDepth 100000 in
theorem l_Mo_162 : q_ML "StuckSearchModel" 162 m_Mo_readAct 0 := ⟨Or.inl (q_i 940 (by rfl)), q_i 943 (by rfl), q_i 11 (by rfl), ⟨by decide, by decide⟩, by decide +kernel⟩
set_option maxRecDepth 100000 in
theorem l_Mo_165 : q_ML "StuckSearchModel" 165 m_Mo_step 0 := ⟨Or.inl (q_i 916 (by rfl)), q_i 919 (by rfl), q_i 11 (by rfl), ⟨by decide, by decide⟩, by decide +kernel⟩
set_option maxRecDepth 100000 in
theorem l_Mo_168 : q_ML "StuckSearchModel" 168 m_Mo_noProcess 1 := ⟨Or.inl (q_i 960 (by rfl)), q_i 963 (by rfl), q_i 11 (by rfl), ⟨by decide, by decide⟩, by decide +kernel⟩
set_option maxRecDepth 100000 in
theorem l_Mo_172 : q_ML "StuckSearchModel" 172 m_Mo_ones 1 := ⟨Or.inl (q_i 964 (by rfl)), q_i 966 (by rfl), q_i 11 (by rfl), ⟨by decide, by decide⟩, by decide +kernel⟩
set_option maxRecDepth 100000 in
theorem l_Mo_175 : q_ML "StuckSearchModel" 175 m_Mo_goes 2 := ⟨Or.inl (q_i 979 (by rfl)), q_i 982 (by rfl), q_i 11 (by rfl), ⟨by decide, by decide⟩, by decide +kernel⟩
set_option maxRecDepth 100000 in
theorem l_Mo_179 : q_ML "StuckSearchModel" 179 m_Mo_fromNow 0 := ⟨Or.inl (q_i 971 (by rfl)), q_i 974 (by rfl), q_i 11 (by rfl), ⟨by decide, by decide⟩, by decide +kernel⟩
set_option maxRecDepth 100000 in
theorem l_Mo_182 : q_ML "StuckSearchModel" 182 m_Mo_possible 0 := ⟨Or.inl (q_i 975 (by rfl)), q_i 978 (by rfl), q_i 11 (by rfl), ⟨by decide, by decide⟩, by decide +kernel⟩
set_option maxRecDepth 100000 in
theorem l_Mo_186 : q_ML "StuckSearchModel" 186 m_Mo_apart 1 := ⟨Or.inl (q_i 1020 (by rfl)), q_i 1023 (by rfl), q_i 11 (by rfl), ⟨by decide, by decide⟩, by decide +kernel⟩
set_option maxRecDepth 100000 in
theorem l_Mo_190 : q_ML "StuckSearchModel" 190 m_Mo_number 1 := ⟨Or.inl (q_i 1012 (by rfl)), q_i 1015 (by rfl), q_i 11 (by rfl), ⟨by decide, by decide⟩, by decide +kernel⟩
set_option maxRecDepth 100000 in
theorem l_Mo_194 : q_ML "StuckSearchModel" 194 m_Mo_product 0 := ⟨Or.inl (q_i 1007 (by rfl)), q_i 1002 (by rfl), q_i 11 (by rfl), ⟨by decide, by decide⟩, by decide +kernel⟩
set_option maxRecDepth 100000 in
theorem l_Mo_197 : q_ML "StuckSearchModel" 197 m_Mo_walk 1 := ⟨Or.inl (q_i 1016 (by rfl)), q_i 1019 (by rfl), q_i 11 (by rfl), ⟨by decide, by decide⟩, by decide +kernel⟩
set_option maxRecDepth 100000 in
theorem l_Mo_206 : q_ML "StuckSearchModel" 206 m_Mo_know 0 := ⟨Or.inl (q_i 1008 (by rfl)), q_i 1011 (by rfl), q_i 11 (by rfl), ⟨by decide, by decide⟩, by decide +kernel⟩
set_option maxRecDepth 100000 in
theorem oi_1 : Jvm.Cond.instanceMethod Lib.objectInit ∈ q_gw := q_i 28 (by rfl)
set_option maxRecDepth 100000 in
theorem oi_2 : Jvm.Cond.code Lib.objectInit ⟨#[0xb1]⟩ 1 none ∈ q_gw := q_i 29 (by rfl)
set_option maxRecDepth 100000 in
theorem n_S_7 : q_N "StuckSearch" 7 1 2 := ⟨("StuckSearch$Tape", q_T1, 2), rfl, rfl, q_i 30 (by rfl), q_i 31 (by rfl), q_i 2 (by rfl)⟩
set_option maxRecDepth 100000 in
theorem n_S_16 : q_N "StuckSearch" 16 2 5 := ⟨("StuckSearch$World", q_T2, 5), rfl, rfl, q_i 46 (by rfl), q_i 47 (by rfl), q_i 3 (by rfl)⟩
set_option maxRecDepth 100000 in
theorem n_S_23 : q_N "StuckSearch" 23 4 9 := ⟨("StuckSearch$TextReader", q_T4, 9), rfl, rfl, q_i 114 (by rfl), q_i 115 (by rfl), q_i 6 (by rfl)⟩
set_option maxRecDepth 100000 in
theorem n_S_32 : q_N "StuckSearch" 32 6 12 := ⟨("StuckSearch$Search", q_T6, 12), rfl, rfl, q_i 173 (by rfl), q_i 174 (by rfl), q_i 8 (by rfl)⟩
set_option maxRecDepth 100000 in
theorem n_S_41 : q_N "StuckSearch" 41 8 2 := ⟨("StuckSearch$State", q_T8, 2), rfl, rfl, q_i 252 (by rfl), q_i 194 (by rfl), q_i 10 (by rfl)⟩
set_option maxRecDepth 100000 in
theorem n_Se_9 : q_N "StuckSearch$Search" 9 7 2 := ⟨("StuckSearch$StateSet", q_T7, 2), rfl, rfl, q_i 179 (by rfl), q_i 180 (by rfl), q_i 9 (by rfl)⟩
set_option maxRecDepth 100000 in
theorem n_Se_27 : q_N "StuckSearch$Search" 27 8 2 := ⟨("StuckSearch$State", q_T8, 2), rfl, rfl, q_i 193 (by rfl), q_i 194 (by rfl), q_i 10 (by rfl)⟩
set_option maxRecDepth 100000 in
theorem k_Re_9 : Jvm.Cond.classLink "StuckSearch$TextReader" 9 "StuckSearch$Part" ∈ q_gw := q_i 120 (by rfl)
set_option maxRecDepth 100000 in
theorem n_Re_9 : q_N "StuckSearch$TextReader" 9 5 3 := ⟨("StuckSearch$Part", q_T5, 3), rfl, rfl, q_i 120 (by rfl), q_i 122 (by rfl), q_i 7 (by rfl)⟩
set_option maxRecDepth 100000 in
theorem k_Wo_18 : Jvm.Cond.classLink "StuckSearch$World" 18 "StuckSearch$Course" ∈ q_gw := q_i 52 (by rfl)
set_option maxRecDepth 100000 in
theorem n_Wo_18 : q_N "StuckSearch$World" 18 3 6 := ⟨("StuckSearch$Course", q_T3, 6), rfl, rfl, q_i 52 (by rfl), q_i 57 (by rfl), q_i 5 (by rfl)⟩
set_option maxRecDepth 100000 in
theorem n_La_8 : q_N "StuckSearchLaw" 8 0 6 := ⟨("StuckSearch", q_T0, 6), rfl, rfl, q_i 22 (by rfl), q_i 23 (by rfl), q_i 1 (by rfl)⟩
set_option maxRecDepth 100000 in
theorem n_La_47 : q_N "StuckSearchLaw" 47 9 41 := ⟨("StuckSearchModel", q_T9, 41), rfl, rfl, q_i 748 (by rfl), q_i 749 (by rfl), q_i 11 (by rfl)⟩
set_option maxRecDepth 100000 in
theorem c_In_265 : Jvm.Cond.constant "java/lang/Integer" 265 1431655765 ∈ q_gw := q_i 508 (by rfl)
set_option maxRecDepth 100000 in
theorem c_In_266 : Jvm.Cond.constant "java/lang/Integer" 266 858993459 ∈ q_gw := q_i 509 (by rfl)
set_option maxRecDepth 100000 in
theorem c_In_267 : Jvm.Cond.constant "java/lang/Integer" 267 252645135 ∈ q_gw := q_i 510 (by rfl)
set_option maxRecDepth 100000 in
theorem c_Wo_45 : Jvm.Cond.constantLong "StuckSearch$World" 45 30000 ∈ q_gw := q_i 409 (by rfl)
set_option maxRecDepth 100000 in
theorem c_La_50 : Jvm.Cond.constantLong "StuckSearchLaw" 50 4294967295 ∈ q_gw := q_i 1040 (by rfl)
set_option maxRecDepth 100000 in
theorem c_Mo_96 : Jvm.Cond.constantLong "StuckSearchModel" 96 255 ∈ q_gw := q_i 887 (by rfl)
set_option maxRecDepth 100000 in
theorem c_Lo_314 : Jvm.Cond.constantLong "java/lang/Long" 314 6148914691236517205 ∈ q_gw := q_i 457 (by rfl)
set_option maxRecDepth 100000 in
theorem c_Lo_316 : Jvm.Cond.constantLong "java/lang/Long" 316 3689348814741910323 ∈ q_gw := q_i 458 (by rfl)
set_option maxRecDepth 100000 in
theorem c_Lo_318 : Jvm.Cond.constantLong "java/lang/Long" 318 1085102592571150095 ∈ q_gw := q_i 459 (by rfl)
set_option maxRecDepth 100000 in
theorem a_i : Jvm.Cond.arrayClass .int ∈ q_gw := q_i 89 (by rfl)
set_option maxRecDepth 100000 in
theorem a_l : Jvm.Cond.arrayClass .long ∈ q_gw := q_i 192 (by rfl)
set_option maxRecDepth 100000 in
theorem a_b : Jvm.Cond.arrayClass .byte ∈ q_gw := q_i 45 (by rfl)
set_option maxRecDepth 100000 in
theorem a_z : Jvm.Cond.arrayClass .boolean ∈ q_gw := q_i 878 (by rfl)
set_option maxRecDepth 100000 in
theorem a_Co : Jvm.Cond.arrayOver (.object "StuckSearch$Course") ∈ q_gw := q_i 53 (by rfl)
set_option maxRecDepth 100000 in
theorem a_Pa : Jvm.Cond.arrayOver (.object "StuckSearch$Part") ∈ q_gw := q_i 121 (by rfl)
end NAMES2
