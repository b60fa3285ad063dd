/-! every method's blocks are its code's, by the kernel -/
set_option maxRecDepth 100000 in
theorem ck_Acts_note : mm_chkB mr_1 mb_Acts_note = true := by decide +kernel
set_option maxRecDepth 100000 in
theorem ck_Acts_takeLast : mm_chkB mr_2 mb_Acts_takeLast = true := by decide +kernel
set_option maxRecDepth 100000 in
theorem ck_Plan_lay : mm_chkB mr_101 mb_Plan_lay = true := by decide +kernel
set_option maxRecDepth 100000 in
theorem ck_Plan_keyOf : mm_chkB mr_102 mb_Plan_keyOf = true := by decide +kernel
set_option maxRecDepth 100000 in
theorem ck_Plan_thereAndBack : mm_chkB mr_103 mb_Plan_thereAndBack = true := by decide +kernel
set_option maxRecDepth 100000 in
theorem ck_Plan_curve : mm_chkB mr_104 mb_Plan_curve = true := by decide +kernel
set_option maxRecDepth 100000 in
theorem ck_Plan_follow : mm_chkB mr_105 mb_Plan_follow = true := by decide +kernel
set_option maxRecDepth 100000 in
theorem ck_Plan_goAhead : mm_chkB mr_106 mb_Plan_goAhead = true := by decide +kernel
set_option maxRecDepth 100000 in
theorem ck_Q_isPlannedKind : mm_chkB mr_201 mb_Q_isPlannedKind = true := by decide +kernel
set_option maxRecDepth 100000 in
theorem ck_Q_copyFrom : mm_chkB mr_202 mb_Q_copyFrom = true := by decide +kernel
set_option maxRecDepth 100000 in
theorem ck_Q_has : mm_chkB mr_203 mb_Q_has = true := by decide +kernel
set_option maxRecDepth 100000 in
theorem ck_Q_add : mm_chkB mr_204 mb_Q_add = true := by decide +kernel
set_option maxRecDepth 100000 in
theorem ck_Q_removeLast : mm_chkB mr_205 mb_Q_removeLast = true := by decide +kernel
set_option maxRecDepth 100000 in
theorem ck_Q_isPlanned : mm_chkB mr_206 mb_Q_isPlanned = true := by decide +kernel
set_option maxRecDepth 100000 in
theorem ck_Q_areAlike : mm_chkB mr_207 mb_Q_areAlike = true := by decide +kernel
set_option maxRecDepth 100000 in
theorem ck_Q_firstAlike : mm_chkB mr_208 mb_Q_firstAlike = true := by decide +kernel
set_option maxRecDepth 100000 in
theorem ck_Q_howManyAlike : mm_chkB mr_209 mb_Q_howManyAlike = true := by decide +kernel
set_option maxRecDepth 100000 in
theorem ck_Q_unlikeOnes : mm_chkB mr_210 mb_Q_unlikeOnes = true := by decide +kernel
set_option maxRecDepth 100000 in
theorem ck_Q_howManyHave : mm_chkB mr_211 mb_Q_howManyHave = true := by decide +kernel
set_option maxRecDepth 100000 in
theorem ck_Q_aim : mm_chkB mr_212 mb_Q_aim = true := by decide +kernel
set_option maxRecDepth 100000 in
theorem ck_Rd_put : mm_chkB mr_301 mb_Rd_put = true := by decide +kernel
set_option maxRecDepth 100000 in
theorem ck_Rd_read : mm_chkB mr_302 mb_Rd_read = true := by decide +kernel
set_option maxRecDepth 100000 in
theorem ck_Rd_readLine : mm_chkB mr_303 mb_Rd_readLine = true := by decide +kernel
set_option maxRecDepth 100000 in
theorem ck_Rd_readRow : mm_chkB mr_304 mb_Rd_readRow = true := by decide +kernel
set_option maxRecDepth 100000 in
theorem ck_Rd_readCell : mm_chkB mr_305 mb_Rd_readCell = true := by decide +kernel
set_option maxRecDepth 100000 in
theorem ck_Rd_readSet : mm_chkB mr_306 mb_Rd_readSet = true := by decide +kernel
set_option maxRecDepth 100000 in
theorem ck_Rd_readAsk : mm_chkB mr_307 mb_Rd_readAsk = true := by decide +kernel
set_option maxRecDepth 100000 in
theorem ck_Rd_readTime : mm_chkB mr_308 mb_Rd_readTime = true := by decide +kernel
set_option maxRecDepth 100000 in
theorem ck_Rd_kindHere : mm_chkB mr_309 mb_Rd_kindHere = true := by decide +kernel
set_option maxRecDepth 100000 in
theorem ck_Rd_refuse : mm_chkB mr_310 mb_Rd_refuse = true := by decide +kernel
set_option maxRecDepth 100000 in
theorem ck_Rd_pass : mm_chkB mr_311 mb_Rd_pass = true := by decide +kernel
set_option maxRecDepth 100000 in
theorem ck_Rd_isWhole : mm_chkB mr_312 mb_Rd_isWhole = true := by decide +kernel
set_option maxRecDepth 100000 in
theorem ck_Rd_next : mm_chkB mr_314 mb_Rd_next = true := by decide +kernel
set_option maxRecDepth 100000 in
theorem ck_Rd_readWord : mm_chkB mr_315 mb_Rd_readWord = true := by decide +kernel
set_option maxRecDepth 100000 in
theorem ck_Rd_readWhole : mm_chkB mr_316 mb_Rd_readWhole = true := by decide +kernel
set_option maxRecDepth 100000 in
theorem ck_Rd_byteAt : mm_chkB mr_317 mb_Rd_byteAt = true := by decide +kernel
set_option maxRecDepth 100000 in
theorem ck_Rd_isBlank : mm_chkB mr_318 mb_Rd_isBlank = true := by decide +kernel
set_option maxRecDepth 100000 in
theorem ck_Rd_isLetter : mm_chkB mr_319 mb_Rd_isLetter = true := by decide +kernel
set_option maxRecDepth 100000 in
theorem ck_Rd_isDigit : mm_chkB mr_320 mb_Rd_isDigit = true := by decide +kernel
set_option maxRecDepth 100000 in
theorem ck_Row_clear : mm_chkB mr_401 mb_Row_clear = true := by decide +kernel
set_option maxRecDepth 100000 in
theorem ck_Row_copyFrom : mm_chkB mr_402 mb_Row_copyFrom = true := by decide +kernel
set_option maxRecDepth 100000 in
theorem ck_Row_has : mm_chkB mr_403 mb_Row_has = true := by decide +kernel
set_option maxRecDepth 100000 in
theorem ck_Row_hasTime : mm_chkB mr_404 mb_Row_hasTime = true := by decide +kernel
set_option maxRecDepth 100000 in
theorem ck_Row_hasRoomForCell : mm_chkB mr_405 mb_Row_hasRoomForCell = true := by decide +kernel
set_option maxRecDepth 100000 in
theorem ck_Row_hasRoomForChange : mm_chkB mr_406 mb_Row_hasRoomForChange = true := by decide +kernel
set_option maxRecDepth 100000 in
theorem ck_Row_addCell : mm_chkB mr_407 mb_Row_addCell = true := by decide +kernel
set_option maxRecDepth 100000 in
theorem ck_Row_setCell : mm_chkB mr_408 mb_Row_setCell = true := by decide +kernel
set_option maxRecDepth 100000 in
theorem ck_Row_addChange : mm_chkB mr_409 mb_Row_addChange = true := by decide +kernel
set_option maxRecDepth 100000 in
theorem ck_Row_removeLastChange : mm_chkB mr_410 mb_Row_removeLastChange = true := by decide +kernel
set_option maxRecDepth 100000 in
theorem ck_Row_numberAt : mm_chkB mr_411 mb_Row_numberAt = true := by decide +kernel
set_option maxRecDepth 100000 in
theorem ck_Row_asAt : mm_chkB mr_412 mb_Row_asAt = true := by decide +kernel
set_option maxRecDepth 100000 in
theorem ck_Srt_key : mm_chkB mr_501 mb_Srt_key = true := by decide +kernel
set_option maxRecDepth 100000 in
theorem ck_Srt_insert : mm_chkB mr_502 mb_Srt_insert = true := by decide +kernel
set_option maxRecDepth 100000 in
theorem ck_Srt_question : mm_chkB mr_503 mb_Srt_question = true := by decide +kernel
set_option maxRecDepth 100000 in
theorem ck_Srt_goesOn : mm_chkB mr_504 mb_Srt_goesOn = true := by decide +kernel
set_option maxRecDepth 100000 in
theorem ck_Spl_measure : mm_chkB mr_601 mb_Spl_measure = true := by decide +kernel
set_option maxRecDepth 100000 in
theorem ck_Spl_costOfRow : mm_chkB mr_602 mb_Spl_costOfRow = true := by decide +kernel
set_option maxRecDepth 100000 in
theorem ck_Spl_solve : mm_chkB mr_603 mb_Spl_solve = true := by decide +kernel
set_option maxRecDepth 100000 in
theorem ck_Spl_leastFrom : mm_chkB mr_604 mb_Spl_leastFrom = true := by decide +kernel
set_option maxRecDepth 100000 in
theorem ck_Spl_greatest : mm_chkB mr_605 mb_Spl_greatest = true := by decide +kernel
set_option maxRecDepth 100000 in
theorem ck_Spl_share : mm_chkB mr_606 mb_Spl_share = true := by decide +kernel
set_option maxRecDepth 100000 in
theorem ck_Spl_furthest : mm_chkB mr_607 mb_Spl_furthest = true := by decide +kernel
set_option maxRecDepth 100000 in
theorem ck_Tal_take : mm_chkB mr_701 mb_Tal_take = true := by decide +kernel
set_option maxRecDepth 100000 in
theorem ck_Tal_tell : mm_chkB mr_702 mb_Tal_tell = true := by decide +kernel
set_option maxRecDepth 100000 in
theorem ck_Tal_sum : mm_chkB mr_703 mb_Tal_sum = true := by decide +kernel
set_option maxRecDepth 100000 in
theorem ck_Tal_unlike : mm_chkB mr_704 mb_Tal_unlike = true := by decide +kernel
set_option maxRecDepth 100000 in
theorem ck_Tal_mostFrequent : mm_chkB mr_705 mb_Tal_mostFrequent = true := by decide +kernel
set_option maxRecDepth 100000 in
theorem ck_Tal_power : mm_chkB mr_706 mb_Tal_power = true := by decide +kernel
set_option maxRecDepth 100000 in
theorem ck_Tal_missing : mm_chkB mr_707 mb_Tal_missing = true := by decide +kernel
set_option maxRecDepth 100000 in
theorem ck_Tal_parts : mm_chkB mr_708 mb_Tal_parts = true := by decide +kernel
set_option maxRecDepth 100000 in
theorem ck_Tal_join : mm_chkB mr_709 mb_Tal_join = true := by decide +kernel
set_option maxRecDepth 100000 in
theorem ck_Tal_pairs : mm_chkB mr_710 mb_Tal_pairs = true := by decide +kernel
set_option maxRecDepth 100000 in
theorem ck_Und_lay : mm_chkB mr_801 mb_Und_lay = true := by decide +kernel
set_option maxRecDepth 100000 in
theorem ck_Und_follow : mm_chkB mr_802 mb_Und_follow = true := by decide +kernel
set_option maxRecDepth 100000 in
theorem ck_Und_come : mm_chkB mr_803 mb_Und_come = true := by decide +kernel
set_option maxRecDepth 100000 in
theorem ck_Win_begin : mm_chkB mr_901 mb_Win_begin = true := by decide +kernel
set_option maxRecDepth 100000 in
theorem ck_Win_has : mm_chkB mr_902 mb_Win_has = true := by decide +kernel
set_option maxRecDepth 100000 in
theorem ck_Win_cost : mm_chkB mr_903 mb_Win_cost = true := by decide +kernel
set_option maxRecDepth 100000 in
theorem ck_Win_aim : mm_chkB mr_904 mb_Win_aim = true := by decide +kernel
set_option maxRecDepth 100000 in
theorem ck_Win_distance : mm_chkB mr_905 mb_Win_distance = true := by decide +kernel
set_option maxRecDepth 100000 in
theorem ck_Win_nextKind : mm_chkB mr_906 mb_Win_nextKind = true := by decide +kernel
set_option maxRecDepth 100000 in
theorem ck_Win_make : mm_chkB mr_907 mb_Win_make = true := by decide +kernel
set_option maxRecDepth 100000 in
theorem ck_Win_shift : mm_chkB mr_908 mb_Win_shift = true := by decide +kernel
set_option maxRecDepth 100000 in
theorem ck_Win_movedBy : mm_chkB mr_909 mb_Win_movedBy = true := by decide +kernel
set_option maxRecDepth 100000 in
theorem ck_P_feed : mm_chkB mr_1001 mb_P_feed = true := by decide +kernel
set_option maxRecDepth 100000 in
theorem ck_P_text : mm_chkB mr_1002 mb_P_text = true := by decide +kernel
set_option maxRecDepth 100000 in
theorem ck_P_cell : mm_chkB mr_1003 mb_P_cell = true := by decide +kernel
set_option maxRecDepth 100000 in
theorem ck_P_change : mm_chkB mr_1004 mb_P_change = true := by decide +kernel
set_option maxRecDepth 100000 in
theorem ck_P_ask : mm_chkB mr_1005 mb_P_ask = true := by decide +kernel
set_option maxRecDepth 100000 in
theorem ck_P_drop : mm_chkB mr_1006 mb_P_drop = true := by decide +kernel
set_option maxRecDepth 100000 in
theorem ck_P_weight : mm_chkB mr_1007 mb_P_weight = true := by decide +kernel
set_option maxRecDepth 100000 in
theorem ck_P_set : mm_chkB mr_1008 mb_P_set = true := by decide +kernel
set_option maxRecDepth 100000 in
theorem ck_P_back : mm_chkB mr_1009 mb_P_back = true := by decide +kernel
set_option maxRecDepth 100000 in
theorem ck_P_at : mm_chkB mr_1011 mb_P_at = true := by decide +kernel
set_option maxRecDepth 100000 in
theorem ck_P_of : mm_chkB mr_1012 mb_P_of = true := by decide +kernel
set_option maxRecDepth 100000 in
theorem ck_P_planned : mm_chkB mr_1013 mb_P_planned = true := by decide +kernel
set_option maxRecDepth 100000 in
theorem ck_P_moves : mm_chkB mr_1014 mb_P_moves = true := by decide +kernel
set_option maxRecDepth 100000 in
theorem ck_P_best : mm_chkB mr_1015 mb_P_best = true := by decide +kernel
set_option maxRecDepth 100000 in
theorem ck_P_split : mm_chkB mr_1016 mb_P_split = true := by decide +kernel
set_option maxRecDepth 100000 in
theorem ck_P_move : mm_chkB mr_1017 mb_P_move = true := by decide +kernel
set_option maxRecDepth 100000 in
theorem ck_P_saves : mm_chkB mr_1018 mb_P_saves = true := by decide +kernel
set_option maxRecDepth 100000 in
theorem ck_P_would : mm_chkB mr_1019 mb_P_would = true := by decide +kernel
set_option maxRecDepth 100000 in
theorem ck_P_undone : mm_chkB mr_1020 mb_P_undone = true := by decide +kernel
set_option maxRecDepth 100000 in
theorem ck_P_adds : mm_chkB mr_1021 mb_P_adds = true := by decide +kernel
set_option maxRecDepth 100000 in
theorem ck_P_walk : mm_chkB mr_1022 mb_P_walk = true := by decide +kernel
set_option maxRecDepth 100000 in
theorem ck_P_home : mm_chkB mr_1023 mb_P_home = true := by decide +kernel
set_option maxRecDepth 100000 in
theorem ck_P_window : mm_chkB mr_1024 mb_P_window = true := by decide +kernel
set_option maxRecDepth 100000 in
theorem ck_P_holds : mm_chkB mr_1025 mb_P_holds = true := by decide +kernel
set_option maxRecDepth 100000 in
theorem ck_P_tells : mm_chkB mr_1026 mb_P_tells = true := by decide +kernel
set_option maxRecDepth 100000 in
theorem ck_P_touched : mm_chkB mr_1027 mb_P_touched = true := by decide +kernel
set_option maxRecDepth 100000 in
theorem ck_P_count : mm_chkB mr_1028 mb_P_count = true := by decide +kernel
set_option maxRecDepth 100000 in
theorem ck_P_isNumber : mm_chkB mr_1029 mb_P_isNumber = true := by decide +kernel
set_option maxRecDepth 100000 in
theorem ck_P_isKind : mm_chkB mr_1030 mb_P_isKind = true := by decide +kernel
set_option maxRecDepth 100000 in
theorem ck_P_isBlock : mm_chkB mr_1031 mb_P_isBlock = true := by decide +kernel
set_option maxRecDepth 100000 in
theorem ck_P_isPlan : mm_chkB mr_1032 mb_P_isPlan = true := by decide +kernel
set_option maxRecDepth 100000 in
theorem ck_P_isQuestion : mm_chkB mr_1033 mb_P_isQuestion = true := by decide +kernel
set_option maxRecDepth 100000 in
theorem ck_P_timeMeant : mm_chkB mr_1034 mb_P_timeMeant = true := by decide +kernel
set_option maxRecDepth 100000 in
theorem ck_P_takeBackChange : mm_chkB mr_1035 mb_P_takeBackChange = true := by decide +kernel
set_option maxRecDepth 100000 in
theorem ck_P_answerOf : mm_chkB mr_1036 mb_P_answerOf = true := by decide +kernel
set_option maxRecDepth 100000 in
theorem ck_P_tallyWindow : mm_chkB mr_1037 mb_P_tallyWindow = true := by decide +kernel
set_option maxRecDepth 100000 in
theorem ck_P_costOf : mm_chkB mr_1038 mb_P_costOf = true := by decide +kernel
set_option maxRecDepth 100000 in
theorem ck_P_bound : mm_chkB mr_1039 mb_P_bound = true := by decide +kernel
set_option maxRecDepth 100000 in
theorem ck_P_busiestCell : mm_chkB mr_1040 mb_P_busiestCell = true := by decide +kernel
set_option maxRecDepth 100000 in
theorem ck_M_thrown : mm_chkB mr_1101 mb_M_thrown = true := by decide +kernel
set_option maxRecDepth 100000 in
theorem ck_M_within : mm_chkB mr_1102 mb_M_within = true := by decide +kernel
set_option maxRecDepth 100000 in
theorem ck_M_feed : mm_chkB mr_1103 mb_M_feed = true := by decide +kernel
set_option maxRecDepth 100000 in
theorem ck_M_puts : mm_chkB mr_1104 mb_M_puts = true := by decide +kernel
set_option maxRecDepth 100000 in
theorem ck_M_byteAt : mm_chkB mr_1105 mb_M_byteAt = true := by decide +kernel
set_option maxRecDepth 100000 in
theorem ck_M_isLetter : mm_chkB mr_1106 mb_M_isLetter = true := by decide +kernel
set_option maxRecDepth 100000 in
theorem ck_M_isDigit : mm_chkB mr_1107 mb_M_isDigit = true := by decide +kernel
set_option maxRecDepth 100000 in
theorem ck_M_go : mm_chkB mr_1108 mb_M_go = true := by decide +kernel
set_option maxRecDepth 100000 in
theorem ck_M_wrong : mm_chkB mr_1109 mb_M_wrong = true := by decide +kernel
set_option maxRecDepth 100000 in
theorem ck_M_isSign : mm_chkB mr_1110 mb_M_isSign = true := by decide +kernel
set_option maxRecDepth 100000 in
theorem ck_M_isWord : mm_chkB mr_1111 mb_M_isWord = true := by decide +kernel
set_option maxRecDepth 100000 in
theorem ck_M_byteOf : mm_chkB mr_1112 mb_M_byteOf = true := by decide +kernel
set_option maxRecDepth 100000 in
theorem ck_M_isSet : mm_chkB mr_1113 mb_M_isSet = true := by decide +kernel
set_option maxRecDepth 100000 in
theorem ck_M_isAsk : mm_chkB mr_1114 mb_M_isAsk = true := by decide +kernel
set_option maxRecDepth 100000 in
theorem ck_M_isRow : mm_chkB mr_1115 mb_M_isRow = true := by decide +kernel
set_option maxRecDepth 100000 in
theorem ck_M_kindHere : mm_chkB mr_1116 mb_M_kindHere = true := by decide +kernel
set_option maxRecDepth 100000 in
theorem ck_M_number : mm_chkB mr_1117 mb_M_number = true := by decide +kernel
set_option maxRecDepth 100000 in
theorem ck_M_rowCell : mm_chkB mr_1118 mb_M_rowCell = true := by decide +kernel
set_option maxRecDepth 100000 in
theorem ck_M_rowLine : mm_chkB mr_1119 mb_M_rowLine = true := by decide +kernel
set_option maxRecDepth 100000 in
theorem ck_M_setLine : mm_chkB mr_1120 mb_M_setLine = true := by decide +kernel
set_option maxRecDepth 100000 in
theorem ck_M_askLine : mm_chkB mr_1121 mb_M_askLine = true := by decide +kernel
set_option maxRecDepth 100000 in
theorem ck_M_line : mm_chkB mr_1122 mb_M_line = true := by decide +kernel
set_option maxRecDepth 100000 in
theorem ck_M_text : mm_chkB mr_1123 mb_M_text = true := by decide +kernel
set_option maxRecDepth 100000 in
theorem ck_M_takes : mm_chkB mr_1124 mb_M_takes = true := by decide +kernel
set_option maxRecDepth 100000 in
theorem ck_M_keeps : mm_chkB mr_1125 mb_M_keeps = true := by decide +kernel
set_option maxRecDepth 100000 in
theorem ck_M_isCell : mm_chkB mr_1126 mb_M_isCell = true := by decide +kernel
set_option maxRecDepth 100000 in
theorem ck_M_isQuestion : mm_chkB mr_1127 mb_M_isQuestion = true := by decide +kernel
set_option maxRecDepth 100000 in
theorem ck_M_cell : mm_chkB mr_1128 mb_M_cell = true := by decide +kernel
set_option maxRecDepth 100000 in
theorem ck_M_change : mm_chkB mr_1129 mb_M_change = true := by decide +kernel
set_option maxRecDepth 100000 in
theorem ck_M_canAsk : mm_chkB mr_1130 mb_M_canAsk = true := by decide +kernel
set_option maxRecDepth 100000 in
theorem ck_M_asks : mm_chkB mr_1131 mb_M_asks = true := by decide +kernel
set_option maxRecDepth 100000 in
theorem ck_M_ask : mm_chkB mr_1132 mb_M_ask = true := by decide +kernel
set_option maxRecDepth 100000 in
theorem ck_M_drop : mm_chkB mr_1133 mb_M_drop = true := by decide +kernel
set_option maxRecDepth 100000 in
theorem ck_M_weight : mm_chkB mr_1134 mb_M_weight = true := by decide +kernel
set_option maxRecDepth 100000 in
theorem ck_M_isPlan : mm_chkB mr_1135 mb_M_isPlan = true := by decide +kernel
set_option maxRecDepth 100000 in
theorem ck_M_set : mm_chkB mr_1136 mb_M_set = true := by decide +kernel
set_option maxRecDepth 100000 in
theorem ck_M_back : mm_chkB mr_1137 mb_M_back = true := by decide +kernel
set_option maxRecDepth 100000 in
theorem ck_M_cellAt : mm_chkB mr_1138 mb_M_cellAt = true := by decide +kernel
set_option maxRecDepth 100000 in
theorem ck_M_at : mm_chkB mr_1139 mb_M_at = true := by decide +kernel
set_option maxRecDepth 100000 in
theorem ck_M_lays : mm_chkB mr_1140 mb_M_lays = true := by decide +kernel
set_option maxRecDepth 100000 in
theorem ck_M_parts : mm_chkB mr_1141 mb_M_parts = true := by decide +kernel
set_option maxRecDepth 100000 in
theorem ck_M_most : mm_chkB mr_1142 mb_M_most = true := by decide +kernel
set_option maxRecDepth 100000 in
theorem ck_M_tellsOf : mm_chkB mr_1143 mb_M_tellsOf = true := by decide +kernel
set_option maxRecDepth 100000 in
theorem ck_M_answerOf : mm_chkB mr_1144 mb_M_answerOf = true := by decide +kernel
set_option maxRecDepth 100000 in
theorem ck_M_answer : mm_chkB mr_1145 mb_M_answer = true := by decide +kernel
set_option maxRecDepth 100000 in
theorem ck_M_areAlike : mm_chkB mr_1146 mb_M_areAlike = true := by decide +kernel
set_option maxRecDepth 100000 in
theorem ck_M_firstAlike : mm_chkB mr_1147 mb_M_firstAlike = true := by decide +kernel
set_option maxRecDepth 100000 in
theorem ck_M_of : mm_chkB mr_1148 mb_M_of = true := by decide +kernel
set_option maxRecDepth 100000 in
theorem ck_M_touched : mm_chkB mr_1149 mb_M_touched = true := by decide +kernel
set_option maxRecDepth 100000 in
theorem ck_M_isPlanned : mm_chkB mr_1150 mb_M_isPlanned = true := by decide +kernel
set_option maxRecDepth 100000 in
theorem ck_M_curve : mm_chkB mr_1151 mb_M_curve = true := by decide +kernel
set_option maxRecDepth 100000 in
theorem ck_M_weightOf : mm_chkB mr_1152 mb_M_weightOf = true := by decide +kernel
set_option maxRecDepth 100000 in
theorem ck_M_plans : mm_chkB mr_1153 mb_M_plans = true := by decide +kernel
set_option maxRecDepth 100000 in
theorem ck_M_planned : mm_chkB mr_1154 mb_M_planned = true := by decide +kernel
set_option maxRecDepth 100000 in
theorem ck_M_apart : mm_chkB mr_1155 mb_M_apart = true := by decide +kernel
set_option maxRecDepth 100000 in
theorem ck_M_along : mm_chkB mr_1156 mb_M_along = true := by decide +kernel
set_option maxRecDepth 100000 in
theorem ck_M_cost : mm_chkB mr_1157 mb_M_cost = true := by decide +kernel
set_option maxRecDepth 100000 in
theorem ck_M_costOf : mm_chkB mr_1158 mb_M_costOf = true := by decide +kernel
set_option maxRecDepth 100000 in
theorem ck_M_moves : mm_chkB mr_1159 mb_M_moves = true := by decide +kernel
set_option maxRecDepth 100000 in
theorem ck_M_best : mm_chkB mr_1160 mb_M_best = true := by decide +kernel
set_option maxRecDepth 100000 in
theorem ck_M_laysSplit : mm_chkB mr_1161 mb_M_laysSplit = true := by decide +kernel
set_option maxRecDepth 100000 in
theorem ck_M_share : mm_chkB mr_1162 mb_M_share = true := by decide +kernel
set_option maxRecDepth 100000 in
theorem ck_M_split : mm_chkB mr_1163 mb_M_split = true := by decide +kernel
set_option maxRecDepth 100000 in
theorem ck_M_saves : mm_chkB mr_1164 mb_M_saves = true := by decide +kernel
set_option maxRecDepth 100000 in
theorem ck_M_would : mm_chkB mr_1165 mb_M_would = true := by decide +kernel
set_option maxRecDepth 100000 in
theorem ck_M_moves_ : mm_chkB mr_1166 mb_M_moves_ = true := by decide +kernel
set_option maxRecDepth 100000 in
theorem ck_M_tells : mm_chkB mr_1167 mb_M_tells = true := by decide +kernel
set_option maxRecDepth 100000 in
theorem ck_M_move : mm_chkB mr_1168 mb_M_move = true := by decide +kernel
set_option maxRecDepth 100000 in
theorem ck_M_walk : mm_chkB mr_1169 mb_M_walk = true := by decide +kernel
set_option maxRecDepth 100000 in
theorem ck_M_home : mm_chkB mr_1170 mb_M_home = true := by decide +kernel
set_option maxRecDepth 100000 in
theorem ck_M_laysWindow : mm_chkB mr_1171 mb_M_laysWindow = true := by decide +kernel
set_option maxRecDepth 100000 in
theorem ck_M_window : mm_chkB mr_1172 mb_M_window = true := by decide +kernel
set_option maxRecDepth 100000 in
theorem ck_M_holds : mm_chkB mr_1173 mb_M_holds = true := by decide +kernel
set_option maxRecDepth 100000 in
theorem ck_M_tells_ : mm_chkB mr_1174 mb_M_tells_ = true := by decide +kernel
set_option maxRecDepth 100000 in
theorem ck_M_isUndone : mm_chkB mr_1175 mb_M_isUndone = true := by decide +kernel
set_option maxRecDepth 100000 in
theorem ck_M_undoneWeight : mm_chkB mr_1176 mb_M_undoneWeight = true := by decide +kernel
set_option maxRecDepth 100000 in
theorem ck_M_laysUndone : mm_chkB mr_1177 mb_M_laysUndone = true := by decide +kernel
set_option maxRecDepth 100000 in
theorem ck_M_undone : mm_chkB mr_1178 mb_M_undone = true := by decide +kernel
set_option maxRecDepth 100000 in
theorem ck_M_adds : mm_chkB mr_1179 mb_M_adds = true := by decide +kernel
set_option maxRecDepth 100000 in
theorem ck_M_having : mm_chkB mr_1180 mb_M_having = true := by decide +kernel
set_option maxRecDepth 100000 in
theorem ck_M_count : mm_chkB mr_1181 mb_M_count = true := by decide +kernel
set_option maxRecDepth 100000 in
theorem ck_J_fill : mm_chkB mr_1500 mb_J_fill = true := by decide +kernel
