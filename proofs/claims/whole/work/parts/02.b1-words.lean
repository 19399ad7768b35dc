set_option maxRecDepth 20000 in
theorem ggX9_fault_X9_isOutside : GoodIn wsX9_fault wsX9_isOutside := goodIn_r _ [7] (by decide +kernel) (by decide +kernel)
set_option maxRecDepth 20000 in
theorem gX9_fault_X9_isOutside : GoodIn wsX9_fault (va_wsS RX9 71 yX9_isOutside wsX9_isOutside) := goodIn_app (goodIn_of _ (by decide +kernel)) ggX9_fault_X9_isOutside
set_option maxRecDepth 20000 in
theorem ggX9_fault_X5_eveningFault : GoodIn wsX9_fault wsX5_eveningFault := goodIn_r _ [12, 13, 14, 15, 16, 11, 17, 18, 19, 20, 21, 58, 59] (by decide +kernel) (by decide +kernel)
set_option maxRecDepth 20000 in
theorem gX9_fault_X5_eveningFault : GoodIn wsX9_fault (wsV RX9 112 RX5 yX5_eveningFault wsX5_eveningFault) := goodIn_app (goodIn_of _ (by decide +kernel)) ggX9_fault_X5_eveningFault
set_option maxRecDepth 20000 in
theorem ggX9_fault_X5_tuneFault : GoodIn wsX9_fault wsX5_tuneFault := goodIn_r _ [25, 13, 26, 27, 28, 11, 29, 14, 15, 16, 17, 18, 30, 31, 32, 33, 58, 59] (by decide +kernel) (by decide +kernel)
set_option maxRecDepth 20000 in
theorem gX9_fault_X5_tuneFault : GoodIn wsX9_fault (wsV RX9 115 RX5 yX5_tuneFault wsX5_tuneFault) := goodIn_app (goodIn_of _ (by decide +kernel)) ggX9_fault_X5_tuneFault
set_option maxRecDepth 20000 in
theorem ggX9_judge_X9_isOutside : GoodIn wsX9_judge wsX9_isOutside := goodIn_r _ [10] (by decide +kernel) (by decide +kernel)
set_option maxRecDepth 20000 in
theorem gX9_judge_X9_isOutside : GoodIn wsX9_judge (va_wsS RX9 71 yX9_isOutside wsX9_isOutside) := goodIn_app (goodIn_of _ (by decide +kernel)) ggX9_judge_X9_isOutside
set_option maxRecDepth 20000 in
theorem ggX9_judge_X5_eveningFault : GoodIn wsX9_judge wsX5_eveningFault := goodIn_r _ [15, 16, 17, 18, 19, 14, 20, 21, 22, 23, 24, 155, 156] (by decide +kernel) (by decide +kernel)
set_option maxRecDepth 20000 in
theorem gX9_judge_X5_eveningFault : GoodIn wsX9_judge (wsV RX9 112 RX5 yX5_eveningFault wsX5_eveningFault) := goodIn_app (goodIn_of _ (by decide +kernel)) ggX9_judge_X5_eveningFault
set_option maxRecDepth 20000 in
theorem ggX9_judge_X1_play : GoodIn wsX9_judge wsX1_play := goodIn_r _ [29, 30, 31, 32, 33, 34, 35, 28, 36, 37, 38, 39, 40, 41, 42, 43, 44, 45, 46, 47, 48, 49, 50, 51, 52, 53, 54, 55, 56, 57, 58, 59, 60, 61, 62, 18, 19, 14, 20, 16, 21, 63, 64, 65, 66, 67, 68, 69, 70, 71, 72, 73, 74, 75, 76, 77, 78, 79, 80, 81, 82, 83, 84, 85, 86, 87, 88, 89, 90, 91, 92, 93, 94, 95, 96, 97, 98, 99, 100, 101, 102, 103, 104, 105, 106, 107, 108, 109, 110, 111, 112, 113, 114, 115, 116, 117, 118, 119, 120, 121, 122, 123, 9, 124, 155, 156, 149, 150, 151, 152, 153, 154, 136, 137, 138, 139, 140, 141, 142, 143, 144, 145, 146, 147, 148] (by decide +kernel) (by decide +kernel)
set_option maxRecDepth 20000 in
theorem gX9_judge_X1_play : GoodIn wsX9_judge (wsV RX9 118 RX1 yX1_play wsX1_play) := goodIn_app (goodIn_of _ (by decide +kernel)) ggX9_judge_X1_play
set_option maxRecDepth 20000 in
theorem ggX9_done_X9_canBePlayed : GoodIn wsX9_done wsX9_canBePlayed := goodIn_r _ [11, 6, 1, 12, 2, 13, 14, 15, 16, 17, 18, 19, 20, 21, 22, 23, 24, 25, 26, 27, 28, 29, 30, 31, 32, 33, 34, 35, 36, 37, 38, 39, 40, 41, 42, 43, 44, 45, 46, 47, 48, 49, 50, 51, 52, 53, 54, 55, 56, 57, 58, 59, 60, 61, 62, 63, 64, 65, 66, 67, 68, 69, 70, 71, 72, 73, 74, 75, 76, 77, 78, 79, 80, 81, 82, 83, 84, 85, 86, 87, 88, 89, 90, 91, 92, 93, 94, 95, 96, 97, 98, 99, 100, 101, 102, 103, 104, 105, 106, 107, 108, 109, 110, 111, 112, 113, 114, 115, 116, 117, 118, 119, 120, 121, 122, 123, 124, 125, 126, 10, 127, 132, 133, 134, 135, 136, 137, 138, 139, 140, 141, 142, 149, 150, 151, 152, 153, 154, 155, 156, 157, 158, 159, 160, 161, 143, 144, 145, 146, 147, 148, 162, 163] (by decide +kernel) (by decide +kernel)
set_option maxRecDepth 20000 in
theorem gX9_done_X9_canBePlayed : GoodIn wsX9_done (wsV RX9 128 RX9 yX9_canBePlayed wsX9_canBePlayed) := goodIn_app (goodIn_of _ (by decide +kernel)) ggX9_done_X9_canBePlayed
set_option maxRecDepth 20000 in
theorem ggX9_done_X5_clear : GoodIn wsX9_done wsX5_clear := goodIn_r _ [131, 19, 162, 163] (by decide +kernel) (by decide +kernel)
set_option maxRecDepth 20000 in
theorem gX9_done_X5_clear : GoodIn wsX9_done (wsV RX9 108 RX5 yX5_clear wsX5_clear) := goodIn_app (goodIn_of _ (by decide +kernel)) ggX9_done_X5_clear
set_option maxRecDepth 20000 in
theorem ggX9_hears_X8_has : GoodIn wsX9_hears wsX8_has := goodIn_r _ [7, 8, 32, 33, 34, 35, 36, 37, 38, 39, 40, 41, 42, 43, 44] (by decide +kernel) (by decide +kernel)
set_option maxRecDepth 20000 in
theorem gX9_hears_X8_has : GoodIn wsX9_hears (wsV RX9 83 RX8 yX8_has wsX8_has) := goodIn_app (goodIn_of _ (by decide +kernel)) ggX9_hears_X8_has
set_option maxRecDepth 20000 in
theorem ggX9_hears_X8_lengthAt : GoodIn wsX9_hears wsX8_lengthAt := goodIn_r _ [12, 13, 8, 14, 4, 5, 6, 7, 15, 16, 17, 18, 19, 20, 32, 33, 34, 35, 36, 37, 38, 39, 40, 41, 42, 43, 44] (by decide +kernel) (by decide +kernel)
set_option maxRecDepth 20000 in
theorem gX9_hears_X8_lengthAt : GoodIn wsX9_hears (wsV RX9 141 RX8 yX8_lengthAt wsX8_lengthAt) := goodIn_app (goodIn_of _ (by decide +kernel)) ggX9_hears_X8_lengthAt
set_option maxRecDepth 20000 in
theorem ggX9_behind_X8_has : GoodIn wsX9_behind wsX8_has := goodIn_r _ [9, 10, 149, 150, 151, 152, 153, 154, 155, 156, 157, 158, 159, 160, 161] (by decide +kernel) (by decide +kernel)
set_option maxRecDepth 20000 in
theorem gX9_behind_X8_has : GoodIn wsX9_behind (wsV RX9 83 RX8 yX8_has wsX8_has) := goodIn_app (goodIn_of _ (by decide +kernel)) ggX9_behind_X8_has
set_option maxRecDepth 20000 in
theorem ggX9_behind_X9_canBePlayed : GoodIn wsX9_behind wsX9_canBePlayed := goodIn_r _ [15, 16, 1, 17, 2, 18, 19, 20, 21, 22, 23, 24, 25, 26, 27, 28, 29, 30, 31, 32, 33, 34, 35, 36, 37, 38, 39, 40, 41, 42, 43, 44, 45, 46, 47, 48, 49, 50, 51, 8, 52, 10, 53, 54, 55, 56, 57, 58, 59, 60, 61, 62, 63, 64, 65, 66, 67, 68, 69, 70, 71, 72, 73, 74, 75, 76, 77, 78, 79, 80, 81, 82, 83, 84, 85, 86, 87, 88, 89, 90, 91, 92, 93, 94, 95, 96, 97, 98, 99, 100, 101, 102, 103, 104, 105, 106, 107, 108, 109, 110, 6, 7, 9, 111, 112, 113, 114, 115, 116, 117, 118, 119, 120, 121, 122, 123, 124, 125, 126, 14, 127, 132, 133, 134, 135, 136, 137, 138, 139, 140, 141, 142, 149, 150, 151, 152, 153, 154, 155, 156, 157, 158, 159, 160, 161, 143, 144, 145, 146, 147, 148, 162, 163] (by decide +kernel) (by decide +kernel)
set_option maxRecDepth 20000 in
theorem gX9_behind_X9_canBePlayed : GoodIn wsX9_behind (wsV RX9 128 RX9 yX9_canBePlayed wsX9_canBePlayed) := goodIn_app (goodIn_of _ (by decide +kernel)) ggX9_behind_X9_canBePlayed
set_option maxRecDepth 20000 in
theorem ggX9_behind_X8_lengthAt : GoodIn wsX9_behind wsX8_lengthAt := goodIn_r _ [131, 67, 10, 110, 6, 7, 8, 9, 111, 112, 113, 114, 53, 56, 149, 150, 151, 152, 153, 154, 155, 156, 157, 158, 159, 160, 161] (by decide +kernel) (by decide +kernel)
set_option maxRecDepth 20000 in
theorem gX9_behind_X8_lengthAt : GoodIn wsX9_behind (wsV RX9 141 RX8 yX8_lengthAt wsX8_lengthAt) := goodIn_app (goodIn_of _ (by decide +kernel)) ggX9_behind_X8_lengthAt
set_option maxRecDepth 20000 in
theorem ggX9_clashed_X9_isOutside : GoodIn wsX9_clashed wsX9_isOutside := goodIn_r _ [7] (by decide +kernel) (by decide +kernel)
set_option maxRecDepth 20000 in
theorem gX9_clashed_X9_isOutside : GoodIn wsX9_clashed (va_wsS RX9 71 yX9_isOutside wsX9_isOutside) := goodIn_app (goodIn_of _ (by decide +kernel)) ggX9_clashed_X9_isOutside
set_option maxRecDepth 20000 in
theorem ggX9_clashed_X9_canBePlayed : GoodIn wsX9_clashed wsX9_canBePlayed := goodIn_r _ [11, 12, 13, 14, 1, 15, 16, 17, 18, 19, 20, 21, 22, 23, 24, 25, 26, 27, 28, 29, 30, 31, 32, 33, 34, 35, 36, 37, 38, 39, 40, 41, 42, 43, 44, 45, 46, 47, 48, 49, 50, 51, 52, 53, 54, 55, 56, 57, 58, 59, 60, 61, 62, 63, 64, 65, 66, 67, 68, 69, 70, 71, 72, 73, 74, 75, 76, 77, 78, 79, 80, 81, 82, 83, 84, 85, 86, 87, 88, 89, 90, 91, 92, 93, 94, 95, 96, 97, 98, 99, 100, 101, 102, 103, 104, 105, 106, 107, 108, 109, 110, 111, 112, 113, 114, 115, 116, 117, 118, 119, 120, 121, 122, 123, 124, 125, 126, 127, 128, 6, 129, 130, 131, 132, 133, 134, 135, 136, 137, 138, 139, 140, 147, 148, 149, 150, 151, 152, 153, 154, 155, 156, 157, 158, 159, 141, 142, 143, 144, 145, 146, 160, 161] (by decide +kernel) (by decide +kernel)
set_option maxRecDepth 20000 in
theorem gX9_clashed_X9_canBePlayed : GoodIn wsX9_clashed (wsV RX9 128 RX9 yX9_canBePlayed wsX9_canBePlayed) := goodIn_app (goodIn_of _ (by decide +kernel)) ggX9_clashed_X9_canBePlayed
set_option maxRecDepth 20000 in
theorem ggX9_interval_X9_areTwo : GoodIn wsX9_interval wsX9_areTwo := goodIn_r _ [16, 3, 17, 18, 19, 20, 21, 22, 44, 45, 46, 47, 48, 49, 50, 51, 52, 53, 54, 55, 56, 57, 58, 59, 60, 61, 62, 63, 64, 65, 66, 67] (by decide +kernel) (by decide +kernel)
set_option maxRecDepth 20000 in
theorem gX9_interval_X9_areTwo : GoodIn wsX9_interval (wsV RX9 151 RX9 yX9_areTwo wsX9_areTwo) := goodIn_app (goodIn_of _ (by decide +kernel)) ggX9_interval_X9_areTwo
set_option maxRecDepth 20000 in
theorem ggX9_interval_X9_isOutside : GoodIn wsX9_interval wsX9_isOutside := goodIn_r _ [25] (by decide +kernel) (by decide +kernel)
set_option maxRecDepth 20000 in
theorem gX9_interval_X9_isOutside : GoodIn wsX9_interval (va_wsS RX9 71 yX9_isOutside wsX9_isOutside) := goodIn_app (goodIn_of _ (by decide +kernel)) ggX9_interval_X9_isOutside
set_option maxRecDepth 20000 in
theorem ggX9_interval_X8_lengthAt : GoodIn wsX9_interval wsX8_lengthAt := goodIn_r _ [29, 30, 22, 31, 18, 19, 20, 21, 32, 33, 34, 35, 36, 37, 55, 56, 57, 58, 59, 60, 61, 62, 63, 64, 65, 66, 67] (by decide +kernel) (by decide +kernel)
set_option maxRecDepth 20000 in
theorem gX9_interval_X8_lengthAt : GoodIn wsX9_interval (wsV RX9 141 RX8 yX8_lengthAt wsX8_lengthAt) := goodIn_app (goodIn_of _ (by decide +kernel)) ggX9_interval_X8_lengthAt
set_option maxRecDepth 20000 in
theorem ggX9_interval_X9_lowestTerms : GoodIn wsX9_interval wsX9_lowestTerms := goodIn_r _ [40, 41, 42, 15, 43] (by decide +kernel) (by decide +kernel)
set_option maxRecDepth 20000 in
theorem gX9_interval_X9_lowestTerms : GoodIn wsX9_interval (va_wsS RX9 167 yX9_lowestTerms wsX9_lowestTerms) := goodIn_app (goodIn_of _ (by decide +kernel)) ggX9_interval_X9_lowestTerms
set_option maxRecDepth 20000 in
theorem ggX9_heard_X9_isOutside : GoodIn wsX9_heard wsX9_isOutside := goodIn_r _ [4] (by decide +kernel) (by decide +kernel)
set_option maxRecDepth 20000 in
theorem gX9_heard_X9_isOutside : GoodIn wsX9_heard (va_wsS RX9 71 yX9_isOutside wsX9_isOutside) := goodIn_app (goodIn_of _ (by decide +kernel)) ggX9_heard_X9_isOutside
set_option maxRecDepth 20000 in
theorem ggX9_heard_X9_differentLengths : GoodIn wsX9_heard wsX9_differentLengths := goodIn_r _ [8, 9, 10, 11, 12, 13, 3, 14, 15, 16, 17, 18, 19, 20, 21, 22, 23, 24, 25, 26, 27, 28, 29, 30, 31, 32, 37, 38, 39, 40, 41, 42, 43, 44, 45, 46, 47, 48, 49, 50, 51, 52, 53, 54, 55, 56, 57, 58, 59, 60] (by decide +kernel) (by decide +kernel)
set_option maxRecDepth 20000 in
theorem gX9_heard_X9_differentLengths : GoodIn wsX9_heard (wsV RX9 171 RX9 yX9_differentLengths wsX9_differentLengths) := goodIn_app (goodIn_of _ (by decide +kernel)) ggX9_heard_X9_differentLengths
set_option maxRecDepth 20000 in
theorem ggX9_heard_X9_hearersOfLongest : GoodIn wsX9_heard wsX9_hearersOfLongest := goodIn_r _ [36, 9, 10, 15, 16, 17, 18, 19, 20, 21, 22, 23, 24, 25, 26, 27, 28, 29, 30, 31, 32, 37, 38, 39, 40, 41, 42, 43, 44, 45, 46, 47, 48, 49, 50, 51, 52, 53, 54, 55, 56, 57, 58, 59, 60] (by decide +kernel) (by decide +kernel)
set_option maxRecDepth 20000 in
theorem gX9_heard_X9_hearersOfLongest : GoodIn wsX9_heard (wsV RX9 174 RX9 yX9_hearersOfLongest wsX9_hearersOfLongest) := goodIn_app (goodIn_of _ (by decide +kernel)) ggX9_heard_X9_hearersOfLongest
set_option maxRecDepth 20000 in
theorem ggX9_stopped_X8_has : GoodIn wsX9_stopped wsX8_has := goodIn_r _ [6, 7, 55, 56, 57, 58, 59, 60, 61, 62, 63, 64, 65, 66, 67] (by decide +kernel) (by decide +kernel)
set_option maxRecDepth 20000 in
theorem gX9_stopped_X8_has : GoodIn wsX9_stopped (wsV RX9 83 RX8 yX8_has wsX8_has) := goodIn_app (goodIn_of _ (by decide +kernel)) ggX9_stopped_X8_has
set_option maxRecDepth 20000 in
theorem ggX9_stopped_X9_isOutside : GoodIn wsX9_stopped wsX9_isOutside := goodIn_r _ [11] (by decide +kernel) (by decide +kernel)
set_option maxRecDepth 20000 in
theorem gX9_stopped_X9_isOutside : GoodIn wsX9_stopped (va_wsS RX9 71 yX9_isOutside wsX9_isOutside) := goodIn_app (goodIn_of _ (by decide +kernel)) ggX9_stopped_X9_isOutside
set_option maxRecDepth 20000 in
theorem ggX9_stopped_X7_fewestFingers : GoodIn wsX9_stopped wsX7_fewestFingers := goodIn_r _ [15, 16, 17, 18, 19, 5, 20, 7, 21, 22, 23, 24, 25, 26, 27, 28, 29, 30, 31, 32, 33, 3, 4, 6, 34, 35, 36, 37, 38, 39, 55, 56, 57, 58, 59, 60, 61, 62, 63, 64, 65, 66, 67] (by decide +kernel) (by decide +kernel)
set_option maxRecDepth 20000 in
theorem gX9_stopped_X7_fewestFingers : GoodIn wsX9_stopped (va_wsS RX9 177 yX7_fewestFingers wsX7_fewestFingers) := goodIn_app (goodIn_of _ (by decide +kernel)) ggX9_stopped_X7_fewestFingers
set_option maxRecDepth 20000 in
theorem ggX9_stopped_X9_sizeOrSet : GoodIn wsX9_stopped wsX9_sizeOrSet := goodIn_r _ [42, 43, 22, 23, 24, 25, 26, 27] (by decide +kernel) (by decide +kernel)
set_option maxRecDepth 20000 in
theorem gX9_stopped_X9_sizeOrSet : GoodIn wsX9_stopped (va_wsS RX9 181 yX9_sizeOrSet wsX9_sizeOrSet) := goodIn_app (goodIn_of _ (by decide +kernel)) ggX9_stopped_X9_sizeOrSet
set_option maxRecDepth 20000 in
theorem ggX9_friends_X9_areTwo : GoodIn wsX9_friends wsX9_areTwo := goodIn_r _ [6, 1, 7, 8, 9, 10, 11, 12, 48, 49, 50, 51, 52, 53, 54, 55, 56, 57, 58, 59, 60, 61, 62, 63, 64, 65, 66, 67, 68, 69, 70, 71] (by decide +kernel) (by decide +kernel)
set_option maxRecDepth 20000 in
theorem gX9_friends_X9_areTwo : GoodIn wsX9_friends (wsV RX9 151 RX9 yX9_areTwo wsX9_areTwo) := goodIn_app (goodIn_of _ (by decide +kernel)) ggX9_friends_X9_areTwo
set_option maxRecDepth 20000 in
theorem ggX9_friends_X9_isOutside : GoodIn wsX9_friends wsX9_isOutside := goodIn_r _ [15] (by decide +kernel) (by decide +kernel)
set_option maxRecDepth 20000 in
theorem gX9_friends_X9_isOutside : GoodIn wsX9_friends (va_wsS RX9 71 yX9_isOutside wsX9_isOutside) := goodIn_app (goodIn_of _ (by decide +kernel)) ggX9_friends_X9_isOutside
set_option maxRecDepth 20000 in
theorem ggX9_friends_X7_fewestFingers : GoodIn wsX9_friends wsX7_fewestFingers := goodIn_r _ [19, 20, 21, 22, 23, 10, 24, 12, 25, 26, 27, 28, 29, 30, 31, 32, 33, 34, 35, 36, 37, 8, 9, 11, 38, 39, 40, 41, 42, 43, 59, 60, 61, 62, 63, 64, 65, 66, 67, 68, 69, 70, 71] (by decide +kernel) (by decide +kernel)
set_option maxRecDepth 20000 in
theorem gX9_friends_X7_fewestFingers : GoodIn wsX9_friends (va_wsS RX9 177 yX7_fewestFingers wsX7_fewestFingers) := goodIn_app (goodIn_of _ (by decide +kernel)) ggX9_friends_X7_fewestFingers
set_option maxRecDepth 20000 in
theorem ggX9_friends_X9_sizeOrSet : GoodIn wsX9_friends wsX9_sizeOrSet := goodIn_r _ [46, 47, 26, 27, 28, 29, 30, 31] (by decide +kernel) (by decide +kernel)
set_option maxRecDepth 20000 in
theorem gX9_friends_X9_sizeOrSet : GoodIn wsX9_friends (va_wsS RX9 181 yX9_sizeOrSet wsX9_sizeOrSet) := goodIn_app (goodIn_of _ (by decide +kernel)) ggX9_friends_X9_sizeOrSet
set_option maxRecDepth 20000 in
theorem ggX9_changes_X8_has : GoodIn wsX9_changes wsX8_has := goodIn_r _ [10, 11, 117, 118, 119, 120, 121, 122, 123, 124, 125, 126, 127, 128, 129] (by decide +kernel) (by decide +kernel)
set_option maxRecDepth 20000 in
theorem gX9_changes_X8_has : GoodIn wsX9_changes (wsV RX9 83 RX8 yX8_has wsX8_has) := goodIn_app (goodIn_of _ (by decide +kernel)) ggX9_changes_X8_has
set_option maxRecDepth 20000 in
theorem ggX9_changes_X9_isOutside : GoodIn wsX9_changes wsX9_isOutside := goodIn_r _ [15] (by decide +kernel) (by decide +kernel)
set_option maxRecDepth 20000 in
theorem gX9_changes_X9_isOutside : GoodIn wsX9_changes (va_wsS RX9 71 yX9_isOutside wsX9_isOutside) := goodIn_app (goodIn_of _ (by decide +kernel)) ggX9_changes_X9_isOutside
set_option maxRecDepth 20000 in
theorem ggX9_changes_X5_tuneFault : GoodIn wsX9_changes wsX5_tuneFault := goodIn_r _ [20, 21, 22, 23, 24, 19, 25, 26, 27, 28, 29, 30, 31, 32, 33, 34, 130, 131] (by decide +kernel) (by decide +kernel)
set_option maxRecDepth 20000 in
theorem gX9_changes_X5_tuneFault : GoodIn wsX9_changes (wsV RX9 115 RX5 yX5_tuneFault wsX5_tuneFault) := goodIn_app (goodIn_of _ (by decide +kernel)) ggX9_changes_X5_tuneFault
set_option maxRecDepth 20000 in
theorem ggX9_changes_X7_playTune : GoodIn wsX9_changes wsX7_playTune := goodIn_r _ [39, 40, 41, 42, 43, 44, 45, 46, 47, 48, 49, 50, 51, 9, 52, 53, 54, 55, 56, 57, 58, 59, 60, 61, 62, 63, 11, 64, 65, 66, 67, 68, 69, 7, 8, 10, 70, 71, 72, 73, 74, 75, 76, 77, 78, 19, 79, 21, 80, 81, 82, 38, 83, 84, 85, 86, 87, 88, 32, 33, 34, 26, 27, 28, 29, 30, 89, 90, 91, 92, 93, 94, 95, 96, 97, 98, 117, 118, 119, 120, 121, 122, 123, 124, 125, 126, 127, 128, 129, 110, 111, 112, 113, 114, 115, 116, 130, 131] (by decide +kernel) (by decide +kernel)
set_option maxRecDepth 20000 in
theorem gX9_changes_X7_playTune : GoodIn wsX9_changes (wsV RX9 184 RX7 yX7_playTune wsX7_playTune) := goodIn_app (goodIn_of _ (by decide +kernel)) ggX9_changes_X7_playTune
set_option maxRecDepth 20000 in
theorem ggX9_shifts_X9_areTwo : GoodIn wsX9_shifts wsX9_areTwo := goodIn_r _ [8, 3, 9, 10, 11, 12, 13, 14, 87, 88, 89, 90, 91, 92, 93, 94, 95, 96, 97, 98, 99, 100, 101, 102, 103, 104, 105, 106, 107, 108, 109, 110] (by decide +kernel) (by decide +kernel)
set_option maxRecDepth 20000 in
theorem gX9_shifts_X9_areTwo : GoodIn wsX9_shifts (wsV RX9 151 RX9 yX9_areTwo wsX9_areTwo) := goodIn_app (goodIn_of _ (by decide +kernel)) ggX9_shifts_X9_areTwo
set_option maxRecDepth 20000 in
theorem ggX9_shifts_X5_tuneFault : GoodIn wsX9_shifts wsX5_tuneFault := goodIn_r _ [19, 20, 21, 22, 23, 18, 24, 25, 26, 27, 28, 29, 30, 31, 32, 33, 111, 112] (by decide +kernel) (by decide +kernel)
set_option maxRecDepth 20000 in
theorem gX9_shifts_X5_tuneFault : GoodIn wsX9_shifts (wsV RX9 115 RX5 yX5_tuneFault wsX5_tuneFault) := goodIn_app (goodIn_of _ (by decide +kernel)) ggX9_shifts_X5_tuneFault
set_option maxRecDepth 20000 in
theorem ggX9_shifts_X7_fittingShifts : GoodIn wsX9_shifts wsX7_fittingShifts := goodIn_r _ [38, 39, 40, 41, 37, 42, 43, 44, 45, 46, 47, 48, 49, 12, 50, 51, 52, 53, 54, 55, 56, 57, 58, 59, 60, 61, 14, 62, 63, 64, 65, 66, 67, 10, 11, 13, 68, 69, 70, 71, 72, 73, 74, 75, 76, 77, 78, 79, 80, 18, 81, 20, 82, 83, 84, 85, 86, 31, 32, 33, 25, 26, 27, 28, 29, 113, 114, 115, 116, 117, 118, 119, 98, 99, 100, 101, 102, 103, 104, 105, 106, 107, 108, 109, 110, 111, 112] (by decide +kernel) (by decide +kernel)
set_option maxRecDepth 20000 in
theorem gX9_shifts_X7_fittingShifts : GoodIn wsX9_shifts (wsV RX9 194 RX7 yX7_fittingShifts wsX7_fittingShifts) := goodIn_app (goodIn_of _ (by decide +kernel)) ggX9_shifts_X7_fittingShifts
set_option maxRecDepth 20000 in
theorem ggX9_seen_X8_has : GoodIn wsX9_seen wsX8_has := goodIn_r _ [7, 8, 31, 32, 33, 34, 35, 36, 37, 38, 39, 40, 41, 42, 43] (by decide +kernel) (by decide +kernel)
set_option maxRecDepth 20000 in
theorem gX9_seen_X8_has : GoodIn wsX9_seen (wsV RX9 83 RX8 yX8_has wsX8_has) := goodIn_app (goodIn_of _ (by decide +kernel)) ggX9_seen_X8_has
set_option maxRecDepth 20000 in
theorem ggX9_seen_X9_isOutside : GoodIn wsX9_seen wsX9_isOutside := goodIn_r _ [12] (by decide +kernel) (by decide +kernel)
set_option maxRecDepth 20000 in
theorem gX9_seen_X9_isOutside : GoodIn wsX9_seen (va_wsS RX9 71 yX9_isOutside wsX9_isOutside) := goodIn_app (goodIn_of _ (by decide +kernel)) ggX9_seen_X9_isOutside
set_option maxRecDepth 20000 in
theorem ggX9_seen_X8_addSight : GoodIn wsX9_seen wsX8_addSight := goodIn_r _ [16, 17, 18, 19, 31, 32, 33, 34, 35, 36, 37, 38, 39, 40, 41, 42, 43] (by decide +kernel) (by decide +kernel)
set_option maxRecDepth 20000 in
theorem gX9_seen_X8_addSight : GoodIn wsX9_seen (wsV RX9 198 RX8 yX8_addSight wsX8_addSight) := goodIn_app (goodIn_of _ (by decide +kernel)) ggX9_seen_X8_addSight
set_option maxRecDepth 20000 in
theorem ggX9_fit_X9_isOutside : GoodIn wsX9_fit wsX9_isOutside := goodIn_r _ [7] (by decide +kernel) (by decide +kernel)
set_option maxRecDepth 20000 in
theorem gX9_fit_X9_isOutside : GoodIn wsX9_fit (va_wsS RX9 71 yX9_isOutside wsX9_isOutside) := goodIn_app (goodIn_of _ (by decide +kernel)) ggX9_fit_X9_isOutside
set_option maxRecDepth 20000 in
theorem ggX9_fit_X3_gather : GoodIn wsX9_fit wsX3_gather := goodIn_r _ [12, 13, 14, 15, 16, 17, 18, 19, 20, 21, 22, 23, 24, 25, 26, 27, 28, 29, 30, 31, 32, 33, 34, 35, 36, 37, 38, 39, 40, 41, 42, 43, 44, 45, 46, 47, 48, 49, 50, 51, 52, 53, 54, 55, 56, 57, 58, 82, 83, 84, 85, 86, 87, 88, 89, 90, 91, 92, 93, 94, 95, 96, 97, 98, 99] (by decide +kernel) (by decide +kernel)
set_option maxRecDepth 20000 in
theorem gX9_fit_X3_gather : GoodIn wsX9_fit (wsV RX9 204 RX3 yX3_gather wsX3_gather) := goodIn_app (goodIn_of _ (by decide +kernel)) ggX9_fit_X3_gather
set_option maxRecDepth 20000 in
theorem ggX9_fit_X3_inSome : GoodIn wsX9_fit wsX3_inSome := goodIn_r _ [62, 13, 19, 82, 83, 84, 85, 86] (by decide +kernel) (by decide +kernel)
set_option maxRecDepth 20000 in
theorem gX9_fit_X3_inSome : GoodIn wsX9_fit (wsV RX9 211 RX3 yX3_inSome wsX3_inSome) := goodIn_app (goodIn_of _ (by decide +kernel)) ggX9_fit_X3_inSome
set_option maxRecDepth 20000 in
theorem ggX9_fit_X3_inAll : GoodIn wsX9_fit wsX3_inAll := goodIn_r _ [66, 13, 19, 82, 83, 84, 85, 86] (by decide +kernel) (by decide +kernel)
set_option maxRecDepth 20000 in
theorem gX9_fit_X3_inAll : GoodIn wsX9_fit (wsV RX9 214 RX3 yX3_inAll wsX3_inAll) := goodIn_app (goodIn_of _ (by decide +kernel)) ggX9_fit_X3_inAll
set_option maxRecDepth 20000 in
theorem ggX9_fit_X3_least : GoodIn wsX9_fit wsX3_least := goodIn_r _ [70, 13, 19, 82, 83, 84, 85, 86] (by decide +kernel) (by decide +kernel)
set_option maxRecDepth 20000 in
theorem gX9_fit_X3_least : GoodIn wsX9_fit (wsV RX9 217 RX3 yX3_least wsX3_least) := goodIn_app (goodIn_of _ (by decide +kernel)) ggX9_fit_X3_least
set_option maxRecDepth 20000 in
theorem ggX9_ask_X9_isOutside : GoodIn wsX9_ask wsX9_isOutside := goodIn_r _ [8] (by decide +kernel) (by decide +kernel)
set_option maxRecDepth 20000 in
theorem gX9_ask_X9_isOutside : GoodIn wsX9_ask (va_wsS RX9 71 yX9_isOutside wsX9_isOutside) := goodIn_app (goodIn_of _ (by decide +kernel)) ggX9_ask_X9_isOutside
set_option maxRecDepth 20000 in
theorem ggX9_ask_X3_gather : GoodIn wsX9_ask wsX3_gather := goodIn_r _ [13, 14, 15, 16, 17, 18, 19, 20, 21, 22, 23, 24, 25, 26, 27, 28, 29, 30, 31, 32, 33, 34, 35, 36, 37, 38, 39, 40, 41, 42, 43, 44, 45, 46, 47, 48, 49, 50, 51, 52, 53, 54, 55, 56, 57, 58, 59, 90, 91, 92, 93, 94, 95, 96, 97, 98, 99, 100, 101, 102, 103, 104, 105, 106, 107] (by decide +kernel) (by decide +kernel)
set_option maxRecDepth 20000 in
theorem gX9_ask_X3_gather : GoodIn wsX9_ask (wsV RX9 204 RX3 yX3_gather wsX3_gather) := goodIn_app (goodIn_of _ (by decide +kernel)) ggX9_ask_X3_gather
set_option maxRecDepth 20000 in
theorem ggX9_ask_X3_chooseWindow : GoodIn wsX9_ask wsX3_chooseWindow := goodIn_r _ [63, 64, 65, 14, 15, 66, 67, 68, 24, 69, 42, 43, 70, 71, 72, 12, 73, 74, 20, 75, 76, 18, 77, 78, 46, 47, 48, 49, 37, 50, 51, 52, 53, 54, 55, 56, 57, 58, 59, 90, 91, 92, 93, 94, 95, 96, 97, 98, 99, 100, 101, 102, 103, 104, 105, 106, 107] (by decide +kernel) (by decide +kernel)
set_option maxRecDepth 20000 in
theorem gX9_ask_X3_chooseWindow : GoodIn wsX9_ask (wsV RX9 220 RX3 yX3_chooseWindow wsX3_chooseWindow) := goodIn_app (goodIn_of _ (by decide +kernel)) ggX9_ask_X3_chooseWindow
set_option maxRecDepth 20000 in
theorem ggX9_borrow_X9_areTwo : GoodIn wsX9_borrow wsX9_areTwo := goodIn_r _ [7, 1, 8, 9, 10, 11, 12, 13, 17, 18, 19, 20, 21, 22, 23, 24, 25, 26, 27, 28, 29, 30, 31, 32, 33, 34, 35, 36, 37, 38, 39, 40] (by decide +kernel) (by decide +kernel)
set_option maxRecDepth 20000 in
theorem gX9_borrow_X9_areTwo : GoodIn wsX9_borrow (wsV RX9 151 RX9 yX9_areTwo wsX9_areTwo) := goodIn_app (goodIn_of _ (by decide +kernel)) ggX9_borrow_X9_areTwo
set_option maxRecDepth 20000 in
theorem ggX9_borrow_X9_isOutside : GoodIn wsX9_borrow wsX9_isOutside := goodIn_r _ [16] (by decide +kernel) (by decide +kernel)
set_option maxRecDepth 20000 in
theorem gX9_borrow_X9_isOutside : GoodIn wsX9_borrow (va_wsS RX9 71 yX9_isOutside wsX9_isOutside) := goodIn_app (goodIn_of _ (by decide +kernel)) ggX9_borrow_X9_isOutside
set_option maxRecDepth 20000 in
theorem ggX9_teas_X4_fewestPayments : GoodIn wsX9_teas wsX4_fewestPayments := goodIn_r _ [7, 8, 9, 10, 11, 12, 13, 14, 15, 16, 6, 17, 18, 19, 20, 21, 22, 34, 35, 36, 37, 38, 39, 40, 41, 42, 43, 44, 45, 46, 47, 48] (by decide +kernel) (by decide +kernel)
set_option maxRecDepth 20000 in
theorem gX9_teas_X4_fewestPayments : GoodIn wsX9_teas (wsV RX9 232 RX4 yX4_fewestPayments wsX4_fewestPayments) := goodIn_app (goodIn_of _ (by decide +kernel)) ggX9_teas_X4_fewestPayments
set_option maxRecDepth 20000 in
theorem ggX9_feet_X9_gainsByOwnFinger : GoodIn wsX9_feet wsX9_gainsByOwnFinger := goodIn_r _ [7, 1, 8, 9, 10, 11, 12, 13, 14, 15, 16, 17, 18, 19, 20, 21, 22, 23, 24, 25, 26, 27, 28, 29, 30, 31, 32, 33, 34, 35, 36, 37, 38, 39, 40, 41, 42, 43, 44, 45, 46, 47, 48, 49, 50, 51, 52, 53, 54, 55, 56, 57, 58, 59, 60, 61, 62, 63, 64, 65, 66, 67, 68, 69] (by decide +kernel) (by decide +kernel)
set_option maxRecDepth 20000 in
theorem gX9_feet_X9_gainsByOwnFinger : GoodIn wsX9_feet (wsV RX9 236 RX9 yX9_gainsByOwnFinger wsX9_gainsByOwnFinger) := goodIn_app (goodIn_of _ (by decide +kernel)) ggX9_feet_X9_gainsByOwnFinger
set_option maxRecDepth 20000 in
theorem ggX9_hooks_X9_isOutside : GoodIn wsX9_hooks wsX9_isOutside := goodIn_r _ [5] (by decide +kernel) (by decide +kernel)
set_option maxRecDepth 20000 in
theorem gX9_hooks_X9_isOutside : GoodIn wsX9_hooks (va_wsS RX9 71 yX9_isOutside wsX9_isOutside) := goodIn_app (goodIn_of _ (by decide +kernel)) ggX9_hooks_X9_isOutside
set_option maxRecDepth 20000 in
theorem ggX9_hooks_X6_fewestHooks : GoodIn wsX9_hooks wsX6_fewestHooks := goodIn_r _ [9, 10, 11, 12, 13, 14, 15, 16, 17, 18, 8, 19, 20, 21, 22, 23, 24, 25, 26] (by decide +kernel) (by decide +kernel)
set_option maxRecDepth 20000 in
theorem gX9_hooks_X6_fewestHooks : GoodIn wsX9_hooks (va_wsS RX9 240 yX6_fewestHooks wsX6_fewestHooks) := goodIn_app (goodIn_of _ (by decide +kernel)) ggX9_hooks_X6_fewestHooks
set_option maxRecDepth 20000 in
theorem ggX9_hooks_X9_sizeOrSet : GoodIn wsX9_hooks wsX9_sizeOrSet := goodIn_r _ [29, 30, 11, 12, 13, 14, 15, 16] (by decide +kernel) (by decide +kernel)
set_option maxRecDepth 20000 in
theorem gX9_hooks_X9_sizeOrSet : GoodIn wsX9_hooks (va_wsS RX9 181 yX9_sizeOrSet wsX9_sizeOrSet) := goodIn_app (goodIn_of _ (by decide +kernel)) ggX9_hooks_X9_sizeOrSet
set_option maxRecDepth 20000 in
theorem ggX9_turns_X9_isOutside : GoodIn wsX9_turns wsX9_isOutside := goodIn_r _ [6] (by decide +kernel) (by decide +kernel)
set_option maxRecDepth 20000 in
theorem gX9_turns_X9_isOutside : GoodIn wsX9_turns (va_wsS RX9 71 yX9_isOutside wsX9_isOutside) := goodIn_app (goodIn_of _ (by decide +kernel)) ggX9_turns_X9_isOutside
set_option maxRecDepth 20000 in
theorem ggX9_turns_X2_winningWindow : GoodIn wsX9_turns wsX2_winningWindow := goodIn_r _ [11, 12, 13, 14, 15, 16, 17, 18, 19, 20, 21, 10, 22, 23, 24, 25, 26, 27, 28, 29, 30, 31, 32, 33, 34, 35, 36, 37, 38, 39, 40, 41, 42, 43, 44, 45, 46, 47, 48, 49, 50, 51, 52, 53, 54, 55, 56, 57, 58, 59, 60, 61, 62, 63, 64, 65, 5, 66, 67, 68, 69, 70, 82, 83, 84, 85, 86, 87, 88, 89, 90, 91, 92, 93, 94, 95] (by decide +kernel) (by decide +kernel)
set_option maxRecDepth 20000 in
theorem gX9_turns_X2_winningWindow : GoodIn wsX9_turns (wsV RX9 245 RX2 yX2_winningWindow wsX2_winningWindow) := goodIn_app (goodIn_of _ (by decide +kernel)) ggX9_turns_X2_winningWindow
set_option maxRecDepth 20000 in
theorem ggX9_slips_X8_has : GoodIn wsX9_slips wsX8_has := goodIn_r _ [8, 9, 67, 68, 69, 70, 71, 72, 73, 74, 75, 76, 77, 78, 79] (by decide +kernel) (by decide +kernel)
set_option maxRecDepth 20000 in
theorem gX9_slips_X8_has : GoodIn wsX9_slips (wsV RX9 83 RX8 yX8_has wsX8_has) := goodIn_app (goodIn_of _ (by decide +kernel)) ggX9_slips_X8_has
set_option maxRecDepth 20000 in
theorem ggX9_slips_X9_isOutside : GoodIn wsX9_slips wsX9_isOutside := goodIn_r _ [13] (by decide +kernel) (by decide +kernel)
set_option maxRecDepth 20000 in
theorem gX9_slips_X9_isOutside : GoodIn wsX9_slips (va_wsS RX9 71 yX9_isOutside wsX9_isOutside) := goodIn_app (goodIn_of _ (by decide +kernel)) ggX9_slips_X9_isOutside
set_option maxRecDepth 20000 in
theorem ggX9_slips_X0_toHear : GoodIn wsX9_slips wsX0_toHear := goodIn_r _ [17, 18, 19, 20, 16, 21, 22, 23, 24, 7, 25, 26, 9, 27, 5, 6, 8, 28, 29, 30, 31, 32, 33, 34, 35, 36, 37, 38, 39, 40, 41, 42, 43, 44, 45, 46, 67, 68, 69, 70, 71, 72, 73, 74, 75, 76, 77, 78, 79] (by decide +kernel) (by decide +kernel)
set_option maxRecDepth 20000 in
theorem gX9_slips_X0_toHear : GoodIn wsX9_slips (va_wsS RX9 248 yX0_toHear wsX0_toHear) := goodIn_app (goodIn_of _ (by decide +kernel)) ggX9_slips_X0_toHear
set_option maxRecDepth 20000 in
theorem ggX9_slips_X0_ofAll : GoodIn wsX9_slips wsX0_ofAll := goodIn_r _ [49, 18, 37, 38, 39, 40, 41, 42, 43, 44, 45, 16, 46, 67, 68, 69, 70, 71, 72, 73, 74, 75, 76, 77, 78, 79] (by decide +kernel) (by decide +kernel)
set_option maxRecDepth 20000 in
theorem gX9_slips_X0_ofAll : GoodIn wsX9_slips (va_wsS RX9 254 yX0_ofAll wsX0_ofAll) := goodIn_app (goodIn_of _ (by decide +kernel)) ggX9_slips_X0_ofAll
set_option maxRecDepth 20000 in
theorem ggX9_slips_X9_lowestTerms : GoodIn wsX9_slips wsX9_lowestTerms := goodIn_r _ [52, 53, 54, 12, 55] (by decide +kernel) (by decide +kernel)
set_option maxRecDepth 20000 in
theorem gX9_slips_X9_lowestTerms : GoodIn wsX9_slips (va_wsS RX9 167 yX9_lowestTerms wsX9_lowestTerms) := goodIn_app (goodIn_of _ (by decide +kernel)) ggX9_slips_X9_lowestTerms
set_option maxRecDepth 20000 in
theorem ggX9_calm_X9_isOutside : GoodIn wsX9_calm wsX9_isOutside := goodIn_r _ [6] (by decide +kernel) (by decide +kernel)
set_option maxRecDepth 20000 in
theorem gX9_calm_X9_isOutside : GoodIn wsX9_calm (va_wsS RX9 71 yX9_isOutside wsX9_isOutside) := goodIn_app (goodIn_of _ (by decide +kernel)) ggX9_calm_X9_isOutside
set_option maxRecDepth 20000 in
theorem ggX9_calm_X0_toBeCalm : GoodIn wsX9_calm wsX0_toBeCalm := goodIn_r _ [10, 11, 12, 13, 9, 14, 15, 16, 17, 18, 19, 20, 21, 22, 23, 24, 25, 26, 27, 28, 29, 30, 31, 32, 33, 34, 35, 36, 37, 38, 39, 40, 41, 42, 43, 44, 45, 5, 46, 47, 48, 49, 50, 51, 52, 53, 54, 55, 56, 57, 58, 59, 78, 79, 80, 81, 82, 83, 84, 85, 86, 87, 88, 89, 90] (by decide +kernel) (by decide +kernel)
set_option maxRecDepth 20000 in
theorem gX9_calm_X0_toBeCalm : GoodIn wsX9_calm (va_wsS RX9 258 yX0_toBeCalm wsX0_toBeCalm) := goodIn_app (goodIn_of _ (by decide +kernel)) ggX9_calm_X0_toBeCalm
set_option maxRecDepth 20000 in
theorem ggX9_calm_X0_ofAll : GoodIn wsX9_calm wsX0_ofAll := goodIn_r _ [62, 11, 50, 51, 52, 53, 54, 55, 56, 57, 58, 9, 59, 78, 79, 80, 81, 82, 83, 84, 85, 86, 87, 88, 89, 90] (by decide +kernel) (by decide +kernel)
set_option maxRecDepth 20000 in
theorem gX9_calm_X0_ofAll : GoodIn wsX9_calm (va_wsS RX9 254 yX0_ofAll wsX0_ofAll) := goodIn_app (goodIn_of _ (by decide +kernel)) ggX9_calm_X0_ofAll
set_option maxRecDepth 20000 in
theorem ggX9_calm_X9_lowestTerms : GoodIn wsX9_calm wsX9_lowestTerms := goodIn_r _ [65, 66, 45, 5, 46] (by decide +kernel) (by decide +kernel)
set_option maxRecDepth 20000 in
theorem gX9_calm_X9_lowestTerms : GoodIn wsX9_calm (va_wsS RX9 167 yX9_lowestTerms wsX9_lowestTerms) := goodIn_app (goodIn_of _ (by decide +kernel)) ggX9_calm_X9_lowestTerms
set_option maxRecDepth 20000 in
theorem ggX9_year_X9_isOutside : GoodIn wsX9_year wsX9_isOutside := goodIn_r _ [10] (by decide +kernel) (by decide +kernel)
set_option maxRecDepth 20000 in
theorem gX9_year_X9_isOutside : GoodIn wsX9_year (va_wsS RX9 71 yX9_isOutside wsX9_isOutside) := goodIn_app (goodIn_of _ (by decide +kernel)) ggX9_year_X9_isOutside
set_option maxRecDepth 20000 in
theorem ggX9_year_X1_draw : GoodIn wsX9_year wsX1_draw := goodIn_r _ [15, 16, 17, 18, 19, 20, 21, 22, 14, 23, 24, 25, 26, 27, 28, 29, 30, 31, 32, 33, 34, 35, 36, 37, 38, 39, 40, 41, 42, 43, 44, 45, 46, 47, 48, 49, 50, 51, 52, 53, 54, 55, 56, 57, 58, 59, 60, 61, 62, 63, 64, 65, 66, 67, 68, 69, 70, 71, 72, 73, 74, 75, 76, 77, 78, 79, 80, 81, 82, 83, 84, 85, 86, 87, 88, 89, 90, 91, 92, 93, 94, 95, 96, 97, 98, 99, 100, 101, 102, 103, 104, 105, 106, 107, 108, 109, 9, 110, 111, 112, 113, 114, 126, 127, 128, 129, 130, 131, 132, 133, 134, 135, 136, 137, 138, 139, 140, 141, 142, 143, 144] (by decide +kernel) (by decide +kernel)
set_option maxRecDepth 20000 in
theorem gX9_year_X1_draw : GoodIn wsX9_year (wsV RX9 262 RX1 yX1_draw wsX1_draw) := goodIn_app (goodIn_of _ (by decide +kernel)) ggX9_year_X1_draw
set_option maxRecDepth 20000 in
theorem ggX9_image_X9_isOutside : GoodIn wsX9_image wsX9_isOutside := goodIn_r _ [9] (by decide +kernel) (by decide +kernel)
set_option maxRecDepth 20000 in
theorem gX9_image_X9_isOutside : GoodIn wsX9_image (va_wsS RX9 71 yX9_isOutside wsX9_isOutside) := goodIn_app (goodIn_of _ (by decide +kernel)) ggX9_image_X9_isOutside
set_option maxRecDepth 20000 in
theorem ggX9_image_X8_copyFrom : GoodIn wsX9_image wsX8_copyFrom := goodIn_r _ [14, 15, 16, 17, 18, 19, 20, 21, 22, 23, 24, 25, 26, 27, 28, 13, 29, 30, 42, 43, 44, 45, 46, 47, 48, 49, 50, 51, 52, 53, 54] (by decide +kernel) (by decide +kernel)
set_option maxRecDepth 20000 in
theorem gX9_image_X8_copyFrom : GoodIn wsX9_image (wsV RX9 269 RX8 yX8_copyFrom wsX8_copyFrom) := goodIn_app (goodIn_of _ (by decide +kernel)) ggX9_image_X8_copyFrom
set_option maxRecDepth 20000 in
theorem ggX9_restore_X9_isOutside : GoodIn wsX9_restore wsX9_isOutside := goodIn_r _ [9] (by decide +kernel) (by decide +kernel)
set_option maxRecDepth 20000 in
theorem gX9_restore_X9_isOutside : GoodIn wsX9_restore (va_wsS RX9 71 yX9_isOutside wsX9_isOutside) := goodIn_app (goodIn_of _ (by decide +kernel)) ggX9_restore_X9_isOutside
set_option maxRecDepth 20000 in
theorem ggX9_restore_X8_copyFrom : GoodIn wsX9_restore wsX8_copyFrom := goodIn_r _ [14, 15, 16, 17, 18, 19, 20, 21, 22, 23, 24, 25, 26, 27, 28, 13, 29, 30, 42, 43, 44, 45, 46, 47, 48, 49, 50, 51, 52, 53, 54] (by decide +kernel) (by decide +kernel)
set_option maxRecDepth 20000 in
theorem gX9_restore_X8_copyFrom : GoodIn wsX9_restore (wsV RX9 269 RX8 yX8_copyFrom wsX8_copyFrom) := goodIn_app (goodIn_of _ (by decide +kernel)) ggX9_restore_X8_copyFrom
set_option maxRecDepth 20000 in
theorem ggX9_told_X9_gapTold : GoodIn wsX9_told wsX9_gapTold := goodIn_r _ [15, 3, 4, 16, 17, 18, 14, 19, 20, 21, 22, 23, 24, 25, 26, 27, 28, 29, 30, 33, 34, 35, 36, 37, 38, 39, 40, 41, 42, 43, 44, 45] (by decide +kernel) (by decide +kernel)
set_option maxRecDepth 20000 in
theorem gX9_told_X9_gapTold : GoodIn wsX9_told (wsV RX9 281 RX9 yX9_gapTold wsX9_gapTold) := goodIn_app (goodIn_of _ (by decide +kernel)) ggX9_told_X9_gapTold
set_option maxRecDepth 20000 in
theorem ggX9_areTwo_X8_has : GoodIn wsX9_areTwo wsX8_has := goodIn_r _ [6, 7, 19, 20, 21, 22, 23, 24, 25, 26, 27, 28, 29, 30, 31] (by decide +kernel) (by decide +kernel)
set_option maxRecDepth 20000 in
theorem gX9_areTwo_X8_has : GoodIn wsX9_areTwo (wsV RX9 83 RX8 yX8_has wsX8_has) := goodIn_app (goodIn_of _ (by decide +kernel)) ggX9_areTwo_X8_has
set_option maxRecDepth 20000 in
theorem ggX9_putEnd_X9_isOutside : GoodIn wsX9_putEnd wsX9_isOutside := goodIn_r _ [6] (by decide +kernel) (by decide +kernel)
set_option maxRecDepth 20000 in
theorem gX9_putEnd_X9_isOutside : GoodIn wsX9_putEnd (va_wsS RX9 71 yX9_isOutside wsX9_isOutside) := goodIn_app (goodIn_of _ (by decide +kernel)) ggX9_putEnd_X9_isOutside
set_option maxRecDepth 20000 in
theorem ggX9_putLimit_X9_isOutside : GoodIn wsX9_putLimit wsX9_isOutside := goodIn_r _ [6] (by decide +kernel) (by decide +kernel)
set_option maxRecDepth 20000 in
theorem gX9_putLimit_X9_isOutside : GoodIn wsX9_putLimit (va_wsS RX9 71 yX9_isOutside wsX9_isOutside) := goodIn_app (goodIn_of _ (by decide +kernel)) ggX9_putLimit_X9_isOutside
set_option maxRecDepth 20000 in
theorem ggX9_putRent_X9_isOutside : GoodIn wsX9_putRent wsX9_isOutside := goodIn_r _ [6] (by decide +kernel) (by decide +kernel)
set_option maxRecDepth 20000 in
theorem gX9_putRent_X9_isOutside : GoodIn wsX9_putRent (va_wsS RX9 71 yX9_isOutside wsX9_isOutside) := goodIn_app (goodIn_of _ (by decide +kernel)) ggX9_putRent_X9_isOutside
set_option maxRecDepth 20000 in
theorem ggX9_gapTold_X9_isOutside : GoodIn wsX9_gapTold wsX9_isOutside := goodIn_r _ [7] (by decide +kernel) (by decide +kernel)
set_option maxRecDepth 20000 in
theorem gX9_gapTold_X9_isOutside : GoodIn wsX9_gapTold (va_wsS RX9 71 yX9_isOutside wsX9_isOutside) := goodIn_app (goodIn_of _ (by decide +kernel)) ggX9_gapTold_X9_isOutside
set_option maxRecDepth 20000 in
theorem ggX9_canBePlayed_X5_eveningFault : GoodIn wsX9_canBePlayed wsX5_eveningFault := goodIn_r _ [10, 11, 12, 13, 14, 9, 15, 16, 17, 18, 19, 151, 152] (by decide +kernel) (by decide +kernel)
set_option maxRecDepth 20000 in
theorem gX9_canBePlayed_X5_eveningFault : GoodIn wsX9_canBePlayed (wsV RX9 112 RX5 yX5_eveningFault wsX5_eveningFault) := goodIn_app (goodIn_of _ (by decide +kernel)) ggX9_canBePlayed_X5_eveningFault
set_option maxRecDepth 20000 in
theorem ggX9_canBePlayed_X1_play : GoodIn wsX9_canBePlayed wsX1_play := goodIn_r _ [24, 25, 26, 27, 28, 29, 30, 23, 31, 32, 33, 34, 35, 36, 37, 38, 39, 40, 41, 42, 43, 44, 45, 46, 47, 48, 49, 50, 51, 52, 53, 54, 55, 56, 57, 13, 14, 9, 15, 11, 16, 58, 59, 60, 61, 62, 63, 64, 65, 66, 67, 68, 69, 70, 71, 72, 73, 74, 75, 76, 77, 78, 79, 80, 81, 82, 83, 84, 85, 86, 87, 88, 89, 90, 91, 92, 93, 94, 95, 96, 97, 98, 99, 100, 101, 102, 103, 104, 105, 106, 107, 108, 109, 110, 111, 112, 113, 114, 115, 116, 117, 118, 119, 120, 151, 152, 145, 146, 147, 148, 149, 150, 132, 133, 134, 135, 136, 137, 138, 139, 140, 141, 142, 143, 144] (by decide +kernel) (by decide +kernel)
set_option maxRecDepth 20000 in
theorem gX9_canBePlayed_X1_play : GoodIn wsX9_canBePlayed (wsV RX9 118 RX1 yX1_play wsX1_play) := goodIn_app (goodIn_of _ (by decide +kernel)) ggX9_canBePlayed_X1_play
set_option maxRecDepth 20000 in
theorem ggX9_differentLengths_X9_isHeardAbove : GoodIn wsX9_differentLengths wsX9_isHeardAbove := goodIn_r _ [7, 1, 8, 9, 10, 11, 12, 13, 14, 15, 16, 17, 18, 19, 20, 21, 22, 23, 24, 25, 26, 27, 28, 29, 30, 31, 32, 33, 34, 35, 36, 37, 38, 39, 40, 41, 42, 43, 44, 45, 46, 47, 48, 49] (by decide +kernel) (by decide +kernel)
set_option maxRecDepth 20000 in
theorem gX9_differentLengths_X9_isHeardAbove : GoodIn wsX9_differentLengths (wsV RX9 284 RX9 yX9_isHeardAbove wsX9_isHeardAbove) := goodIn_app (goodIn_of _ (by decide +kernel)) ggX9_differentLengths_X9_isHeardAbove
set_option maxRecDepth 20000 in
theorem ggX9_isHeardAbove_X8_lengthAt : GoodIn wsX9_isHeardAbove wsX8_lengthAt := goodIn_r _ [7, 8, 9, 10, 11, 12, 6, 13, 14, 15, 16, 17, 18, 19, 31, 32, 33, 34, 35, 36, 37, 38, 39, 40, 41, 42, 43] (by decide +kernel) (by decide +kernel)
set_option maxRecDepth 20000 in
theorem gX9_isHeardAbove_X8_lengthAt : GoodIn wsX9_isHeardAbove (wsV RX9 141 RX8 yX8_lengthAt wsX8_lengthAt) := goodIn_app (goodIn_of _ (by decide +kernel)) ggX9_isHeardAbove_X8_lengthAt
set_option maxRecDepth 20000 in
theorem ggX9_hearersOfLongest_X8_lengthAt : GoodIn wsX9_hearersOfLongest wsX8_lengthAt := goodIn_r _ [8, 9, 10, 11, 12, 13, 7, 14, 15, 16, 17, 18, 19, 20, 32, 33, 34, 35, 36, 37, 38, 39, 40, 41, 42, 43, 44] (by decide +kernel) (by decide +kernel)
set_option maxRecDepth 20000 in
theorem gX9_hearersOfLongest_X8_lengthAt : GoodIn wsX9_hearersOfLongest (wsV RX9 141 RX8 yX8_lengthAt wsX8_lengthAt) := goodIn_app (goodIn_of _ (by decide +kernel)) ggX9_hearersOfLongest_X8_lengthAt
set_option maxRecDepth 20000 in
theorem ggX9_gainsByOwnFinger_X8_allows : GoodIn wsX9_gainsByOwnFinger wsX8_allows := goodIn_r _ [7, 8, 9, 10, 11, 12, 13, 14, 15, 16, 17, 6, 18, 19, 51, 52, 53, 54, 55, 56, 57, 58, 59, 60, 61, 62, 63] (by decide +kernel) (by decide +kernel)
set_option maxRecDepth 20000 in
theorem gX9_gainsByOwnFinger_X8_allows : GoodIn wsX9_gainsByOwnFinger (wsV RX9 287 RX8 yX8_allows wsX8_allows) := goodIn_app (goodIn_of _ (by decide +kernel)) ggX9_gainsByOwnFinger_X8_allows
set_option maxRecDepth 20000 in
theorem ggX9_gainsByOwnFinger_X8_lengthAt : GoodIn wsX9_gainsByOwnFinger wsX8_lengthAt := goodIn_r _ [23, 24, 19, 25, 26, 27, 6, 28, 29, 30, 31, 32, 33, 34, 51, 52, 53, 54, 55, 56, 57, 58, 59, 60, 61, 62, 63] (by decide +kernel) (by decide +kernel)
set_option maxRecDepth 20000 in
theorem gX9_gainsByOwnFinger_X8_lengthAt : GoodIn wsX9_gainsByOwnFinger (wsV RX9 141 RX8 yX8_lengthAt wsX8_lengthAt) := goodIn_app (goodIn_of _ (by decide +kernel)) ggX9_gainsByOwnFinger_X8_lengthAt
set_option maxRecDepth 20000 in
theorem ggX9_gainsByOwnFinger_X8_worth : GoodIn wsX9_gainsByOwnFinger wsX8_worth := goodIn_r _ [38, 39, 51, 52, 53, 54, 55, 56, 57, 58, 59, 60, 61, 62, 63] (by decide +kernel) (by decide +kernel)
set_option maxRecDepth 20000 in
theorem gX9_gainsByOwnFinger_X8_worth : GoodIn wsX9_gainsByOwnFinger (wsV RX9 290 RX8 yX8_worth wsX8_worth) := goodIn_app (goodIn_of _ (by decide +kernel)) ggX9_gainsByOwnFinger_X8_worth
set_option maxRecDepth 20000 in
theorem ggX9_sizeOrSet_J6_bitCount_0f7a4 : GoodIn wsX9_sizeOrSet wsJ6_bitCount_0f7a4 := goodIn_r _ [4, 5, 6, 7] (by decide +kernel) (by decide +kernel)
set_option maxRecDepth 20000 in
theorem gX9_sizeOrSet_J6_bitCount_0f7a4 : GoodIn wsX9_sizeOrSet (va_wsS RX9 293 yJ6_bitCount_0f7a4 wsJ6_bitCount_0f7a4) := goodIn_app (goodIn_of _ (by decide +kernel)) ggX9_sizeOrSet_J6_bitCount_0f7a4
set_option maxRecDepth 20000 in
theorem ggX9_lowestTerms_X9_commonDivisor : GoodIn wsX9_lowestTerms wsX9_commonDivisor := goodIn_r _ [4] (by decide +kernel) (by decide +kernel)
set_option maxRecDepth 20000 in
theorem gX9_lowestTerms_X9_commonDivisor : GoodIn wsX9_lowestTerms (va_wsS RX9 298 yX9_commonDivisor wsX9_commonDivisor) := goodIn_app (goodIn_of _ (by decide +kernel)) ggX9_lowestTerms_X9_commonDivisor
set_option maxRecDepth 20000 in
theorem ggX10_init_X10_clear : GoodIn wsX10_init wsX10_clear := goodIn_r _ [25, 7, 26, 27, 28, 6, 10, 29, 30, 31, 32, 33, 34, 35, 36, 37, 38, 39, 40, 41, 42, 43, 44, 45, 46, 47, 48, 49, 50, 51, 52, 53] (by decide +kernel) (by decide +kernel)
set_option maxRecDepth 20000 in
theorem gX10_init_X10_clear : GoodIn wsX10_init (wsV RX10 57 RX10 yX10_clear wsX10_clear) := goodIn_app (goodIn_of _ (by decide +kernel)) ggX10_init_X10_clear
set_option maxRecDepth 20000 in
theorem ggX10_isWindow_X10_in : GoodIn wsX10_isWindow wsX10_in := goodIn_r _ [5] (by decide +kernel) (by decide +kernel)
set_option maxRecDepth 20000 in
theorem gX10_isWindow_X10_in : GoodIn wsX10_isWindow (va_wsS RX10 69 yX10_in wsX10_in) := goodIn_app (goodIn_of _ (by decide +kernel)) ggX10_isWindow_X10_in
set_option maxRecDepth 20000 in
theorem ggX10_windows_X10_in : GoodIn wsX10_windows wsX10_in := goodIn_r _ [5] (by decide +kernel) (by decide +kernel)
set_option maxRecDepth 20000 in
theorem gX10_windows_X10_in : GoodIn wsX10_windows (va_wsS RX10 69 yX10_in wsX10_in) := goodIn_app (goodIn_of _ (by decide +kernel)) ggX10_windows_X10_in
set_option maxRecDepth 20000 in
theorem ggX10_windows_X10_clear : GoodIn wsX10_windows wsX10_clear := goodIn_r _ [9, 10, 11, 12, 13, 14, 15, 16, 17, 18, 19, 20, 21, 22, 23, 24, 25, 26, 27, 28, 29, 30, 31, 32, 33, 34, 35, 36, 37, 38, 39, 40] (by decide +kernel) (by decide +kernel)
set_option maxRecDepth 20000 in
theorem gX10_windows_X10_clear : GoodIn wsX10_windows (wsV RX10 57 RX10 yX10_clear wsX10_clear) := goodIn_app (goodIn_of _ (by decide +kernel)) ggX10_windows_X10_clear
set_option maxRecDepth 20000 in
theorem ggX10_gap_X10_isWindow : GoodIn wsX10_gap wsX10_isWindow := goodIn_r _ [6, 7, 8, 9, 5, 10, 11, 12, 13, 14, 15, 16, 17, 18, 19, 20, 21, 22, 23, 24, 25, 26, 27, 28, 29, 30, 31, 32, 33, 34, 35] (by decide +kernel) (by decide +kernel)
set_option maxRecDepth 20000 in
theorem gX10_gap_X10_isWindow : GoodIn wsX10_gap (wsV RX10 73 RX10 yX10_isWindow wsX10_isWindow) := goodIn_app (goodIn_of _ (by decide +kernel)) ggX10_gap_X10_isWindow
set_option maxRecDepth 20000 in
theorem ggX10_gap_X10_in : GoodIn wsX10_gap wsX10_in := goodIn_r _ [10] (by decide +kernel) (by decide +kernel)
set_option maxRecDepth 20000 in
theorem gX10_gap_X10_in : GoodIn wsX10_gap (va_wsS RX10 69 yX10_in wsX10_in) := goodIn_app (goodIn_of _ (by decide +kernel)) ggX10_gap_X10_in
set_option maxRecDepth 20000 in
theorem ggX10_set_X10_in : GoodIn wsX10_set wsX10_in := goodIn_r _ [7] (by decide +kernel) (by decide +kernel)
set_option maxRecDepth 20000 in
theorem gX10_set_X10_in : GoodIn wsX10_set (va_wsS RX10 69 yX10_in wsX10_in) := goodIn_app (goodIn_of _ (by decide +kernel)) ggX10_set_X10_in
set_option maxRecDepth 20000 in
theorem ggX10_say_X10_in : GoodIn wsX10_say wsX10_in := goodIn_r _ [6] (by decide +kernel) (by decide +kernel)
set_option maxRecDepth 20000 in
theorem gX10_say_X10_in : GoodIn wsX10_say (va_wsS RX10 69 yX10_in wsX10_in) := goodIn_app (goodIn_of _ (by decide +kernel)) ggX10_say_X10_in
set_option maxRecDepth 20000 in
theorem ggX10_eveningFault_X10_isWindow : GoodIn wsX10_eveningFault wsX10_isWindow := goodIn_r _ [7, 8, 9, 10, 6, 11, 12, 13, 14, 15, 16, 17, 18, 19, 20, 21, 22, 23, 24, 25, 26, 27, 28, 29, 30, 31, 32, 33, 34, 35, 36] (by decide +kernel) (by decide +kernel)
set_option maxRecDepth 20000 in
theorem gX10_eveningFault_X10_isWindow : GoodIn wsX10_eveningFault (wsV RX10 73 RX10 yX10_isWindow wsX10_isWindow) := goodIn_app (goodIn_of _ (by decide +kernel)) ggX10_eveningFault_X10_isWindow
set_option maxRecDepth 20000 in
theorem ggX10_tuneFault_X10_in : GoodIn wsX10_tuneFault wsX10_in := goodIn_r _ [6] (by decide +kernel) (by decide +kernel)
set_option maxRecDepth 20000 in
theorem gX10_tuneFault_X10_in : GoodIn wsX10_tuneFault (va_wsS RX10 69 yX10_in wsX10_in) := goodIn_app (goodIn_of _ (by decide +kernel)) ggX10_tuneFault_X10_in
set_option maxRecDepth 20000 in
theorem ggX10_fault_X10_eveningFault : GoodIn wsX10_fault wsX10_eveningFault := goodIn_r _ [5, 6, 7, 8, 9, 10, 4, 11, 12, 13, 14, 15, 20, 21, 22, 23, 24, 25, 26, 27, 28, 29, 30, 31, 32, 33, 34, 35, 36, 37, 38, 39, 40, 41, 42, 43, 44] (by decide +kernel) (by decide +kernel)
set_option maxRecDepth 20000 in
theorem gX10_fault_X10_eveningFault : GoodIn wsX10_fault (wsV RX10 80 RX10 yX10_eveningFault wsX10_eveningFault) := goodIn_app (goodIn_of _ (by decide +kernel)) ggX10_fault_X10_eveningFault
set_option maxRecDepth 20000 in
theorem ggX10_fault_X10_tuneFault : GoodIn wsX10_fault wsX10_tuneFault := goodIn_r _ [19, 6, 7, 13, 14, 4, 15, 20, 21, 22, 23, 24, 25, 26, 27, 28, 29, 30, 31, 32, 33, 34, 35, 36, 37, 38, 39, 40, 41, 42, 43, 44] (by decide +kernel) (by decide +kernel)
