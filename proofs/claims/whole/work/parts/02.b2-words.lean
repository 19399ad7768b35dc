set_option maxRecDepth 20000 in
theorem gX10_fault_X10_tuneFault : GoodIn wsX10_fault (wsV RX10 84 RX10 yX10_tuneFault wsX10_tuneFault) := goodIn_app (goodIn_of _ (by decide +kernel)) ggX10_fault_X10_tuneFault
set_option maxRecDepth 20000 in
theorem ggX10_lengthOf_X10_at : GoodIn wsX10_lengthOf wsX10_at := goodIn_r _ [7, 8, 12, 13, 14, 15, 16, 17, 18, 19, 20, 21, 22, 23, 24, 25, 26, 27, 28, 29, 30, 31, 32, 33, 34, 35, 36] (by decide +kernel) (by decide +kernel)
set_option maxRecDepth 20000 in
theorem gX10_lengthOf_X10_at : GoodIn wsX10_lengthOf (wsV RX10 87 RX10 yX10_at wsX10_at) := goodIn_app (goodIn_of _ (by decide +kernel)) ggX10_lengthOf_X10_at
set_option maxRecDepth 20000 in
theorem ggX10_lengthOf_X10_has : GoodIn wsX10_lengthOf wsX10_has := goodIn_r _ [11] (by decide +kernel) (by decide +kernel)
set_option maxRecDepth 20000 in
theorem gX10_lengthOf_X10_has : GoodIn wsX10_lengthOf (va_wsS RX10 91 yX10_has wsX10_has) := goodIn_app (goodIn_of _ (by decide +kernel)) ggX10_lengthOf_X10_has
set_option maxRecDepth 20000 in
theorem ggX10_doClash_X10_divisor : GoodIn wsX10_doClash wsX10_divisor := goodIn_r _ [5] (by decide +kernel) (by decide +kernel)
set_option maxRecDepth 20000 in
theorem gX10_doClash_X10_divisor : GoodIn wsX10_doClash (va_wsS RX10 95 yX10_divisor wsX10_divisor) := goodIn_app (goodIn_of _ (by decide +kernel)) ggX10_doClash_X10_divisor
set_option maxRecDepth 20000 in
theorem ggX10_clashes_X10_lengthOf : GoodIn wsX10_clashes wsX10_lengthOf := goodIn_r _ [6, 1, 7, 8, 9, 10, 5, 11, 12, 13, 14, 15, 24, 25, 26, 27, 28, 29, 30, 31, 32, 33, 34, 35, 36, 37, 38, 39, 40, 41, 42, 43, 44, 45, 46, 47, 48] (by decide +kernel) (by decide +kernel)
set_option maxRecDepth 20000 in
theorem gX10_clashes_X10_lengthOf : GoodIn wsX10_clashes (wsV RX10 99 RX10 yX10_lengthOf wsX10_lengthOf) := goodIn_app (goodIn_of _ (by decide +kernel)) ggX10_clashes_X10_lengthOf
set_option maxRecDepth 20000 in
theorem ggX10_clashes_X10_doClash : GoodIn wsX10_clashes wsX10_doClash := goodIn_r _ [19, 20, 21, 22, 5, 23, 24, 25, 26, 27, 28, 29, 30, 31, 32, 33, 34, 35, 36, 37, 38, 39, 40, 41, 42, 43, 44, 45, 46, 47, 48] (by decide +kernel) (by decide +kernel)
set_option maxRecDepth 20000 in
theorem gX10_clashes_X10_doClash : GoodIn wsX10_clashes (wsV RX10 103 RX10 yX10_doClash wsX10_doClash) := goodIn_app (goodIn_of _ (by decide +kernel)) ggX10_clashes_X10_doClash
set_option maxRecDepth 20000 in
theorem ggX10_whyNot_X10_has : GoodIn wsX10_whyNot wsX10_has := goodIn_r _ [6] (by decide +kernel) (by decide +kernel)
set_option maxRecDepth 20000 in
theorem gX10_whyNot_X10_has : GoodIn wsX10_whyNot (va_wsS RX10 91 yX10_has wsX10_has) := goodIn_app (goodIn_of _ (by decide +kernel)) ggX10_whyNot_X10_has
set_option maxRecDepth 20000 in
theorem ggX10_whyNot_X10_bits : GoodIn wsX10_whyNot wsX10_bits := goodIn_r _ [9] (by decide +kernel) (by decide +kernel)
set_option maxRecDepth 20000 in
theorem gX10_whyNot_X10_bits : GoodIn wsX10_whyNot (va_wsS RX10 112 yX10_bits wsX10_bits) := goodIn_app (goodIn_of _ (by decide +kernel)) ggX10_whyNot_X10_bits
set_option maxRecDepth 20000 in
theorem ggX10_whyNot_X10_may : GoodIn wsX10_whyNot wsX10_may := goodIn_r _ [13, 14, 15, 16, 17, 18, 19, 20, 21, 22, 23, 24, 25, 26, 27, 28, 29, 30, 31, 32, 33, 34, 35, 36, 37, 38, 39] (by decide +kernel) (by decide +kernel)
set_option maxRecDepth 20000 in
theorem gX10_whyNot_X10_may : GoodIn wsX10_whyNot (wsV RX10 115 RX10 yX10_may wsX10_may) := goodIn_app (goodIn_of _ (by decide +kernel)) ggX10_whyNot_X10_may
set_option maxRecDepth 20000 in
theorem ggX10_goEvening_X10_whyNot : GoodIn wsX10_goEvening wsX10_whyNot := goodIn_r _ [15, 4, 2, 16, 17, 14, 18, 19, 20, 21, 22, 23, 24, 25, 26, 53, 54, 55, 56, 57, 58, 59, 60, 61, 62, 63, 64, 65, 66, 67, 68, 69, 70, 71, 72, 73, 74, 75, 76, 77] (by decide +kernel) (by decide +kernel)
set_option maxRecDepth 20000 in
theorem gX10_goEvening_X10_whyNot : GoodIn wsX10_goEvening (wsV RX10 127 RX10 yX10_whyNot wsX10_whyNot) := goodIn_app (goodIn_of _ (by decide +kernel)) ggX10_goEvening_X10_whyNot
set_option maxRecDepth 20000 in
theorem ggX10_goEvening_X10_act : GoodIn wsX10_goEvening wsX10_act := goodIn_r _ [30, 4, 2, 53, 54, 55, 56, 57, 58, 59, 60, 61, 62, 63, 64, 65, 66, 67, 68, 69, 70, 71, 72, 73, 74, 75, 76, 77] (by decide +kernel) (by decide +kernel)
set_option maxRecDepth 20000 in
theorem gX10_goEvening_X10_act : GoodIn wsX10_goEvening (wsV RX10 133 RX10 yX10_act wsX10_act) := goodIn_app (goodIn_of _ (by decide +kernel)) ggX10_goEvening_X10_act
set_option maxRecDepth 20000 in
theorem ggX10_goEvening_X10_clashes : GoodIn wsX10_goEvening wsX10_clashes := goodIn_r _ [34, 26, 35, 36, 37, 14, 38, 39, 40, 41, 42, 43, 44, 16, 17, 18, 45, 46, 47, 48, 49, 50, 51, 52, 53, 54, 55, 56, 57, 58, 59, 60, 61, 62, 63, 64, 65, 66, 67, 68, 69, 70, 71, 72, 73, 74, 75, 76, 77] (by decide +kernel) (by decide +kernel)
set_option maxRecDepth 20000 in
theorem gX10_goEvening_X10_clashes : GoodIn wsX10_goEvening (wsV RX10 137 RX10 yX10_clashes wsX10_clashes) := goodIn_app (goodIn_of _ (by decide +kernel)) ggX10_goEvening_X10_clashes
set_option maxRecDepth 20000 in
theorem ggX10_judge_X10_in : GoodIn wsX10_judge wsX10_in := goodIn_r _ [5] (by decide +kernel) (by decide +kernel)
set_option maxRecDepth 20000 in
theorem gX10_judge_X10_in : GoodIn wsX10_judge (va_wsS RX10 69 yX10_in wsX10_in) := goodIn_app (goodIn_of _ (by decide +kernel)) ggX10_judge_X10_in
set_option maxRecDepth 20000 in
theorem ggX10_judge_X10_eveningFault : GoodIn wsX10_judge wsX10_eveningFault := goodIn_r _ [9, 10, 11, 12, 13, 14, 4, 15, 16, 2, 3, 5, 68, 69, 70, 71, 72, 73, 74, 75, 76, 77, 78, 79, 80, 81, 82, 83, 84, 85, 86, 87, 88, 89, 90, 91, 92] (by decide +kernel) (by decide +kernel)
set_option maxRecDepth 20000 in
theorem gX10_judge_X10_eveningFault : GoodIn wsX10_judge (wsV RX10 80 RX10 yX10_eveningFault wsX10_eveningFault) := goodIn_app (goodIn_of _ (by decide +kernel)) ggX10_judge_X10_eveningFault
set_option maxRecDepth 20000 in
theorem ggX10_judge_X10_goEvening : GoodIn wsX10_judge wsX10_goEvening := goodIn_r _ [20, 21, 22, 23, 24, 25, 26, 27, 10, 11, 1, 28, 29, 30, 4, 31, 32, 33, 34, 35, 36, 37, 38, 39, 40, 41, 16, 42, 43, 44, 45, 46, 47, 48, 49, 50, 51, 52, 53, 54, 55, 56, 57, 58, 59, 60, 61, 62, 63, 64, 65, 66, 67, 68, 69, 70, 71, 72, 73, 74, 75, 76, 77, 78, 79, 80, 81, 82, 83, 84, 85, 86, 87, 88, 89, 90, 91, 92] (by decide +kernel) (by decide +kernel)
set_option maxRecDepth 20000 in
theorem gX10_judge_X10_goEvening : GoodIn wsX10_judge (wsV RX10 140 RX10 yX10_goEvening wsX10_goEvening) := goodIn_app (goodIn_of _ (by decide +kernel)) ggX10_judge_X10_goEvening
set_option maxRecDepth 20000 in
theorem ggX10_barOfEvening_X10_eveningFault : GoodIn wsX10_barOfEvening wsX10_eveningFault := goodIn_r _ [5, 6, 7, 8, 9, 10, 4, 11, 12, 13, 14, 15, 68, 69, 70, 71, 72, 73, 74, 75, 76, 77, 78, 79, 80, 81, 82, 83, 84, 85, 86, 87, 88, 89, 90, 91, 92] (by decide +kernel) (by decide +kernel)
set_option maxRecDepth 20000 in
theorem gX10_barOfEvening_X10_eveningFault : GoodIn wsX10_barOfEvening (wsV RX10 80 RX10 yX10_eveningFault wsX10_eveningFault) := goodIn_app (goodIn_of _ (by decide +kernel)) ggX10_barOfEvening_X10_eveningFault
set_option maxRecDepth 20000 in
theorem ggX10_barOfEvening_X10_goEvening : GoodIn wsX10_barOfEvening wsX10_goEvening := goodIn_r _ [19, 20, 21, 22, 23, 24, 25, 26, 6, 7, 27, 28, 29, 30, 4, 31, 32, 33, 34, 35, 36, 37, 38, 39, 40, 41, 12, 42, 43, 44, 45, 46, 47, 48, 49, 50, 51, 52, 53, 54, 55, 56, 57, 58, 59, 60, 61, 62, 63, 64, 65, 66, 67, 68, 69, 70, 71, 72, 73, 74, 75, 76, 77, 78, 79, 80, 81, 82, 83, 84, 85, 86, 87, 88, 89, 90, 91, 92] (by decide +kernel) (by decide +kernel)
set_option maxRecDepth 20000 in
theorem gX10_barOfEvening_X10_goEvening : GoodIn wsX10_barOfEvening (wsV RX10 140 RX10 yX10_goEvening wsX10_goEvening) := goodIn_app (goodIn_of _ (by decide +kernel)) ggX10_barOfEvening_X10_goEvening
set_option maxRecDepth 20000 in
theorem ggX10_done_X10_barOfEvening : GoodIn wsX10_done wsX10_barOfEvening := goodIn_r _ [11, 12, 13, 14, 10, 15, 5, 16, 17, 18, 19, 20, 21, 22, 23, 24, 25, 26, 27, 28, 2, 1, 4, 3, 29, 30, 6, 31, 32, 33, 34, 35, 36, 37, 38, 39, 40, 41, 42, 43, 44, 45, 46, 47, 48, 49, 50, 51, 52, 53, 54, 55, 56, 57, 58, 59, 60, 61, 62, 63, 64, 65, 66, 67, 68, 69, 70, 71, 72, 73, 74, 75, 76, 77, 78, 79, 80, 81, 82, 83, 84, 85, 86, 87, 88, 89, 90, 91, 92, 93, 94, 95, 96] (by decide +kernel) (by decide +kernel)
set_option maxRecDepth 20000 in
theorem gX10_done_X10_barOfEvening : GoodIn wsX10_done (wsV RX10 143 RX10 yX10_barOfEvening wsX10_barOfEvening) := goodIn_app (goodIn_of _ (by decide +kernel)) ggX10_done_X10_barOfEvening
set_option maxRecDepth 20000 in
theorem ggX10_hears_X10_isWindow : GoodIn wsX10_hears wsX10_isWindow := goodIn_r _ [7, 8, 9, 10, 6, 11, 25, 26, 27, 28, 29, 30, 31, 32, 33, 34, 35, 36, 37, 38, 39, 40, 41, 42, 43, 44, 45, 46, 47, 48, 49] (by decide +kernel) (by decide +kernel)
set_option maxRecDepth 20000 in
theorem gX10_hears_X10_isWindow : GoodIn wsX10_hears (wsV RX10 73 RX10 yX10_isWindow wsX10_isWindow) := goodIn_app (goodIn_of _ (by decide +kernel)) ggX10_hears_X10_isWindow
set_option maxRecDepth 20000 in
theorem ggX10_hears_X10_lengthOf : GoodIn wsX10_hears wsX10_lengthOf := goodIn_r _ [15, 8, 16, 17, 18, 19, 6, 20, 21, 22, 23, 24, 25, 26, 27, 28, 29, 30, 31, 32, 33, 34, 35, 36, 37, 38, 39, 40, 41, 42, 43, 44, 45, 46, 47, 48, 49] (by decide +kernel) (by decide +kernel)
set_option maxRecDepth 20000 in
theorem gX10_hears_X10_lengthOf : GoodIn wsX10_hears (wsV RX10 99 RX10 yX10_lengthOf wsX10_lengthOf) := goodIn_app (goodIn_of _ (by decide +kernel)) ggX10_hears_X10_lengthOf
set_option maxRecDepth 20000 in
theorem ggX10_behind_X10_isWindow : GoodIn wsX10_behind wsX10_isWindow := goodIn_r _ [7, 8, 9, 10, 6, 11, 72, 73, 74, 75, 76, 77, 78, 79, 80, 81, 82, 83, 84, 85, 86, 87, 88, 89, 90, 91, 92, 93, 94, 95, 96] (by decide +kernel) (by decide +kernel)
set_option maxRecDepth 20000 in
theorem gX10_behind_X10_isWindow : GoodIn wsX10_behind (wsV RX10 73 RX10 yX10_isWindow wsX10_isWindow) := goodIn_app (goodIn_of _ (by decide +kernel)) ggX10_behind_X10_isWindow
set_option maxRecDepth 20000 in
theorem ggX10_behind_X10_barOfEvening : GoodIn wsX10_behind wsX10_barOfEvening := goodIn_r _ [15, 16, 17, 18, 6, 19, 20, 21, 3, 4, 5, 7, 8, 9, 10, 11, 22, 23, 24, 25, 26, 1, 27, 2, 28, 29, 30, 31, 32, 33, 34, 35, 36, 37, 38, 39, 40, 41, 42, 43, 44, 45, 46, 47, 48, 49, 50, 51, 52, 53, 54, 55, 56, 57, 58, 59, 60, 61, 62, 63, 64, 65, 66, 67, 68, 69, 70, 71, 72, 73, 74, 75, 76, 77, 78, 79, 80, 81, 82, 83, 84, 85, 86, 87, 88, 89, 90, 91, 92, 93, 94, 95, 96] (by decide +kernel) (by decide +kernel)
set_option maxRecDepth 20000 in
theorem gX10_behind_X10_barOfEvening : GoodIn wsX10_behind (wsV RX10 143 RX10 yX10_barOfEvening wsX10_barOfEvening) := goodIn_app (goodIn_of _ (by decide +kernel)) ggX10_behind_X10_barOfEvening
set_option maxRecDepth 20000 in
theorem ggX10_behind_X10_lengthOf : GoodIn wsX10_behind wsX10_lengthOf := goodIn_r _ [57, 8, 58, 59, 60, 61, 6, 62, 63, 36, 37, 38, 72, 73, 74, 75, 76, 77, 78, 79, 80, 81, 82, 83, 84, 85, 86, 87, 88, 89, 90, 91, 92, 93, 94, 95, 96] (by decide +kernel) (by decide +kernel)
set_option maxRecDepth 20000 in
theorem gX10_behind_X10_lengthOf : GoodIn wsX10_behind (wsV RX10 99 RX10 yX10_lengthOf wsX10_lengthOf) := goodIn_app (goodIn_of _ (by decide +kernel)) ggX10_behind_X10_lengthOf
set_option maxRecDepth 20000 in
theorem ggX10_clashed_X10_in : GoodIn wsX10_clashed wsX10_in := goodIn_r _ [6] (by decide +kernel) (by decide +kernel)
set_option maxRecDepth 20000 in
theorem gX10_clashed_X10_in : GoodIn wsX10_clashed (va_wsS RX10 69 yX10_in wsX10_in) := goodIn_app (goodIn_of _ (by decide +kernel)) ggX10_clashed_X10_in
set_option maxRecDepth 20000 in
theorem ggX10_clashed_X10_barOfEvening : GoodIn wsX10_clashed wsX10_barOfEvening := goodIn_r _ [10, 11, 12, 13, 5, 14, 15, 16, 17, 18, 19, 20, 21, 3, 4, 6, 22, 23, 24, 25, 26, 27, 28, 29, 2, 1, 30, 31, 32, 33, 34, 35, 36, 37, 38, 39, 40, 41, 42, 43, 44, 45, 46, 47, 48, 49, 50, 51, 52, 53, 54, 55, 56, 57, 58, 59, 60, 61, 62, 63, 64, 65, 66, 67, 68, 69, 70, 71, 72, 73, 74, 75, 76, 77, 78, 79, 80, 81, 82, 83, 84, 85, 86, 87, 88, 89, 90, 91, 92, 93, 94, 95, 96] (by decide +kernel) (by decide +kernel)
set_option maxRecDepth 20000 in
theorem gX10_clashed_X10_barOfEvening : GoodIn wsX10_clashed (wsV RX10 143 RX10 yX10_barOfEvening wsX10_barOfEvening) := goodIn_app (goodIn_of _ (by decide +kernel)) ggX10_clashed_X10_barOfEvening
set_option maxRecDepth 20000 in
theorem ggX10_areTwo_X10_isWindow : GoodIn wsX10_areTwo wsX10_isWindow := goodIn_r _ [5, 6, 7, 8, 4, 9, 10, 11, 12, 13, 14, 15, 16, 17, 18, 19, 20, 21, 22, 23, 24, 25, 26, 27, 28, 29, 30, 31, 32, 33, 34] (by decide +kernel) (by decide +kernel)
set_option maxRecDepth 20000 in
theorem gX10_areTwo_X10_isWindow : GoodIn wsX10_areTwo (wsV RX10 73 RX10 yX10_isWindow wsX10_isWindow) := goodIn_app (goodIn_of _ (by decide +kernel)) ggX10_areTwo_X10_isWindow
set_option maxRecDepth 20000 in
theorem ggX10_interval_X10_areTwo : GoodIn wsX10_interval wsX10_areTwo := goodIn_r _ [9, 10, 11, 12, 8, 13, 14, 15, 16, 17, 34, 35, 36, 37, 38, 39, 40, 41, 42, 43, 44, 45, 46, 47, 48, 49, 50, 51, 52, 53, 54, 55, 56, 57, 58] (by decide +kernel) (by decide +kernel)
set_option maxRecDepth 20000 in
theorem gX10_interval_X10_areTwo : GoodIn wsX10_interval (wsV RX10 146 RX10 yX10_areTwo wsX10_areTwo) := goodIn_app (goodIn_of _ (by decide +kernel)) ggX10_interval_X10_areTwo
set_option maxRecDepth 20000 in
theorem ggX10_interval_X10_in : GoodIn wsX10_interval wsX10_in := goodIn_r _ [17] (by decide +kernel) (by decide +kernel)
set_option maxRecDepth 20000 in
theorem gX10_interval_X10_in : GoodIn wsX10_interval (va_wsS RX10 69 yX10_in wsX10_in) := goodIn_app (goodIn_of _ (by decide +kernel)) ggX10_interval_X10_in
set_option maxRecDepth 20000 in
theorem ggX10_interval_X10_lengthOf : GoodIn wsX10_interval wsX10_lengthOf := goodIn_r _ [21, 14, 22, 23, 24, 25, 8, 26, 27, 28, 29, 30, 34, 35, 36, 37, 38, 39, 40, 41, 42, 43, 44, 45, 46, 47, 48, 49, 50, 51, 52, 53, 54, 55, 56, 57, 58] (by decide +kernel) (by decide +kernel)
set_option maxRecDepth 20000 in
theorem gX10_interval_X10_lengthOf : GoodIn wsX10_interval (wsV RX10 99 RX10 yX10_lengthOf wsX10_lengthOf) := goodIn_app (goodIn_of _ (by decide +kernel)) ggX10_interval_X10_lengthOf
set_option maxRecDepth 20000 in
theorem ggX10_interval_X10_divisor : GoodIn wsX10_interval wsX10_divisor := goodIn_r _ [33] (by decide +kernel) (by decide +kernel)
set_option maxRecDepth 20000 in
theorem gX10_interval_X10_divisor : GoodIn wsX10_interval (va_wsS RX10 95 yX10_divisor wsX10_divisor) := goodIn_app (goodIn_of _ (by decide +kernel)) ggX10_interval_X10_divisor
set_option maxRecDepth 20000 in
theorem ggX10_heard_X10_in : GoodIn wsX10_heard wsX10_in := goodIn_r _ [7] (by decide +kernel) (by decide +kernel)
set_option maxRecDepth 20000 in
theorem gX10_heard_X10_in : GoodIn wsX10_heard (va_wsS RX10 69 yX10_in wsX10_in) := goodIn_app (goodIn_of _ (by decide +kernel)) ggX10_heard_X10_in
set_option maxRecDepth 20000 in
theorem ggX10_heard_X10_lengthOf : GoodIn wsX10_heard wsX10_lengthOf := goodIn_r _ [11, 1, 12, 13, 14, 15, 6, 16, 17, 18, 19, 20, 21, 22, 23, 24, 25, 26, 27, 28, 29, 30, 31, 32, 33, 34, 35, 36, 37, 38, 39, 40, 41, 42, 43, 44, 45] (by decide +kernel) (by decide +kernel)
set_option maxRecDepth 20000 in
theorem gX10_heard_X10_lengthOf : GoodIn wsX10_heard (wsV RX10 99 RX10 yX10_lengthOf wsX10_lengthOf) := goodIn_app (goodIn_of _ (by decide +kernel)) ggX10_heard_X10_lengthOf
set_option maxRecDepth 20000 in
theorem ggX10_canBe_X10_bits : GoodIn wsX10_canBe wsX10_bits := goodIn_r _ [4] (by decide +kernel) (by decide +kernel)
set_option maxRecDepth 20000 in
theorem gX10_canBe_X10_bits : GoodIn wsX10_canBe (va_wsS RX10 112 yX10_bits wsX10_bits) := goodIn_app (goodIn_of _ (by decide +kernel)) ggX10_canBe_X10_bits
set_option maxRecDepth 20000 in
theorem ggX10_canBe_X10_may : GoodIn wsX10_canBe wsX10_may := goodIn_r _ [8, 9, 10, 11, 12, 13, 14, 15, 16, 17, 18, 19, 20, 21, 22, 23, 24, 25, 26, 27, 28, 29, 30, 31, 32, 33, 34] (by decide +kernel) (by decide +kernel)
set_option maxRecDepth 20000 in
theorem gX10_canBe_X10_may : GoodIn wsX10_canBe (wsV RX10 115 RX10 yX10_may wsX10_may) := goodIn_app (goodIn_of _ (by decide +kernel)) ggX10_canBe_X10_may
set_option maxRecDepth 20000 in
theorem ggX10_fewestFor_X10_canBe : GoodIn wsX10_fewestFor wsX10_canBe := goodIn_r _ [7, 8, 9, 6, 10, 11, 12, 13, 14, 1, 28, 29, 30, 31, 32, 33, 34, 35, 36, 37, 38, 39, 40, 41, 42, 43, 44, 45, 46, 47, 48, 49, 50, 51, 52] (by decide +kernel) (by decide +kernel)
set_option maxRecDepth 20000 in
theorem gX10_fewestFor_X10_canBe : GoodIn wsX10_fewestFor (wsV RX10 153 RX10 yX10_canBe wsX10_canBe) := goodIn_app (goodIn_of _ (by decide +kernel)) ggX10_fewestFor_X10_canBe
set_option maxRecDepth 20000 in
theorem ggX10_fewestFor_X10_bits : GoodIn wsX10_fewestFor wsX10_bits := goodIn_r _ [10] (by decide +kernel) (by decide +kernel)
set_option maxRecDepth 20000 in
theorem gX10_fewestFor_X10_bits : GoodIn wsX10_fewestFor (va_wsS RX10 112 yX10_bits wsX10_bits) := goodIn_app (goodIn_of _ (by decide +kernel)) ggX10_fewestFor_X10_bits
set_option maxRecDepth 20000 in
theorem ggX10_fewestFor_X10_lengthOf : GoodIn wsX10_fewestFor wsX10_lengthOf := goodIn_r _ [18, 1, 19, 20, 21, 22, 6, 23, 24, 25, 26, 27, 28, 29, 30, 31, 32, 33, 34, 35, 36, 37, 38, 39, 40, 41, 42, 43, 44, 45, 46, 47, 48, 49, 50, 51, 52] (by decide +kernel) (by decide +kernel)
set_option maxRecDepth 20000 in
theorem gX10_fewestFor_X10_lengthOf : GoodIn wsX10_fewestFor (wsV RX10 99 RX10 yX10_lengthOf wsX10_lengthOf) := goodIn_app (goodIn_of _ (by decide +kernel)) ggX10_fewestFor_X10_lengthOf
set_option maxRecDepth 20000 in
theorem ggX10_stopped_X10_isWindow : GoodIn wsX10_stopped wsX10_isWindow := goodIn_r _ [5, 6, 7, 8, 4, 9, 39, 40, 41, 42, 43, 44, 45, 46, 47, 48, 49, 50, 51, 52, 53, 54, 55, 56, 57, 58, 59, 60, 61, 62, 63] (by decide +kernel) (by decide +kernel)
set_option maxRecDepth 20000 in
theorem gX10_stopped_X10_isWindow : GoodIn wsX10_stopped (wsV RX10 73 RX10 yX10_isWindow wsX10_isWindow) := goodIn_app (goodIn_of _ (by decide +kernel)) ggX10_stopped_X10_isWindow
set_option maxRecDepth 20000 in
theorem ggX10_stopped_X10_in : GoodIn wsX10_stopped wsX10_in := goodIn_r _ [9] (by decide +kernel) (by decide +kernel)
set_option maxRecDepth 20000 in
theorem gX10_stopped_X10_in : GoodIn wsX10_stopped (va_wsS RX10 69 yX10_in wsX10_in) := goodIn_app (goodIn_of _ (by decide +kernel)) ggX10_stopped_X10_in
set_option maxRecDepth 20000 in
theorem ggX10_stopped_X10_fewestFor : GoodIn wsX10_stopped wsX10_fewestFor := goodIn_r _ [13, 6, 14, 15, 16, 17, 4, 18, 19, 20, 21, 22, 23, 24, 25, 26, 27, 28, 29, 30, 31, 32, 33, 34, 35, 36, 37, 38, 39, 40, 41, 42, 43, 44, 45, 46, 47, 48, 49, 50, 51, 52, 53, 54, 55, 56, 57, 58, 59, 60, 61, 62, 63] (by decide +kernel) (by decide +kernel)
set_option maxRecDepth 20000 in
theorem gX10_stopped_X10_fewestFor : GoodIn wsX10_stopped (wsV RX10 156 RX10 yX10_fewestFor wsX10_fewestFor) := goodIn_app (goodIn_of _ (by decide +kernel)) ggX10_stopped_X10_fewestFor
set_option maxRecDepth 20000 in
theorem ggX10_stopped_X10_bits : GoodIn wsX10_stopped wsX10_bits := goodIn_r _ [21] (by decide +kernel) (by decide +kernel)
set_option maxRecDepth 20000 in
theorem gX10_stopped_X10_bits : GoodIn wsX10_stopped (va_wsS RX10 112 yX10_bits wsX10_bits) := goodIn_app (goodIn_of _ (by decide +kernel)) ggX10_stopped_X10_bits
set_option maxRecDepth 20000 in
theorem ggX10_friends_X10_areTwo : GoodIn wsX10_friends wsX10_areTwo := goodIn_r _ [5, 6, 7, 8, 4, 9, 10, 11, 12, 13, 43, 44, 45, 46, 47, 48, 49, 50, 51, 52, 53, 54, 55, 56, 57, 58, 59, 60, 61, 62, 63, 64, 65, 66, 67] (by decide +kernel) (by decide +kernel)
set_option maxRecDepth 20000 in
theorem gX10_friends_X10_areTwo : GoodIn wsX10_friends (wsV RX10 146 RX10 yX10_areTwo wsX10_areTwo) := goodIn_app (goodIn_of _ (by decide +kernel)) ggX10_friends_X10_areTwo
set_option maxRecDepth 20000 in
theorem ggX10_friends_X10_in : GoodIn wsX10_friends wsX10_in := goodIn_r _ [13] (by decide +kernel) (by decide +kernel)
set_option maxRecDepth 20000 in
theorem gX10_friends_X10_in : GoodIn wsX10_friends (va_wsS RX10 69 yX10_in wsX10_in) := goodIn_app (goodIn_of _ (by decide +kernel)) ggX10_friends_X10_in
set_option maxRecDepth 20000 in
theorem ggX10_friends_X10_fewestFor : GoodIn wsX10_friends wsX10_fewestFor := goodIn_r _ [17, 10, 18, 19, 20, 21, 4, 22, 23, 24, 25, 26, 27, 28, 29, 30, 31, 32, 33, 34, 35, 36, 37, 38, 39, 40, 41, 42, 43, 44, 45, 46, 47, 48, 49, 50, 51, 52, 53, 54, 55, 56, 57, 58, 59, 60, 61, 62, 63, 64, 65, 66, 67] (by decide +kernel) (by decide +kernel)
set_option maxRecDepth 20000 in
theorem gX10_friends_X10_fewestFor : GoodIn wsX10_friends (wsV RX10 156 RX10 yX10_fewestFor wsX10_fewestFor) := goodIn_app (goodIn_of _ (by decide +kernel)) ggX10_friends_X10_fewestFor
set_option maxRecDepth 20000 in
theorem ggX10_friends_X10_bits : GoodIn wsX10_friends wsX10_bits := goodIn_r _ [25] (by decide +kernel) (by decide +kernel)
set_option maxRecDepth 20000 in
theorem gX10_friends_X10_bits : GoodIn wsX10_friends (va_wsS RX10 112 yX10_bits wsX10_bits) := goodIn_app (goodIn_of _ (by decide +kernel)) ggX10_friends_X10_bits
set_option maxRecDepth 20000 in
theorem ggX10_changes_X10_isWindow : GoodIn wsX10_changes wsX10_isWindow := goodIn_r _ [12, 1, 13, 14, 11, 15, 49, 50, 51, 52, 53, 54, 55, 56, 57, 58, 59, 60, 61, 62, 63, 64, 65, 66, 67, 68, 69, 70, 71, 72, 73] (by decide +kernel) (by decide +kernel)
set_option maxRecDepth 20000 in
theorem gX10_changes_X10_isWindow : GoodIn wsX10_changes (wsV RX10 73 RX10 yX10_isWindow wsX10_isWindow) := goodIn_app (goodIn_of _ (by decide +kernel)) ggX10_changes_X10_isWindow
set_option maxRecDepth 20000 in
theorem ggX10_changes_X10_in : GoodIn wsX10_changes wsX10_in := goodIn_r _ [15] (by decide +kernel) (by decide +kernel)
set_option maxRecDepth 20000 in
theorem gX10_changes_X10_in : GoodIn wsX10_changes (va_wsS RX10 69 yX10_in wsX10_in) := goodIn_app (goodIn_of _ (by decide +kernel)) ggX10_changes_X10_in
set_option maxRecDepth 20000 in
theorem ggX10_changes_X10_tuneFault : GoodIn wsX10_changes wsX10_tuneFault := goodIn_r _ [19, 5, 20, 13, 14, 11, 15, 49, 50, 51, 52, 53, 54, 55, 56, 57, 58, 59, 60, 61, 62, 63, 64, 65, 66, 67, 68, 69, 70, 71, 72, 73] (by decide +kernel) (by decide +kernel)
set_option maxRecDepth 20000 in
theorem gX10_changes_X10_tuneFault : GoodIn wsX10_changes (wsV RX10 84 RX10 yX10_tuneFault wsX10_tuneFault) := goodIn_app (goodIn_of _ (by decide +kernel)) ggX10_changes_X10_tuneFault
set_option maxRecDepth 20000 in
theorem ggX10_changes_X10_note : GoodIn wsX10_changes wsX10_note := goodIn_r _ [24, 20, 49, 50, 51, 52, 53, 54, 55, 56, 57, 58, 59, 60, 61, 62, 63, 64, 65, 66, 67, 68, 69, 70, 71, 72, 73] (by decide +kernel) (by decide +kernel)
set_option maxRecDepth 20000 in
theorem gX10_changes_X10_note : GoodIn wsX10_changes (wsV RX10 161 RX10 yX10_note wsX10_note) := goodIn_app (goodIn_of _ (by decide +kernel)) ggX10_changes_X10_note
set_option maxRecDepth 20000 in
theorem ggX10_changes_X10_canBe : GoodIn wsX10_changes wsX10_canBe := goodIn_r _ [28, 29, 30, 11, 31, 32, 33, 34, 35, 1, 49, 50, 51, 52, 53, 54, 55, 56, 57, 58, 59, 60, 61, 62, 63, 64, 65, 66, 67, 68, 69, 70, 71, 72, 73] (by decide +kernel) (by decide +kernel)
set_option maxRecDepth 20000 in
theorem gX10_changes_X10_canBe : GoodIn wsX10_changes (wsV RX10 153 RX10 yX10_canBe wsX10_canBe) := goodIn_app (goodIn_of _ (by decide +kernel)) ggX10_changes_X10_canBe
set_option maxRecDepth 20000 in
theorem ggX10_changes_X10_lengthOf : GoodIn wsX10_changes wsX10_lengthOf := goodIn_r _ [39, 1, 40, 41, 42, 43, 11, 44, 45, 46, 47, 48, 49, 50, 51, 52, 53, 54, 55, 56, 57, 58, 59, 60, 61, 62, 63, 64, 65, 66, 67, 68, 69, 70, 71, 72, 73] (by decide +kernel) (by decide +kernel)
set_option maxRecDepth 20000 in
theorem gX10_changes_X10_lengthOf : GoodIn wsX10_changes (wsV RX10 99 RX10 yX10_lengthOf wsX10_lengthOf) := goodIn_app (goodIn_of _ (by decide +kernel)) ggX10_changes_X10_lengthOf
set_option maxRecDepth 20000 in
theorem ggX10_changes_X10_bits : GoodIn wsX10_changes wsX10_bits := goodIn_r _ [31] (by decide +kernel) (by decide +kernel)
set_option maxRecDepth 20000 in
theorem gX10_changes_X10_bits : GoodIn wsX10_changes (va_wsS RX10 112 yX10_bits wsX10_bits) := goodIn_app (goodIn_of _ (by decide +kernel)) ggX10_changes_X10_bits
set_option maxRecDepth 20000 in
theorem ggX10_shifts_X10_areTwo : GoodIn wsX10_shifts wsX10_areTwo := goodIn_r _ [6, 7, 8, 9, 5, 10, 11, 12, 13, 14, 53, 54, 55, 56, 57, 58, 59, 60, 61, 62, 63, 64, 65, 66, 67, 68, 69, 70, 71, 72, 73, 74, 75, 76, 77] (by decide +kernel) (by decide +kernel)
set_option maxRecDepth 20000 in
theorem gX10_shifts_X10_areTwo : GoodIn wsX10_shifts (wsV RX10 146 RX10 yX10_areTwo wsX10_areTwo) := goodIn_app (goodIn_of _ (by decide +kernel)) ggX10_shifts_X10_areTwo
set_option maxRecDepth 20000 in
theorem ggX10_shifts_X10_tuneFault : GoodIn wsX10_shifts wsX10_tuneFault := goodIn_r _ [18, 1, 19, 12, 13, 5, 14, 53, 54, 55, 56, 57, 58, 59, 60, 61, 62, 63, 64, 65, 66, 67, 68, 69, 70, 71, 72, 73, 74, 75, 76, 77] (by decide +kernel) (by decide +kernel)
set_option maxRecDepth 20000 in
theorem gX10_shifts_X10_tuneFault : GoodIn wsX10_shifts (wsV RX10 84 RX10 yX10_tuneFault wsX10_tuneFault) := goodIn_app (goodIn_of _ (by decide +kernel)) ggX10_shifts_X10_tuneFault
set_option maxRecDepth 20000 in
theorem ggX10_shifts_X10_note : GoodIn wsX10_shifts wsX10_note := goodIn_r _ [23, 19, 53, 54, 55, 56, 57, 58, 59, 60, 61, 62, 63, 64, 65, 66, 67, 68, 69, 70, 71, 72, 73, 74, 75, 76, 77] (by decide +kernel) (by decide +kernel)
set_option maxRecDepth 20000 in
theorem gX10_shifts_X10_note : GoodIn wsX10_shifts (wsV RX10 161 RX10 yX10_note wsX10_note) := goodIn_app (goodIn_of _ (by decide +kernel)) ggX10_shifts_X10_note
set_option maxRecDepth 20000 in
theorem ggX10_shifts_X10_fewestFor : GoodIn wsX10_shifts wsX10_fewestFor := goodIn_r _ [27, 11, 28, 29, 30, 31, 5, 32, 33, 34, 35, 36, 37, 38, 39, 40, 41, 42, 43, 44, 45, 46, 47, 48, 49, 50, 51, 52, 53, 54, 55, 56, 57, 58, 59, 60, 61, 62, 63, 64, 65, 66, 67, 68, 69, 70, 71, 72, 73, 74, 75, 76, 77] (by decide +kernel) (by decide +kernel)
set_option maxRecDepth 20000 in
theorem gX10_shifts_X10_fewestFor : GoodIn wsX10_shifts (wsV RX10 156 RX10 yX10_fewestFor wsX10_fewestFor) := goodIn_app (goodIn_of _ (by decide +kernel)) ggX10_shifts_X10_fewestFor
set_option maxRecDepth 20000 in
theorem ggX10_seen_X10_isWindow : GoodIn wsX10_seen wsX10_isWindow := goodIn_r _ [7, 8, 9, 10, 6, 11, 12, 13, 14, 15, 16, 17, 18, 19, 20, 21, 22, 23, 24, 25, 26, 27, 28, 29, 30, 31, 32, 33, 34, 35, 36] (by decide +kernel) (by decide +kernel)
set_option maxRecDepth 20000 in
theorem gX10_seen_X10_isWindow : GoodIn wsX10_seen (wsV RX10 73 RX10 yX10_isWindow wsX10_isWindow) := goodIn_app (goodIn_of _ (by decide +kernel)) ggX10_seen_X10_isWindow
set_option maxRecDepth 20000 in
theorem ggX10_seen_X10_in : GoodIn wsX10_seen wsX10_in := goodIn_r _ [11] (by decide +kernel) (by decide +kernel)
set_option maxRecDepth 20000 in
theorem gX10_seen_X10_in : GoodIn wsX10_seen (va_wsS RX10 69 yX10_in wsX10_in) := goodIn_app (goodIn_of _ (by decide +kernel)) ggX10_seen_X10_in
set_option maxRecDepth 20000 in
theorem ggX10_fits_X10_canBe : GoodIn wsX10_fits wsX10_canBe := goodIn_r _ [8, 9, 10, 7, 11, 12, 13, 14, 15, 16, 30, 31, 32, 33, 34, 35, 36, 37, 38, 39, 40, 41, 42, 43, 44, 45, 46, 47, 48, 49, 50, 51, 52, 53, 54] (by decide +kernel) (by decide +kernel)
set_option maxRecDepth 20000 in
theorem gX10_fits_X10_canBe : GoodIn wsX10_fits (wsV RX10 153 RX10 yX10_canBe wsX10_canBe) := goodIn_app (goodIn_of _ (by decide +kernel)) ggX10_fits_X10_canBe
set_option maxRecDepth 20000 in
theorem ggX10_fits_X10_lengthOf : GoodIn wsX10_fits wsX10_lengthOf := goodIn_r _ [20, 16, 21, 22, 23, 24, 7, 25, 26, 27, 28, 29, 30, 31, 32, 33, 34, 35, 36, 37, 38, 39, 40, 41, 42, 43, 44, 45, 46, 47, 48, 49, 50, 51, 52, 53, 54] (by decide +kernel) (by decide +kernel)
set_option maxRecDepth 20000 in
theorem gX10_fits_X10_lengthOf : GoodIn wsX10_fits (wsV RX10 99 RX10 yX10_lengthOf wsX10_lengthOf) := goodIn_app (goodIn_of _ (by decide +kernel)) ggX10_fits_X10_lengthOf
set_option maxRecDepth 20000 in
theorem ggX10_fit_X10_in : GoodIn wsX10_fit wsX10_in := goodIn_r _ [5] (by decide +kernel) (by decide +kernel)
set_option maxRecDepth 20000 in
theorem gX10_fit_X10_in : GoodIn wsX10_fit (va_wsS RX10 69 yX10_in wsX10_in) := goodIn_app (goodIn_of _ (by decide +kernel)) ggX10_fit_X10_in
set_option maxRecDepth 20000 in
theorem ggX10_fit_X10_fits : GoodIn wsX10_fit wsX10_fits := goodIn_r _ [9, 10, 11, 12, 13, 14, 15, 4, 16, 17, 18, 19, 20, 21, 22, 23, 1, 24, 25, 26, 27, 28, 29, 30, 31, 32, 33, 34, 35, 36, 37, 38, 39, 40, 41, 42, 43, 44, 45, 46, 47, 48, 49, 50, 51, 52, 53, 54, 55, 56, 57, 58, 59, 60, 61] (by decide +kernel) (by decide +kernel)
set_option maxRecDepth 20000 in
theorem gX10_fit_X10_fits : GoodIn wsX10_fit (wsV RX10 164 RX10 yX10_fits wsX10_fits) := goodIn_app (goodIn_of _ (by decide +kernel)) ggX10_fit_X10_fits
set_option maxRecDepth 20000 in
theorem ggX10_ask_X10_in : GoodIn wsX10_ask wsX10_in := goodIn_r _ [10] (by decide +kernel) (by decide +kernel)
set_option maxRecDepth 20000 in
theorem gX10_ask_X10_in : GoodIn wsX10_ask (va_wsS RX10 69 yX10_in wsX10_in) := goodIn_app (goodIn_of _ (by decide +kernel)) ggX10_ask_X10_in
set_option maxRecDepth 20000 in
theorem ggX10_ask_X10_fits : GoodIn wsX10_ask wsX10_fits := goodIn_r _ [14, 3, 4, 6, 15, 16, 17, 9, 18, 19, 20, 21, 22, 23, 24, 25, 2, 26, 27, 28, 29, 30, 31, 32, 33, 34, 35, 36, 37, 38, 39, 40, 41, 42, 43, 44, 45, 46, 47, 48, 49, 50, 51, 52, 53, 54, 55, 56, 57, 58, 59, 60, 61, 62, 63] (by decide +kernel) (by decide +kernel)
set_option maxRecDepth 20000 in
theorem gX10_ask_X10_fits : GoodIn wsX10_ask (wsV RX10 164 RX10 yX10_fits wsX10_fits) := goodIn_app (goodIn_of _ (by decide +kernel)) ggX10_ask_X10_fits
set_option maxRecDepth 20000 in
theorem ggX10_ask_X10_lengthOf : GoodIn wsX10_ask wsX10_lengthOf := goodIn_r _ [29, 2, 30, 31, 32, 33, 9, 34, 35, 36, 37, 38, 39, 40, 41, 42, 43, 44, 45, 46, 47, 48, 49, 50, 51, 52, 53, 54, 55, 56, 57, 58, 59, 60, 61, 62, 63] (by decide +kernel) (by decide +kernel)
set_option maxRecDepth 20000 in
theorem gX10_ask_X10_lengthOf : GoodIn wsX10_ask (wsV RX10 99 RX10 yX10_lengthOf wsX10_lengthOf) := goodIn_app (goodIn_of _ (by decide +kernel)) ggX10_ask_X10_lengthOf
set_option maxRecDepth 20000 in
theorem ggX10_borrow_X10_areTwo : GoodIn wsX10_borrow wsX10_areTwo := goodIn_r _ [6, 7, 8, 9, 5, 10, 11, 12, 13, 14, 15, 16, 17, 18, 19, 20, 21, 22, 23, 24, 25, 26, 27, 28, 29, 30, 31, 32, 33, 34, 35, 36, 37, 38, 39] (by decide +kernel) (by decide +kernel)
set_option maxRecDepth 20000 in
theorem gX10_borrow_X10_areTwo : GoodIn wsX10_borrow (wsV RX10 146 RX10 yX10_areTwo wsX10_areTwo) := goodIn_app (goodIn_of _ (by decide +kernel)) ggX10_borrow_X10_areTwo
set_option maxRecDepth 20000 in
theorem ggX10_borrow_X10_in : GoodIn wsX10_borrow wsX10_in := goodIn_r _ [14] (by decide +kernel) (by decide +kernel)
set_option maxRecDepth 20000 in
theorem gX10_borrow_X10_in : GoodIn wsX10_borrow (va_wsS RX10 69 yX10_in wsX10_in) := goodIn_app (goodIn_of _ (by decide +kernel)) ggX10_borrow_X10_in
set_option maxRecDepth 20000 in
theorem ggX10_teas_X10_has : GoodIn wsX10_teas wsX10_has := goodIn_r _ [7] (by decide +kernel) (by decide +kernel)
set_option maxRecDepth 20000 in
theorem gX10_teas_X10_has : GoodIn wsX10_teas (va_wsS RX10 91 yX10_has wsX10_has) := goodIn_app (goodIn_of _ (by decide +kernel)) ggX10_teas_X10_has
set_option maxRecDepth 20000 in
theorem ggX10_teas_X10_bits : GoodIn wsX10_teas wsX10_bits := goodIn_r _ [10] (by decide +kernel) (by decide +kernel)
set_option maxRecDepth 20000 in
theorem gX10_teas_X10_bits : GoodIn wsX10_teas (va_wsS RX10 112 yX10_bits wsX10_bits) := goodIn_app (goodIn_of _ (by decide +kernel)) ggX10_teas_X10_bits
set_option maxRecDepth 20000 in
theorem ggX10_worth_X10_lengthOf : GoodIn wsX10_worth wsX10_lengthOf := goodIn_r _ [7, 8, 9, 10, 11, 12, 6, 13, 14, 15, 16, 17, 18, 19, 20, 21, 22, 23, 24, 25, 26, 27, 28, 29, 30, 31, 32, 33, 34, 35, 36, 37, 38, 39, 40, 41, 42] (by decide +kernel) (by decide +kernel)
set_option maxRecDepth 20000 in
theorem gX10_worth_X10_lengthOf : GoodIn wsX10_worth (wsV RX10 99 RX10 yX10_lengthOf wsX10_lengthOf) := goodIn_app (goodIn_of _ (by decide +kernel)) ggX10_worth_X10_lengthOf
set_option maxRecDepth 20000 in
theorem ggX10_feet_X10_canBe : GoodIn wsX10_feet wsX10_canBe := goodIn_r _ [7, 8, 9, 6, 10, 11, 12, 13, 14, 1, 34, 35, 36, 37, 38, 39, 40, 41, 42, 43, 44, 45, 46, 47, 48, 49, 50, 51, 52, 53, 54, 55, 56, 57, 58] (by decide +kernel) (by decide +kernel)
set_option maxRecDepth 20000 in
theorem gX10_feet_X10_canBe : GoodIn wsX10_feet (wsV RX10 153 RX10 yX10_canBe wsX10_canBe) := goodIn_app (goodIn_of _ (by decide +kernel)) ggX10_feet_X10_canBe
set_option maxRecDepth 20000 in
theorem ggX10_feet_X10_worth : GoodIn wsX10_feet wsX10_worth := goodIn_r _ [18, 19, 20, 21, 22, 23, 6, 24, 1, 25, 26, 27, 28, 29, 30, 31, 32, 33, 34, 35, 36, 37, 38, 39, 40, 41, 42, 43, 44, 45, 46, 47, 48, 49, 50, 51, 52, 53, 54, 55, 56, 57, 58] (by decide +kernel) (by decide +kernel)
set_option maxRecDepth 20000 in
theorem gX10_feet_X10_worth : GoodIn wsX10_feet (wsV RX10 167 RX10 yX10_worth wsX10_worth) := goodIn_app (goodIn_of _ (by decide +kernel)) ggX10_feet_X10_worth
set_option maxRecDepth 20000 in
theorem ggX10_had_X10_has : GoodIn wsX10_had wsX10_has := goodIn_r _ [4] (by decide +kernel) (by decide +kernel)
set_option maxRecDepth 20000 in
theorem gX10_had_X10_has : GoodIn wsX10_had (va_wsS RX10 91 yX10_has wsX10_has) := goodIn_app (goodIn_of _ (by decide +kernel)) ggX10_had_X10_has
set_option maxRecDepth 20000 in
theorem ggX10_hooks_X10_in : GoodIn wsX10_hooks wsX10_in := goodIn_r _ [5] (by decide +kernel) (by decide +kernel)
set_option maxRecDepth 20000 in
theorem gX10_hooks_X10_in : GoodIn wsX10_hooks (va_wsS RX10 69 yX10_in wsX10_in) := goodIn_app (goodIn_of _ (by decide +kernel)) ggX10_hooks_X10_in
set_option maxRecDepth 20000 in
theorem ggX10_hooks_X10_bits : GoodIn wsX10_hooks wsX10_bits := goodIn_r _ [8] (by decide +kernel) (by decide +kernel)
set_option maxRecDepth 20000 in
theorem gX10_hooks_X10_bits : GoodIn wsX10_hooks (va_wsS RX10 112 yX10_bits wsX10_bits) := goodIn_app (goodIn_of _ (by decide +kernel)) ggX10_hooks_X10_bits
set_option maxRecDepth 20000 in
theorem ggX10_hooks_X10_had : GoodIn wsX10_hooks wsX10_had := goodIn_r _ [11, 12, 13, 4, 14] (by decide +kernel) (by decide +kernel)
set_option maxRecDepth 20000 in
theorem gX10_hooks_X10_had : GoodIn wsX10_hooks (va_wsS RX10 171 yX10_had wsX10_had) := goodIn_app (goodIn_of _ (by decide +kernel)) ggX10_hooks_X10_had
set_option maxRecDepth 20000 in
theorem ggX10_canPut_X10_has : GoodIn wsX10_canPut wsX10_has := goodIn_r _ [5] (by decide +kernel) (by decide +kernel)
set_option maxRecDepth 20000 in
theorem gX10_canPut_X10_has : GoodIn wsX10_canPut (va_wsS RX10 91 yX10_has wsX10_has) := goodIn_app (goodIn_of _ (by decide +kernel)) ggX10_canPut_X10_has
set_option maxRecDepth 20000 in
theorem ggX10_canPut_X10_canBe : GoodIn wsX10_canPut wsX10_canBe := goodIn_r _ [9, 10, 11, 4, 12, 13, 14, 15, 16, 17, 40, 41, 42, 43, 44, 45, 46, 47, 48, 49, 50, 51, 52, 53, 54, 55, 56, 57, 58, 59, 60, 61, 62, 63, 64] (by decide +kernel) (by decide +kernel)
set_option maxRecDepth 20000 in
theorem gX10_canPut_X10_canBe : GoodIn wsX10_canPut (wsV RX10 153 RX10 yX10_canBe wsX10_canBe) := goodIn_app (goodIn_of _ (by decide +kernel)) ggX10_canPut_X10_canBe
set_option maxRecDepth 20000 in
theorem ggX10_canPut_X10_clashes : GoodIn wsX10_canPut wsX10_clashes := goodIn_r _ [21, 17, 22, 23, 24, 4, 25, 26, 27, 28, 29, 30, 31, 2, 3, 5, 32, 33, 34, 35, 36, 37, 38, 39, 40, 41, 42, 43, 44, 45, 46, 47, 48, 49, 50, 51, 52, 53, 54, 55, 56, 57, 58, 59, 60, 61, 62, 63, 64] (by decide +kernel) (by decide +kernel)
set_option maxRecDepth 20000 in
theorem gX10_canPut_X10_clashes : GoodIn wsX10_canPut (wsV RX10 137 RX10 yX10_clashes wsX10_clashes) := goodIn_app (goodIn_of _ (by decide +kernel)) ggX10_canPut_X10_clashes
set_option maxRecDepth 20000 in
theorem ggX10_turns_X10_in : GoodIn wsX10_turns wsX10_in := goodIn_r _ [7] (by decide +kernel) (by decide +kernel)
set_option maxRecDepth 20000 in
theorem gX10_turns_X10_in : GoodIn wsX10_turns (va_wsS RX10 69 yX10_in wsX10_in) := goodIn_app (goodIn_of _ (by decide +kernel)) ggX10_turns_X10_in
set_option maxRecDepth 20000 in
theorem ggX10_turns_X10_canPut : GoodIn wsX10_turns wsX10_canPut := goodIn_r _ [11, 12, 13, 14, 6, 15, 16, 17, 18, 19, 20, 21, 22, 23, 24, 25, 26, 1, 27, 28, 29, 30, 31, 32, 33, 34, 35, 36, 37, 38, 39, 40, 41, 42, 43, 44, 45, 46, 47, 48, 49, 50, 51, 52, 53, 54, 55, 56, 57, 58, 59, 60, 61, 62, 63, 64, 65, 66, 67, 68, 69, 70, 71, 72, 73] (by decide +kernel) (by decide +kernel)
set_option maxRecDepth 20000 in
theorem gX10_turns_X10_canPut : GoodIn wsX10_turns (wsV RX10 174 RX10 yX10_canPut wsX10_canPut) := goodIn_app (goodIn_of _ (by decide +kernel)) ggX10_turns_X10_canPut
set_option maxRecDepth 20000 in
theorem ggX10_likely_X10_has : GoodIn wsX10_likely wsX10_has := goodIn_r _ [7] (by decide +kernel) (by decide +kernel)
set_option maxRecDepth 20000 in
theorem gX10_likely_X10_has : GoodIn wsX10_likely (va_wsS RX10 91 yX10_has wsX10_has) := goodIn_app (goodIn_of _ (by decide +kernel)) ggX10_likely_X10_has
set_option maxRecDepth 20000 in
theorem ggX10_likely_X10_clashes : GoodIn wsX10_likely wsX10_clashes := goodIn_r _ [11, 1, 12, 13, 14, 6, 15, 16, 17, 18, 19, 20, 21, 4, 5, 7, 22, 23, 24, 25, 26, 27, 28, 29, 30, 31, 32, 33, 34, 35, 36, 37, 38, 39, 40, 41, 42, 43, 44, 45, 46, 47, 48, 49, 50, 51, 52, 53, 54] (by decide +kernel) (by decide +kernel)
set_option maxRecDepth 20000 in
theorem gX10_likely_X10_clashes : GoodIn wsX10_likely (wsV RX10 137 RX10 yX10_clashes wsX10_clashes) := goodIn_app (goodIn_of _ (by decide +kernel)) ggX10_likely_X10_clashes
set_option maxRecDepth 20000 in
theorem ggX10_likely_X10_lengthOf : GoodIn wsX10_likely wsX10_lengthOf := goodIn_r _ [15, 1, 16, 17, 18, 19, 6, 20, 21, 4, 5, 7, 30, 31, 32, 33, 34, 35, 36, 37, 38, 39, 40, 41, 42, 43, 44, 45, 46, 47, 48, 49, 50, 51, 52, 53, 54] (by decide +kernel) (by decide +kernel)
set_option maxRecDepth 20000 in
theorem gX10_likely_X10_lengthOf : GoodIn wsX10_likely (wsV RX10 99 RX10 yX10_lengthOf wsX10_lengthOf) := goodIn_app (goodIn_of _ (by decide +kernel)) ggX10_likely_X10_lengthOf
set_option maxRecDepth 20000 in
theorem ggX10_part_X10_bits : GoodIn wsX10_part wsX10_bits := goodIn_r _ [6] (by decide +kernel) (by decide +kernel)
set_option maxRecDepth 20000 in
theorem gX10_part_X10_bits : GoodIn wsX10_part (va_wsS RX10 112 yX10_bits wsX10_bits) := goodIn_app (goodIn_of _ (by decide +kernel)) ggX10_part_X10_bits
set_option maxRecDepth 20000 in
theorem ggX10_slips_X10_isWindow : GoodIn wsX10_slips wsX10_isWindow := goodIn_r _ [7, 8, 9, 10, 6, 11, 51, 52, 53, 54, 55, 56, 57, 58, 59, 60, 61, 62, 63, 64, 65, 66, 67, 68, 69, 70, 71, 72, 73, 74, 75] (by decide +kernel) (by decide +kernel)
set_option maxRecDepth 20000 in
theorem gX10_slips_X10_isWindow : GoodIn wsX10_slips (wsV RX10 73 RX10 yX10_isWindow wsX10_isWindow) := goodIn_app (goodIn_of _ (by decide +kernel)) ggX10_slips_X10_isWindow
set_option maxRecDepth 20000 in
theorem ggX10_slips_X10_in : GoodIn wsX10_slips wsX10_in := goodIn_r _ [11] (by decide +kernel) (by decide +kernel)
set_option maxRecDepth 20000 in
theorem gX10_slips_X10_in : GoodIn wsX10_slips (va_wsS RX10 69 yX10_in wsX10_in) := goodIn_app (goodIn_of _ (by decide +kernel)) ggX10_slips_X10_in
set_option maxRecDepth 20000 in
theorem ggX10_slips_X10_likely : GoodIn wsX10_slips wsX10_likely := goodIn_r _ [15, 8, 16, 17, 18, 19, 6, 20, 21, 22, 23, 24, 25, 26, 27, 28, 29, 30, 31, 32, 33, 34, 35, 36, 37, 38, 39, 40, 41, 42, 51, 52, 53, 54, 55, 56, 57, 58, 59, 60, 61, 62, 63, 64, 65, 66, 67, 68, 69, 70, 71, 72, 73, 74, 75] (by decide +kernel) (by decide +kernel)
set_option maxRecDepth 20000 in
theorem gX10_slips_X10_likely : GoodIn wsX10_slips (wsV RX10 179 RX10 yX10_likely wsX10_likely) := goodIn_app (goodIn_of _ (by decide +kernel)) ggX10_slips_X10_likely
set_option maxRecDepth 20000 in
theorem ggX10_slips_X10_part : GoodIn wsX10_slips wsX10_part := goodIn_r _ [46, 16, 47, 48, 49, 6, 50, 51, 52, 53, 54, 55, 56, 57, 58, 59, 60, 61, 62, 63, 64, 65, 66, 67, 68, 69, 70, 71, 72, 73, 74, 75] (by decide +kernel) (by decide +kernel)
set_option maxRecDepth 20000 in
theorem gX10_slips_X10_part : GoodIn wsX10_slips (wsV RX10 183 RX10 yX10_part wsX10_part) := goodIn_app (goodIn_of _ (by decide +kernel)) ggX10_slips_X10_part
set_option maxRecDepth 20000 in
theorem ggX10_calm_X10_in : GoodIn wsX10_calm wsX10_in := goodIn_r _ [5] (by decide +kernel) (by decide +kernel)
set_option maxRecDepth 20000 in
theorem gX10_calm_X10_in : GoodIn wsX10_calm (va_wsS RX10 69 yX10_in wsX10_in) := goodIn_app (goodIn_of _ (by decide +kernel)) ggX10_calm_X10_in
set_option maxRecDepth 20000 in
theorem ggX10_calm_X10_likely : GoodIn wsX10_calm wsX10_likely := goodIn_r _ [9, 10, 11, 12, 13, 14, 4, 15, 16, 17, 18, 19, 20, 21, 22, 23, 24, 25, 26, 27, 28, 29, 30, 31, 32, 33, 34, 35, 36, 37, 46, 47, 48, 49, 50, 51, 52, 53, 54, 55, 56, 57, 58, 59, 60, 61, 62, 63, 64, 65, 66, 67, 68, 69, 70] (by decide +kernel) (by decide +kernel)
set_option maxRecDepth 20000 in
theorem gX10_calm_X10_likely : GoodIn wsX10_calm (wsV RX10 179 RX10 yX10_likely wsX10_likely) := goodIn_app (goodIn_of _ (by decide +kernel)) ggX10_calm_X10_likely
set_option maxRecDepth 20000 in
theorem ggX10_calm_X10_part : GoodIn wsX10_calm wsX10_part := goodIn_r _ [41, 11, 42, 43, 44, 4, 45, 46, 47, 48, 49, 50, 51, 52, 53, 54, 55, 56, 57, 58, 59, 60, 61, 62, 63, 64, 65, 66, 67, 68, 69, 70] (by decide +kernel) (by decide +kernel)
set_option maxRecDepth 20000 in
theorem gX10_calm_X10_part : GoodIn wsX10_calm (wsV RX10 183 RX10 yX10_part wsX10_part) := goodIn_app (goodIn_of _ (by decide +kernel)) ggX10_calm_X10_part
set_option maxRecDepth 20000 in
theorem ggX10_year_X10_in : GoodIn wsX10_year wsX10_in := goodIn_r _ [10] (by decide +kernel) (by decide +kernel)
set_option maxRecDepth 20000 in
theorem gX10_year_X10_in : GoodIn wsX10_year (va_wsS RX10 69 yX10_in wsX10_in) := goodIn_app (goodIn_of _ (by decide +kernel)) ggX10_year_X10_in
set_option maxRecDepth 20000 in
theorem ggX10_year_X10_whyNot : GoodIn wsX10_year wsX10_whyNot := goodIn_r _ [14, 4, 2, 15, 16, 9, 17, 18, 19, 20, 21, 22, 23, 24, 6, 51, 52, 53, 54, 55, 56, 57, 58, 59, 60, 61, 62, 63, 64, 65, 66, 67, 68, 69, 70, 71, 72, 73, 74, 75] (by decide +kernel) (by decide +kernel)
set_option maxRecDepth 20000 in
theorem gX10_year_X10_whyNot : GoodIn wsX10_year (wsV RX10 127 RX10 yX10_whyNot wsX10_whyNot) := goodIn_app (goodIn_of _ (by decide +kernel)) ggX10_year_X10_whyNot
set_option maxRecDepth 20000 in
theorem ggX10_year_X10_act : GoodIn wsX10_year wsX10_act := goodIn_r _ [28, 4, 2, 51, 52, 53, 54, 55, 56, 57, 58, 59, 60, 61, 62, 63, 64, 65, 66, 67, 68, 69, 70, 71, 72, 73, 74, 75] (by decide +kernel) (by decide +kernel)
set_option maxRecDepth 20000 in
theorem gX10_year_X10_act : GoodIn wsX10_year (wsV RX10 133 RX10 yX10_act wsX10_act) := goodIn_app (goodIn_of _ (by decide +kernel)) ggX10_year_X10_act
set_option maxRecDepth 20000 in
theorem ggX10_year_X10_clashes : GoodIn wsX10_year wsX10_clashes := goodIn_r _ [32, 6, 33, 34, 35, 9, 36, 37, 38, 39, 40, 41, 42, 15, 16, 17, 43, 44, 45, 46, 47, 48, 49, 50, 51, 52, 53, 54, 55, 56, 57, 58, 59, 60, 61, 62, 63, 64, 65, 66, 67, 68, 69, 70, 71, 72, 73, 74, 75] (by decide +kernel) (by decide +kernel)
set_option maxRecDepth 20000 in
theorem gX10_year_X10_clashes : GoodIn wsX10_year (wsV RX10 137 RX10 yX10_clashes wsX10_clashes) := goodIn_app (goodIn_of _ (by decide +kernel)) ggX10_year_X10_clashes
set_option maxRecDepth 20000 in
theorem ggX10_year_X10_lengthOf : GoodIn wsX10_year wsX10_lengthOf := goodIn_r _ [36, 6, 37, 38, 39, 40, 9, 41, 42, 15, 16, 17, 51, 52, 53, 54, 55, 56, 57, 58, 59, 60, 61, 62, 63, 64, 65, 66, 67, 68, 69, 70, 71, 72, 73, 74, 75] (by decide +kernel) (by decide +kernel)
set_option maxRecDepth 20000 in
theorem gX10_year_X10_lengthOf : GoodIn wsX10_year (wsV RX10 99 RX10 yX10_lengthOf wsX10_lengthOf) := goodIn_app (goodIn_of _ (by decide +kernel)) ggX10_year_X10_lengthOf
set_option maxRecDepth 20000 in
theorem ggX10_image_X10_in : GoodIn wsX10_image wsX10_in := goodIn_r _ [16] (by decide +kernel) (by decide +kernel)
set_option maxRecDepth 20000 in
theorem gX10_image_X10_in : GoodIn wsX10_image (va_wsS RX10 69 yX10_in wsX10_in) := goodIn_app (goodIn_of _ (by decide +kernel)) ggX10_image_X10_in
set_option maxRecDepth 20000 in
theorem ggX10_restore_X10_in : GoodIn wsX10_restore wsX10_in := goodIn_r _ [16] (by decide +kernel) (by decide +kernel)
set_option maxRecDepth 20000 in
theorem gX10_restore_X10_in : GoodIn wsX10_restore (va_wsS RX10 69 yX10_in wsX10_in) := goodIn_app (goodIn_of _ (by decide +kernel)) ggX10_restore_X10_in
set_option maxRecDepth 20000 in
theorem ggX10_told_X10_isWindow : GoodIn wsX10_told wsX10_isWindow := goodIn_r _ [14, 3, 15, 16, 13, 17, 18, 19, 20, 21, 22, 23, 24, 25, 26, 27, 28, 29, 30, 31, 32, 33, 34, 35, 36, 37, 38, 39, 40, 41, 42] (by decide +kernel) (by decide +kernel)
set_option maxRecDepth 20000 in
theorem gX10_told_X10_isWindow : GoodIn wsX10_told (wsV RX10 73 RX10 yX10_isWindow wsX10_isWindow) := goodIn_app (goodIn_of _ (by decide +kernel)) ggX10_told_X10_isWindow
