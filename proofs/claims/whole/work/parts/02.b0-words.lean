set_option maxRecDepth 20000 in
theorem ggX0_ofAll_J6_bitCount_0f7a4 : GoodIn wsX0_ofAll wsJ6_bitCount_0f7a4 := goodIn_r _ [5, 6, 7, 8] (by decide +kernel) (by decide +kernel)
set_option maxRecDepth 20000 in
theorem gX0_ofAll_J6_bitCount_0f7a4 : GoodIn wsX0_ofAll (va_wsS RX0 15 yJ6_bitCount_0f7a4 wsJ6_bitCount_0f7a4) := goodIn_app (goodIn_of _ (by decide +kernel)) ggX0_ofAll_J6_bitCount_0f7a4
set_option maxRecDepth 20000 in
theorem ggX0_ofAll_X0_power : GoodIn wsX0_ofAll wsX0_power := goodIn_r _ [12] (by decide +kernel) (by decide +kernel)
set_option maxRecDepth 20000 in
theorem gX0_ofAll_X0_power : GoodIn wsX0_ofAll (va_wsS RX0 21 yX0_power wsX0_power) := goodIn_app (goodIn_of _ (by decide +kernel)) ggX0_ofAll_X0_power
set_option maxRecDepth 20000 in
theorem ggX0_toHear_X0_isPart : GoodIn wsX0_toHear wsX0_isPart := goodIn_r _ [5] (by decide +kernel) (by decide +kernel)
set_option maxRecDepth 20000 in
theorem gX0_toHear_X0_isPart : GoodIn wsX0_toHear (va_wsS RX0 27 yX0_isPart wsX0_isPart) := goodIn_app (goodIn_of _ (by decide +kernel)) ggX0_toHear_X0_isPart
set_option maxRecDepth 20000 in
theorem ggX0_toHear_X8_lengthAt : GoodIn wsX0_toHear wsX8_lengthAt := goodIn_r _ [10, 11, 12, 13, 14, 15, 9, 16, 17, 18, 19, 20, 21, 22, 36, 37, 38, 39, 40, 41, 42, 43, 44, 45, 46, 47, 48] (by decide +kernel) (by decide +kernel)
set_option maxRecDepth 20000 in
theorem gX0_toHear_X8_lengthAt : GoodIn wsX0_toHear (wsV RX0 31 RX8 yX8_lengthAt wsX8_lengthAt) := goodIn_app (goodIn_of _ (by decide +kernel)) ggX0_toHear_X8_lengthAt
set_option maxRecDepth 20000 in
theorem ggX0_toHear_X0_toStay : GoodIn wsX0_toHear wsX0_toStay := goodIn_r _ [25, 26, 27, 28, 29, 30, 31, 32, 33, 34, 4, 35] (by decide +kernel) (by decide +kernel)
set_option maxRecDepth 20000 in
theorem gX0_toHear_X0_toStay : GoodIn wsX0_toHear (va_wsS RX0 35 yX0_toStay wsX0_toStay) := goodIn_app (goodIn_of _ (by decide +kernel)) ggX0_toHear_X0_toStay
set_option maxRecDepth 20000 in
theorem ggX0_toBeCalm_X0_isPart : GoodIn wsX0_toBeCalm wsX0_isPart := goodIn_r _ [5] (by decide +kernel) (by decide +kernel)
set_option maxRecDepth 20000 in
theorem gX0_toBeCalm_X0_isPart : GoodIn wsX0_toBeCalm (va_wsS RX0 27 yX0_isPart wsX0_isPart) := goodIn_app (goodIn_of _ (by decide +kernel)) ggX0_toBeCalm_X0_isPart
set_option maxRecDepth 20000 in
theorem ggX0_toBeCalm_X8_clashesBy : GoodIn wsX0_toBeCalm wsX8_clashesBy := goodIn_r _ [10, 11, 12, 13, 14, 15, 16, 9, 17, 18, 19, 20, 21, 22, 23, 24, 25, 26, 27, 28, 29, 30, 31, 32, 33, 34, 35, 36, 37, 38, 52, 53, 54, 55, 56, 57, 58, 59, 60, 61, 62, 63, 64] (by decide +kernel) (by decide +kernel)
set_option maxRecDepth 20000 in
theorem gX0_toBeCalm_X8_clashesBy : GoodIn wsX0_toBeCalm (wsV RX0 39 RX8 yX8_clashesBy wsX8_clashesBy) := goodIn_app (goodIn_of _ (by decide +kernel)) ggX0_toBeCalm_X8_clashesBy
set_option maxRecDepth 20000 in
theorem ggX0_toBeCalm_X0_toStay : GoodIn wsX0_toBeCalm wsX0_toStay := goodIn_r _ [41, 42, 43, 44, 45, 46, 47, 48, 49, 50, 4, 51] (by decide +kernel) (by decide +kernel)
set_option maxRecDepth 20000 in
theorem gX0_toBeCalm_X0_toStay : GoodIn wsX0_toBeCalm (va_wsS RX0 35 yX0_toStay wsX0_toStay) := goodIn_app (goodIn_of _ (by decide +kernel)) ggX0_toBeCalm_X0_toStay
set_option maxRecDepth 20000 in
theorem ggX0_toStay_J6_bitCount_0f7a4 : GoodIn wsX0_toStay wsJ6_bitCount_0f7a4 := goodIn_r _ [4, 5, 6, 7] (by decide +kernel) (by decide +kernel)
set_option maxRecDepth 20000 in
theorem gX0_toStay_J6_bitCount_0f7a4 : GoodIn wsX0_toStay (va_wsS RX0 15 yJ6_bitCount_0f7a4 wsJ6_bitCount_0f7a4) := goodIn_app (goodIn_of _ (by decide +kernel)) ggX0_toStay_J6_bitCount_0f7a4
set_option maxRecDepth 20000 in
theorem ggX0_toStay_X0_power : GoodIn wsX0_toStay wsX0_power := goodIn_r _ [11] (by decide +kernel) (by decide +kernel)
set_option maxRecDepth 20000 in
theorem gX0_toStay_X0_power : GoodIn wsX0_toStay (va_wsS RX0 21 yX0_power wsX0_power) := goodIn_app (goodIn_of _ (by decide +kernel)) ggX0_toStay_X0_power
set_option maxRecDepth 20000 in
theorem ggX1_init_X8_init : GoodIn wsX1_init wsX8_init := goodIn_r _ [11, 12, 2, 3, 13, 14, 15, 16, 17, 18, 19, 20, 21, 22, 23, 24, 6, 25, 26, 27, 28, 29, 30, 31, 32, 33, 34, 35, 36, 37, 38, 39, 40, 41, 42, 43, 44, 45, 46, 47] (by decide +kernel) (by decide +kernel)
set_option maxRecDepth 20000 in
theorem gX1_init_X8_init : GoodIn wsX1_init (wsX8_init) := ggX1_init_X8_init
set_option maxRecDepth 20000 in
theorem ggX1_play_X1_begin : GoodIn wsX1_play wsX1_begin := goodIn_r _ [8, 9, 3, 2, 10, 11, 12, 13, 14, 15, 16, 17, 18, 19, 20, 21, 22, 23, 24, 25, 26, 27, 28, 29, 30, 31, 32, 33, 106, 107, 108, 109, 110, 111, 112, 113, 114, 115, 116, 117, 118, 119, 120, 121, 122, 123, 124] (by decide +kernel) (by decide +kernel)
set_option maxRecDepth 20000 in
theorem gX1_play_X1_begin : GoodIn wsX1_play (wsV RX1 22 RX1 yX1_begin wsX1_begin) := goodIn_app (goodIn_of _ (by decide +kernel)) ggX1_play_X1_begin
set_option maxRecDepth 20000 in
theorem ggX1_play_X5_signAt : GoodIn wsX1_play wsX5_signAt := goodIn_r _ [38, 39, 40, 104, 105] (by decide +kernel) (by decide +kernel)
set_option maxRecDepth 20000 in
theorem gX1_play_X5_signAt : GoodIn wsX1_play (wsV RX1 31 RX5 yX5_signAt wsX5_signAt) := goodIn_app (goodIn_of _ (by decide +kernel)) ggX1_play_X5_signAt
set_option maxRecDepth 20000 in
theorem ggX1_play_X1_perform : GoodIn wsX1_play wsX1_perform := goodIn_r _ [44, 9, 45, 46, 47, 16, 48, 22, 49, 50, 51, 52, 53, 54, 55, 56, 23, 57, 58, 59, 60, 61, 62, 63, 64, 65, 66, 67, 68, 69, 70, 71, 18, 106, 107, 108, 109, 110, 111, 112, 113, 114, 115, 116, 117, 118, 119, 120, 121, 122, 123, 124] (by decide +kernel) (by decide +kernel)
set_option maxRecDepth 20000 in
theorem gX1_play_X1_perform : GoodIn wsX1_play (wsV RX1 35 RX1 yX1_perform wsX1_perform) := goodIn_app (goodIn_of _ (by decide +kernel)) ggX1_play_X1_perform
set_option maxRecDepth 20000 in
theorem ggX1_play_X1_listenAt : GoodIn wsX1_play wsX1_listenAt := goodIn_r _ [75, 9, 76, 11, 10, 77, 78, 79, 16, 80, 33, 18, 81, 82, 83, 84, 85, 86, 87, 88, 89, 19, 22, 90, 91, 92, 93, 94, 95, 96, 97, 20, 98, 99, 100, 101, 102, 103, 106, 107, 108, 109, 110, 111, 112, 113, 114, 115, 116, 117, 118, 119, 120, 121, 122, 123, 124] (by decide +kernel) (by decide +kernel)
set_option maxRecDepth 20000 in
theorem gX1_play_X1_listenAt : GoodIn wsX1_play (wsV RX1 41 RX1 yX1_listenAt wsX1_listenAt) := goodIn_app (goodIn_of _ (by decide +kernel)) ggX1_play_X1_listenAt
set_option maxRecDepth 20000 in
theorem ggX1_draw_X1_begin : GoodIn wsX1_draw wsX1_begin := goodIn_r _ [9, 3, 10, 11, 12, 13, 2, 14, 15, 16, 17, 18, 19, 20, 21, 22, 23, 24, 25, 26, 27, 28, 29, 30, 31, 32, 33, 34, 102, 103, 104, 105, 106, 107, 108, 109, 110, 111, 112, 113, 114, 115, 116, 117, 118, 119, 120] (by decide +kernel) (by decide +kernel)
set_option maxRecDepth 20000 in
theorem gX1_draw_X1_begin : GoodIn wsX1_draw (wsV RX1 22 RX1 yX1_begin wsX1_begin) := goodIn_app (goodIn_of _ (by decide +kernel)) ggX1_draw_X1_begin
set_option maxRecDepth 20000 in
theorem ggX1_draw_X1_performDrawn : GoodIn wsX1_draw wsX1_performDrawn := goodIn_r _ [38, 3, 39, 40, 41, 42, 17, 43, 23, 44, 45, 46, 47, 48, 49, 50, 51, 24, 52, 53, 54, 55, 56, 57, 58, 59, 60, 61, 62, 63, 64, 65, 66, 19, 102, 103, 104, 105, 106, 107, 108, 109, 110, 111, 112, 113, 114, 115, 116, 117, 118, 119, 120] (by decide +kernel) (by decide +kernel)
set_option maxRecDepth 20000 in
theorem gX1_draw_X1_performDrawn : GoodIn wsX1_draw (wsV RX1 49 RX1 yX1_performDrawn wsX1_performDrawn) := goodIn_app (goodIn_of _ (by decide +kernel)) ggX1_draw_X1_performDrawn
set_option maxRecDepth 20000 in
theorem ggX1_draw_X1_listenAt : GoodIn wsX1_draw wsX1_listenAt := goodIn_r _ [70, 3, 4, 13, 12, 71, 72, 73, 17, 74, 34, 19, 75, 76, 77, 78, 79, 80, 81, 82, 83, 20, 23, 84, 85, 86, 87, 88, 89, 90, 91, 21, 92, 93, 94, 95, 96, 97, 102, 103, 104, 105, 106, 107, 108, 109, 110, 111, 112, 113, 114, 115, 116, 117, 118, 119, 120] (by decide +kernel) (by decide +kernel)
set_option maxRecDepth 20000 in
theorem gX1_draw_X1_listenAt : GoodIn wsX1_draw (wsV RX1 41 RX1 yX1_listenAt wsX1_listenAt) := goodIn_app (goodIn_of _ (by decide +kernel)) ggX1_draw_X1_listenAt
set_option maxRecDepth 20000 in
theorem ggX1_draw_X8_lengthAt : GoodIn wsX1_draw wsX8_lengthAt := goodIn_r _ [101, 34, 19, 76, 77, 78, 17, 79, 80, 81, 82, 83, 20, 23, 108, 109, 110, 111, 112, 113, 114, 115, 116, 117, 118, 119, 120] (by decide +kernel) (by decide +kernel)
set_option maxRecDepth 20000 in
theorem gX1_draw_X8_lengthAt : GoodIn wsX1_draw (wsV RX1 58 RX8 yX8_lengthAt wsX8_lengthAt) := goodIn_app (goodIn_of _ (by decide +kernel)) ggX1_draw_X8_lengthAt
set_option maxRecDepth 20000 in
theorem ggX1_begin_X8_copyFrom : GoodIn wsX1_begin wsX8_copyFrom := goodIn_r _ [11, 12, 13, 14, 15, 16, 17, 18, 19, 20, 21, 22, 23, 24, 25, 10, 26, 27, 34, 35, 36, 37, 38, 39, 40, 41, 42, 43, 44, 45, 46] (by decide +kernel) (by decide +kernel)
set_option maxRecDepth 20000 in
theorem gX1_begin_X8_copyFrom : GoodIn wsX1_begin (wsV RX1 62 RX8 yX8_copyFrom wsX8_copyFrom) := goodIn_app (goodIn_of _ (by decide +kernel)) ggX1_begin_X8_copyFrom
set_option maxRecDepth 20000 in
theorem ggX1_perform_X8_moreDamp : GoodIn wsX1_perform wsX8_moreDamp := goodIn_r _ [6, 7, 39, 40, 41, 42, 43, 44, 45, 46, 47, 48, 49, 50, 51] (by decide +kernel) (by decide +kernel)
set_option maxRecDepth 20000 in
theorem gX1_perform_X8_moreDamp : GoodIn wsX1_perform (wsV RX1 68 RX8 yX8_moreDamp wsX8_moreDamp) := goodIn_app (goodIn_of _ (by decide +kernel)) ggX1_perform_X8_moreDamp
set_option maxRecDepth 20000 in
theorem ggX1_perform_X8_lessDamp : GoodIn wsX1_perform wsX8_lessDamp := goodIn_r _ [11, 7, 39, 40, 41, 42, 43, 44, 45, 46, 47, 48, 49, 50, 51] (by decide +kernel) (by decide +kernel)
set_option maxRecDepth 20000 in
theorem gX1_perform_X8_lessDamp : GoodIn wsX1_perform (wsV RX1 72 RX8 yX8_lessDamp wsX8_lessDamp) := goodIn_app (goodIn_of _ (by decide +kernel)) ggX1_perform_X8_lessDamp
set_option maxRecDepth 20000 in
theorem ggX1_perform_X8_touch : GoodIn wsX1_perform wsX8_touch := goodIn_r _ [15, 16, 17, 18, 19, 5, 20, 21, 22, 23, 24, 25, 26, 27, 28, 29, 30, 31, 32, 39, 40, 41, 42, 43, 44, 45, 46, 47, 48, 49, 50, 51] (by decide +kernel) (by decide +kernel)
set_option maxRecDepth 20000 in
theorem gX1_perform_X8_touch : GoodIn wsX1_perform (wsV RX1 75 RX8 yX8_touch wsX8_touch) := goodIn_app (goodIn_of _ (by decide +kernel)) ggX1_perform_X8_touch
set_option maxRecDepth 20000 in
theorem ggX1_performDrawn_X8_moreDamp : GoodIn wsX1_performDrawn wsX8_moreDamp := goodIn_r _ [7, 8, 40, 41, 42, 43, 44, 45, 46, 47, 48, 49, 50, 51, 52] (by decide +kernel) (by decide +kernel)
set_option maxRecDepth 20000 in
theorem gX1_performDrawn_X8_moreDamp : GoodIn wsX1_performDrawn (wsV RX1 68 RX8 yX8_moreDamp wsX8_moreDamp) := goodIn_app (goodIn_of _ (by decide +kernel)) ggX1_performDrawn_X8_moreDamp
set_option maxRecDepth 20000 in
theorem ggX1_performDrawn_X8_lessDamp : GoodIn wsX1_performDrawn wsX8_lessDamp := goodIn_r _ [12, 8, 40, 41, 42, 43, 44, 45, 46, 47, 48, 49, 50, 51, 52] (by decide +kernel) (by decide +kernel)
set_option maxRecDepth 20000 in
theorem gX1_performDrawn_X8_lessDamp : GoodIn wsX1_performDrawn (wsV RX1 72 RX8 yX8_lessDamp wsX8_lessDamp) := goodIn_app (goodIn_of _ (by decide +kernel)) ggX1_performDrawn_X8_lessDamp
set_option maxRecDepth 20000 in
theorem ggX1_performDrawn_X8_touch : GoodIn wsX1_performDrawn wsX8_touch := goodIn_r _ [16, 17, 18, 19, 20, 6, 21, 22, 23, 24, 25, 26, 27, 28, 29, 30, 31, 32, 33, 40, 41, 42, 43, 44, 45, 46, 47, 48, 49, 50, 51, 52] (by decide +kernel) (by decide +kernel)
set_option maxRecDepth 20000 in
theorem gX1_performDrawn_X8_touch : GoodIn wsX1_performDrawn (wsV RX1 75 RX8 yX8_touch wsX8_touch) := goodIn_app (goodIn_of _ (by decide +kernel)) ggX1_performDrawn_X8_touch
set_option maxRecDepth 20000 in
theorem ggX1_listenAt_X8_clashesBy : GoodIn wsX1_listenAt wsX8_clashesBy := goodIn_r _ [9, 10, 11, 12, 13, 14, 15, 8, 16, 17, 18, 19, 20, 21, 22, 23, 24, 25, 26, 27, 28, 29, 30, 31, 32, 33, 34, 35, 36, 37, 44, 45, 46, 47, 48, 49, 50, 51, 52, 53, 54, 55, 56] (by decide +kernel) (by decide +kernel)
set_option maxRecDepth 20000 in
theorem gX1_listenAt_X8_clashesBy : GoodIn wsX1_listenAt (wsV RX1 79 RX8 yX8_clashesBy wsX8_clashesBy) := goodIn_app (goodIn_of _ (by decide +kernel)) ggX1_listenAt_X8_clashesBy
set_option maxRecDepth 20000 in
theorem ggX2_winningWindow_X2_fateOf : GoodIn wsX2_winningWindow wsX2_fateOf := goodIn_r _ [12, 13, 14, 15, 16, 17, 18, 19, 20, 21, 22, 23, 24, 25, 26, 27, 28, 29, 30, 31, 32, 33, 34, 35, 36, 37, 38, 39, 40, 41, 42, 43, 44, 45, 46, 47, 48, 49, 50, 51, 5, 52, 53, 54, 4, 6, 55, 56, 57, 58, 59, 60, 11, 61, 2, 7, 62, 63, 64, 65, 66, 67, 68, 69, 70, 71, 72, 73, 74, 75] (by decide +kernel) (by decide +kernel)
set_option maxRecDepth 20000 in
theorem gX2_winningWindow_X2_fateOf : GoodIn wsX2_winningWindow (wsV RX2 30 RX2 yX2_fateOf wsX2_fateOf) := goodIn_app (goodIn_of _ (by decide +kernel)) ggX2_winningWindow_X2_fateOf
set_option maxRecDepth 20000 in
theorem ggX2_winningWindow_X2_bestMove : GoodIn wsX2_winningWindow wsX2_bestMove := goodIn_r _ [61, 2, 7, 62, 63, 64, 65, 66, 67, 68, 69, 70, 71, 72, 73, 74, 75] (by decide +kernel) (by decide +kernel)
set_option maxRecDepth 20000 in
theorem gX2_winningWindow_X2_bestMove : GoodIn wsX2_winningWindow (wsV RX2 34 RX2 yX2_bestMove wsX2_bestMove) := goodIn_app (goodIn_of _ (by decide +kernel)) ggX2_winningWindow_X2_bestMove
set_option maxRecDepth 20000 in
theorem ggX2_fateOf_X8_allows : GoodIn wsX2_fateOf wsX8_allows := goodIn_r _ [5, 6, 7, 8, 9, 10, 11, 12, 13, 14, 15, 4, 16, 17, 56, 57, 58, 59, 60, 61, 62, 63, 64, 65, 66, 67, 68] (by decide +kernel) (by decide +kernel)
set_option maxRecDepth 20000 in
theorem gX2_fateOf_X8_allows : GoodIn wsX2_fateOf (wsV RX2 37 RX8 yX8_allows wsX8_allows) := goodIn_app (goodIn_of _ (by decide +kernel)) ggX2_fateOf_X8_allows
set_option maxRecDepth 20000 in
theorem ggX2_fateOf_X8_clashesBy : GoodIn wsX2_fateOf wsX8_clashesBy := goodIn_r _ [21, 22, 17, 23, 24, 25, 26, 4, 27, 28, 29, 30, 31, 32, 33, 34, 35, 36, 37, 38, 39, 40, 41, 42, 43, 44, 45, 46, 47, 48, 56, 57, 58, 59, 60, 61, 62, 63, 64, 65, 66, 67, 68] (by decide +kernel) (by decide +kernel)
set_option maxRecDepth 20000 in
theorem gX2_fateOf_X8_clashesBy : GoodIn wsX2_fateOf (wsV RX2 41 RX8 yX8_clashesBy wsX8_clashesBy) := goodIn_app (goodIn_of _ (by decide +kernel)) ggX2_fateOf_X8_clashesBy
set_option maxRecDepth 20000 in
theorem ggX2_fateOf_X2_bestMove : GoodIn wsX2_fateOf wsX2_bestMove := goodIn_r _ [53, 54, 55, 56, 57, 58, 59, 60, 61, 62, 63, 64, 65, 66, 67, 68, 69] (by decide +kernel) (by decide +kernel)
set_option maxRecDepth 20000 in
theorem gX2_fateOf_X2_bestMove : GoodIn wsX2_fateOf (wsV RX2 34 RX2 yX2_bestMove wsX2_bestMove) := goodIn_app (goodIn_of _ (by decide +kernel)) ggX2_fateOf_X2_bestMove
set_option maxRecDepth 20000 in
theorem ggX3_gather_X8_allows : GoodIn wsX3_gather wsX8_allows := goodIn_r _ [12, 13, 14, 15, 16, 17, 18, 19, 20, 21, 22, 11, 23, 24, 52, 53, 54, 55, 56, 57, 58, 59, 60, 61, 62, 63, 64] (by decide +kernel) (by decide +kernel)
set_option maxRecDepth 20000 in
theorem gX3_gather_X8_allows : GoodIn wsX3_gather (wsV RX3 39 RX8 yX8_allows wsX8_allows) := goodIn_app (goodIn_of _ (by decide +kernel)) ggX3_gather_X8_allows
set_option maxRecDepth 20000 in
theorem ggX3_gather_X8_agreesWithSights : GoodIn wsX3_gather wsX8_agreesWithSights := goodIn_r _ [28, 29, 30, 31, 32, 33, 34, 11, 35, 36, 24, 37, 38, 39, 40, 41, 42, 43, 44, 45, 46, 52, 53, 54, 55, 56, 57, 58, 59, 60, 61, 62, 63, 64] (by decide +kernel) (by decide +kernel)
set_option maxRecDepth 20000 in
theorem gX3_gather_X8_agreesWithSights : GoodIn wsX3_gather (wsV RX3 43 RX8 yX8_agreesWithSights wsX8_agreesWithSights) := goodIn_app (goodIn_of _ (by decide +kernel)) ggX3_gather_X8_agreesWithSights
set_option maxRecDepth 20000 in
theorem ggX3_chooseWindow_X8_isSeen : GoodIn wsX3_chooseWindow wsX8_isSeen := goodIn_r _ [9, 10, 11, 44, 45, 46, 47, 48, 49, 50, 51, 52, 53, 54, 55, 56] (by decide +kernel) (by decide +kernel)
set_option maxRecDepth 20000 in
theorem gX3_chooseWindow_X8_isSeen : GoodIn wsX3_chooseWindow (wsV RX3 46 RX8 yX8_isSeen wsX8_isSeen) := goodIn_app (goodIn_of _ (by decide +kernel)) ggX3_chooseWindow_X8_isSeen
set_option maxRecDepth 20000 in
theorem ggX3_chooseWindow_X3_leftAtMost : GoodIn wsX3_chooseWindow wsX3_leftAtMost := goodIn_r _ [16, 17, 3, 18, 19, 20, 21, 22, 23, 24, 25, 8, 26, 27, 28, 29, 30, 31, 32, 33, 34, 35, 36, 37, 38, 39, 40, 41, 42, 43, 44, 45, 46, 47, 48, 49, 50, 51, 52, 53, 54, 55, 56] (by decide +kernel) (by decide +kernel)
set_option maxRecDepth 20000 in
theorem gX3_chooseWindow_X3_leftAtMost : GoodIn wsX3_chooseWindow (wsV RX3 49 RX3 yX3_leftAtMost wsX3_leftAtMost) := goodIn_app (goodIn_of _ (by decide +kernel)) ggX3_chooseWindow_X3_leftAtMost
set_option maxRecDepth 20000 in
theorem ggX3_leftAtMost_X8_lengthAt : GoodIn wsX3_leftAtMost wsX8_lengthAt := goodIn_r _ [12, 13, 14, 15, 16, 17, 11, 18, 19, 20, 21, 22, 23, 24, 30, 31, 32, 33, 34, 35, 36, 37, 38, 39, 40, 41, 42] (by decide +kernel) (by decide +kernel)
set_option maxRecDepth 20000 in
theorem gX3_leftAtMost_X8_lengthAt : GoodIn wsX3_leftAtMost (wsV RX3 53 RX8 yX8_lengthAt wsX8_lengthAt) := goodIn_app (goodIn_of _ (by decide +kernel)) ggX3_leftAtMost_X8_lengthAt
set_option maxRecDepth 20000 in
theorem ggX4_fewestPayments_X4_countGroups : GoodIn wsX4_fewestPayments wsX4_countGroups := goodIn_r _ [11, 12, 6, 13, 14, 15, 4, 16, 30, 31, 17, 18, 19, 20, 21, 22, 23, 24, 25, 26, 27, 28, 29] (by decide +kernel) (by decide +kernel)
set_option maxRecDepth 20000 in
theorem gX4_fewestPayments_X4_countGroups : GoodIn wsX4_fewestPayments (wsV RX4 30 RX4 yX4_countGroups wsX4_countGroups) := goodIn_app (goodIn_of _ (by decide +kernel)) ggX4_fewestPayments_X4_countGroups
set_option maxRecDepth 20000 in
theorem ggX5_eveningFault_X5_signAt : GoodIn wsX5_eveningFault wsX5_signAt := goodIn_r _ [6, 1, 7, 11, 12] (by decide +kernel) (by decide +kernel)
set_option maxRecDepth 20000 in
theorem gX5_eveningFault_X5_signAt : GoodIn wsX5_eveningFault (wsV RX5 19 RX5 yX5_signAt wsX5_signAt) := goodIn_app (goodIn_of _ (by decide +kernel)) ggX5_eveningFault_X5_signAt
set_option maxRecDepth 20000 in
theorem ggX5_eveningFault_X5_isAct : GoodIn wsX5_eveningFault wsX5_isAct := goodIn_r _ [10] (by decide +kernel) (by decide +kernel)
set_option maxRecDepth 20000 in
theorem gX5_eveningFault_X5_isAct : GoodIn wsX5_eveningFault (va_wsS RX5 23 yX5_isAct wsX5_isAct) := goodIn_app (goodIn_of _ (by decide +kernel)) ggX5_eveningFault_X5_isAct
set_option maxRecDepth 20000 in
theorem ggX5_tuneFault_X5_isTuneSign : GoodIn wsX5_tuneFault wsX5_isTuneSign := goodIn_r _ [6, 7, 8, 9, 5, 10, 1, 11, 12, 13, 14, 15, 16, 17] (by decide +kernel) (by decide +kernel)
set_option maxRecDepth 20000 in
theorem gX5_tuneFault_X5_isTuneSign : GoodIn wsX5_tuneFault (wsV RX5 27 RX5 yX5_isTuneSign wsX5_isTuneSign) := goodIn_app (goodIn_of _ (by decide +kernel)) ggX5_tuneFault_X5_isTuneSign
set_option maxRecDepth 20000 in
theorem ggX5_isTuneSign_X5_signAt : GoodIn wsX5_isTuneSign wsX5_signAt := goodIn_r _ [5, 6, 7, 12, 13] (by decide +kernel) (by decide +kernel)
set_option maxRecDepth 20000 in
theorem gX5_isTuneSign_X5_signAt : GoodIn wsX5_isTuneSign (wsV RX5 19 RX5 yX5_signAt wsX5_signAt) := goodIn_app (goodIn_of _ (by decide +kernel)) ggX5_isTuneSign_X5_signAt
set_option maxRecDepth 20000 in
theorem ggX5_isTuneSign_X5_toneAt : GoodIn wsX5_isTuneSign wsX5_toneAt := goodIn_r _ [11, 1, 2, 3, 4, 5, 6, 7, 12, 13] (by decide +kernel) (by decide +kernel)
set_option maxRecDepth 20000 in
theorem gX5_isTuneSign_X5_toneAt : GoodIn wsX5_isTuneSign (wsV RX5 31 RX5 yX5_toneAt wsX5_toneAt) := goodIn_app (goodIn_of _ (by decide +kernel)) ggX5_isTuneSign_X5_toneAt
set_option maxRecDepth 20000 in
theorem ggX5_toneAt_X5_signAt : GoodIn wsX5_toneAt wsX5_signAt := goodIn_r _ [5, 6, 7, 8, 9] (by decide +kernel) (by decide +kernel)
set_option maxRecDepth 20000 in
theorem gX5_toneAt_X5_signAt : GoodIn wsX5_toneAt (wsV RX5 19 RX5 yX5_signAt wsX5_signAt) := goodIn_app (goodIn_of _ (by decide +kernel)) ggX5_toneAt_X5_signAt
set_option maxRecDepth 20000 in
theorem ggX6_fewestHooks_J6_bitCount_0f7a4 : GoodIn wsX6_fewestHooks wsJ6_bitCount_0f7a4 := goodIn_r _ [4, 5, 6, 7] (by decide +kernel) (by decide +kernel)
set_option maxRecDepth 20000 in
theorem gX6_fewestHooks_J6_bitCount_0f7a4 : GoodIn wsX6_fewestHooks (va_wsS RX6 9 yJ6_bitCount_0f7a4 wsJ6_bitCount_0f7a4) := goodIn_app (goodIn_of _ (by decide +kernel)) ggX6_fewestHooks_J6_bitCount_0f7a4
set_option maxRecDepth 20000 in
theorem ggX6_fewestHooks_X6_leastPlaces : GoodIn wsX6_fewestHooks wsX6_leastPlaces := goodIn_r _ [11, 12, 13, 14, 10, 15, 16, 17, 18] (by decide +kernel) (by decide +kernel)
set_option maxRecDepth 20000 in
theorem gX6_fewestHooks_X6_leastPlaces : GoodIn wsX6_fewestHooks (va_wsS RX6 15 yX6_leastPlaces wsX6_leastPlaces) := goodIn_app (goodIn_of _ (by decide +kernel)) ggX6_fewestHooks_X6_leastPlaces
set_option maxRecDepth 20000 in
theorem ggX6_leastPlaces_X6_hasAll : GoodIn wsX6_leastPlaces wsX6_hasAll := goodIn_r _ [5] (by decide +kernel) (by decide +kernel)
set_option maxRecDepth 20000 in
theorem gX6_leastPlaces_X6_hasAll : GoodIn wsX6_leastPlaces (va_wsS RX6 22 yX6_hasAll wsX6_hasAll) := goodIn_app (goodIn_of _ (by decide +kernel)) ggX6_leastPlaces_X6_hasAll
set_option maxRecDepth 20000 in
theorem ggX6_leastPlaces_X6_nextOfSameSize : GoodIn wsX6_leastPlaces wsX6_nextOfSameSize := goodIn_r _ [8] (by decide +kernel) (by decide +kernel)
set_option maxRecDepth 20000 in
theorem gX6_leastPlaces_X6_nextOfSameSize : GoodIn wsX6_leastPlaces (va_wsS RX6 26 yX6_nextOfSameSize wsX6_nextOfSameSize) := goodIn_app (goodIn_of _ (by decide +kernel)) ggX6_leastPlaces_X6_nextOfSameSize
set_option maxRecDepth 20000 in
theorem ggX7_fewestFingers_X8_mostFingers : GoodIn wsX7_fewestFingers wsX8_mostFingers := goodIn_r _ [6, 7, 30, 31, 32, 33, 34, 35, 36, 37, 38, 39, 40, 41, 42] (by decide +kernel) (by decide +kernel)
set_option maxRecDepth 20000 in
theorem gX7_fewestFingers_X8_mostFingers : GoodIn wsX7_fewestFingers (wsV RX7 25 RX8 yX8_mostFingers wsX8_mostFingers) := goodIn_app (goodIn_of _ (by decide +kernel)) ggX7_fewestFingers_X8_mostFingers
set_option maxRecDepth 20000 in
theorem ggX7_fewestFingers_J6_bitCount_0f7a4 : GoodIn wsX7_fewestFingers wsJ6_bitCount_0f7a4 := goodIn_r _ [11, 12, 13, 14] (by decide +kernel) (by decide +kernel)
set_option maxRecDepth 20000 in
theorem gX7_fewestFingers_J6_bitCount_0f7a4 : GoodIn wsX7_fewestFingers (va_wsS RX7 34 yJ6_bitCount_0f7a4 wsJ6_bitCount_0f7a4) := goodIn_app (goodIn_of _ (by decide +kernel)) ggX7_fewestFingers_J6_bitCount_0f7a4
set_option maxRecDepth 20000 in
theorem ggX7_fewestFingers_X8_lengthAt : GoodIn wsX7_fewestFingers wsX8_lengthAt := goodIn_r _ [18, 19, 7, 20, 21, 22, 5, 23, 24, 25, 26, 27, 28, 29, 30, 31, 32, 33, 34, 35, 36, 37, 38, 39, 40, 41, 42] (by decide +kernel) (by decide +kernel)
set_option maxRecDepth 20000 in
theorem gX7_fewestFingers_X8_lengthAt : GoodIn wsX7_fewestFingers (wsV RX7 40 RX8 yX8_lengthAt wsX8_lengthAt) := goodIn_app (goodIn_of _ (by decide +kernel)) ggX7_fewestFingers_X8_lengthAt
set_option maxRecDepth 20000 in
theorem ggX7_playTune_X8_allows : GoodIn wsX7_playTune wsX8_allows := goodIn_r _ [14, 15, 16, 17, 18, 19, 20, 21, 22, 23, 24, 13, 25, 26, 76, 77, 78, 79, 80, 81, 82, 83, 84, 85, 86, 87, 88] (by decide +kernel) (by decide +kernel)
set_option maxRecDepth 20000 in
theorem gX7_playTune_X8_allows : GoodIn wsX7_playTune (wsV RX7 49 RX8 yX8_allows wsX8_allows) := goodIn_app (goodIn_of _ (by decide +kernel)) ggX7_playTune_X8_allows
set_option maxRecDepth 20000 in
theorem ggX7_playTune_X8_lengthAt : GoodIn wsX7_playTune wsX8_lengthAt := goodIn_r _ [30, 31, 26, 32, 33, 34, 13, 35, 36, 37, 38, 39, 40, 41, 76, 77, 78, 79, 80, 81, 82, 83, 84, 85, 86, 87, 88] (by decide +kernel) (by decide +kernel)
set_option maxRecDepth 20000 in
theorem gX7_playTune_X8_lengthAt : GoodIn wsX7_playTune (wsV RX7 40 RX8 yX8_lengthAt wsX8_lengthAt) := goodIn_app (goodIn_of _ (by decide +kernel)) ggX7_playTune_X8_lengthAt
set_option maxRecDepth 20000 in
theorem ggX7_playTune_X5_toneCount : GoodIn wsX7_playTune wsX5_toneCount := goodIn_r _ [46, 47, 96, 97] (by decide +kernel) (by decide +kernel)
set_option maxRecDepth 20000 in
theorem gX7_playTune_X5_toneCount : GoodIn wsX7_playTune (wsV RX7 57 RX5 yX5_toneCount wsX5_toneCount) := goodIn_app (goodIn_of _ (by decide +kernel)) ggX7_playTune_X5_toneCount
set_option maxRecDepth 20000 in
theorem ggX7_playTune_X7_spreadCosts : GoodIn wsX7_playTune wsX7_spreadCosts := goodIn_r _ [52, 53, 54, 55, 51, 56, 7, 89, 90, 91, 92, 93, 94, 95] (by decide +kernel) (by decide +kernel)
set_option maxRecDepth 20000 in
theorem gX7_playTune_X7_spreadCosts : GoodIn wsX7_playTune (wsV RX7 62 RX7 yX7_spreadCosts wsX7_spreadCosts) := goodIn_app (goodIn_of _ (by decide +kernel)) ggX7_playTune_X7_spreadCosts
set_option maxRecDepth 20000 in
theorem ggX7_playTune_X5_toneAt : GoodIn wsX7_playTune wsX5_toneAt := goodIn_r _ [60, 61, 62, 63, 45, 64, 47, 65, 96, 97] (by decide +kernel) (by decide +kernel)
set_option maxRecDepth 20000 in
theorem gX7_playTune_X5_toneAt : GoodIn wsX7_playTune (wsV RX7 66 RX5 yX5_toneAt wsX5_toneAt) := goodIn_app (goodIn_of _ (by decide +kernel)) ggX7_playTune_X5_toneAt
set_option maxRecDepth 20000 in
theorem ggX7_playTune_X7_keepTone : GoodIn wsX7_playTune wsX7_keepTone := goodIn_r _ [69, 6, 7, 9, 89, 90, 91, 92, 93, 94, 95] (by decide +kernel) (by decide +kernel)
set_option maxRecDepth 20000 in
theorem gX7_playTune_X7_keepTone : GoodIn wsX7_playTune (wsV RX7 69 RX7 yX7_keepTone wsX7_keepTone) := goodIn_app (goodIn_of _ (by decide +kernel)) ggX7_playTune_X7_keepTone
set_option maxRecDepth 20000 in
theorem ggX7_playTune_X7_chooseLast : GoodIn wsX7_playTune wsX7_chooseLast := goodIn_r _ [73, 74, 9, 75, 7, 89, 90, 91, 92, 93, 94, 95] (by decide +kernel) (by decide +kernel)
set_option maxRecDepth 20000 in
theorem gX7_playTune_X7_chooseLast : GoodIn wsX7_playTune (wsV RX7 72 RX7 yX7_chooseLast wsX7_chooseLast) := goodIn_app (goodIn_of _ (by decide +kernel)) ggX7_playTune_X7_chooseLast
set_option maxRecDepth 20000 in
theorem ggX7_spreadCosts_X7_evenOut : GoodIn wsX7_spreadCosts wsX7_evenOut := goodIn_r _ [5, 6, 7, 8, 9, 10, 11, 12, 13] (by decide +kernel) (by decide +kernel)
set_option maxRecDepth 20000 in
theorem gX7_spreadCosts_X7_evenOut : GoodIn wsX7_spreadCosts (wsV RX7 76 RX7 yX7_evenOut wsX7_evenOut) := goodIn_app (goodIn_of _ (by decide +kernel)) ggX7_spreadCosts_X7_evenOut
set_option maxRecDepth 20000 in
theorem ggX7_fittingShifts_X7_notePartners : GoodIn wsX7_fittingShifts wsX7_notePartners := goodIn_r _ [5, 6, 7, 8, 9, 10, 11, 12, 13, 14, 15, 16, 17, 18, 19, 20, 21, 22, 23, 24, 25, 26, 27, 28, 29, 30, 31, 32, 33, 34, 35, 36, 37, 38, 39, 40, 41, 42, 43, 44, 4, 45, 65, 66, 67, 68, 69, 70, 71, 72, 73, 74, 75, 76, 77, 78, 79, 80, 81, 82, 83, 84] (by decide +kernel) (by decide +kernel)
set_option maxRecDepth 20000 in
theorem gX7_fittingShifts_X7_notePartners : GoodIn wsX7_fittingShifts (wsV RX7 82 RX7 yX7_notePartners wsX7_notePartners) := goodIn_app (goodIn_of _ (by decide +kernel)) ggX7_fittingShifts_X7_notePartners
set_option maxRecDepth 20000 in
theorem ggX7_fittingShifts_X5_toneCount : GoodIn wsX7_fittingShifts wsX5_toneCount := goodIn_r _ [50, 51, 85, 86] (by decide +kernel) (by decide +kernel)
set_option maxRecDepth 20000 in
theorem gX7_fittingShifts_X5_toneCount : GoodIn wsX7_fittingShifts (wsV RX7 57 RX5 yX5_toneCount wsX5_toneCount) := goodIn_app (goodIn_of _ (by decide +kernel)) ggX7_fittingShifts_X5_toneCount
set_option maxRecDepth 20000 in
theorem ggX7_fittingShifts_X7_shiftFits : GoodIn wsX7_fittingShifts wsX7_shiftFits := goodIn_r _ [55, 7, 6, 8, 46, 47, 48, 49, 50, 51, 56, 57, 58, 59, 60, 61, 62, 63, 64, 65, 66, 67, 68, 69, 70, 71, 85, 86] (by decide +kernel) (by decide +kernel)
set_option maxRecDepth 20000 in
theorem gX7_fittingShifts_X7_shiftFits : GoodIn wsX7_fittingShifts (wsV RX7 86 RX7 yX7_shiftFits wsX7_shiftFits) := goodIn_app (goodIn_of _ (by decide +kernel)) ggX7_fittingShifts_X7_shiftFits
set_option maxRecDepth 20000 in
theorem ggX7_notePartners_X8_allows : GoodIn wsX7_notePartners wsX8_allows := goodIn_r _ [9, 10, 11, 12, 13, 14, 15, 16, 17, 18, 19, 8, 20, 21, 49, 50, 51, 52, 53, 54, 55, 56, 57, 58, 59, 60, 61] (by decide +kernel) (by decide +kernel)
set_option maxRecDepth 20000 in
theorem gX7_notePartners_X8_allows : GoodIn wsX7_notePartners (wsV RX7 49 RX8 yX8_allows wsX8_allows) := goodIn_app (goodIn_of _ (by decide +kernel)) ggX7_notePartners_X8_allows
set_option maxRecDepth 20000 in
theorem ggX7_notePartners_X8_lengthAt : GoodIn wsX7_notePartners wsX8_lengthAt := goodIn_r _ [25, 26, 21, 27, 28, 29, 8, 30, 31, 32, 33, 34, 35, 36, 49, 50, 51, 52, 53, 54, 55, 56, 57, 58, 59, 60, 61] (by decide +kernel) (by decide +kernel)
set_option maxRecDepth 20000 in
theorem gX7_notePartners_X8_lengthAt : GoodIn wsX7_notePartners (wsV RX7 40 RX8 yX8_lengthAt wsX8_lengthAt) := goodIn_app (goodIn_of _ (by decide +kernel)) ggX7_notePartners_X8_lengthAt
set_option maxRecDepth 20000 in
theorem ggX7_notePartners_X7_notePair : GoodIn wsX7_notePartners wsX7_notePair := goodIn_r _ [41, 2, 1, 3, 42, 43, 44, 45, 46, 47, 48] (by decide +kernel) (by decide +kernel)
set_option maxRecDepth 20000 in
theorem gX7_notePartners_X7_notePair : GoodIn wsX7_notePartners (wsV RX7 96 RX7 yX7_notePair wsX7_notePair) := goodIn_app (goodIn_of _ (by decide +kernel)) ggX7_notePartners_X7_notePair
set_option maxRecDepth 20000 in
theorem ggX7_shiftFits_X5_toneCount : GoodIn wsX7_shiftFits wsX5_toneCount := goodIn_r _ [8, 9, 26, 27] (by decide +kernel) (by decide +kernel)
set_option maxRecDepth 20000 in
theorem gX7_shiftFits_X5_toneCount : GoodIn wsX7_shiftFits (wsV RX7 57 RX5 yX5_toneCount wsX5_toneCount) := goodIn_app (goodIn_of _ (by decide +kernel)) ggX7_shiftFits_X5_toneCount
set_option maxRecDepth 20000 in
theorem ggX7_shiftFits_X5_toneAt : GoodIn wsX7_shiftFits wsX5_toneAt := goodIn_r _ [13, 14, 15, 16, 7, 17, 9, 18, 26, 27] (by decide +kernel) (by decide +kernel)
set_option maxRecDepth 20000 in
theorem gX7_shiftFits_X5_toneAt : GoodIn wsX7_shiftFits (wsV RX7 66 RX5 yX5_toneAt wsX5_toneAt) := goodIn_app (goodIn_of _ (by decide +kernel)) ggX7_shiftFits_X5_toneAt
set_option maxRecDepth 20000 in
theorem ggX8_init_X8_beginAnew : GoodIn wsX8_init wsX8_beginAnew := goodIn_r _ [17, 18, 19, 20, 21, 22, 7, 11, 23, 24, 25, 16, 26, 8, 27, 28, 29, 30, 31, 32, 33, 34, 35, 36, 37, 38, 39] (by decide +kernel) (by decide +kernel)
set_option maxRecDepth 20000 in
theorem gX8_init_X8_beginAnew : GoodIn wsX8_init (wsV RX8 37 RX8 yX8_beginAnew wsX8_beginAnew) := goodIn_app (goodIn_of _ (by decide +kernel)) ggX8_init_X8_beginAnew
set_option maxRecDepth 20000 in
theorem ggX8_beginAnew_X8_measure : GoodIn wsX8_beginAnew wsX8_measure := goodIn_r _ [12, 6, 13, 14, 15, 16, 17, 18, 19, 20, 21, 22, 23, 24, 25, 26] (by decide +kernel) (by decide +kernel)
set_option maxRecDepth 20000 in
theorem gX8_beginAnew_X8_measure : GoodIn wsX8_beginAnew (wsV RX8 56 RX8 yX8_measure wsX8_measure) := goodIn_app (goodIn_of _ (by decide +kernel)) ggX8_beginAnew_X8_measure
set_option maxRecDepth 20000 in
theorem ggX8_copyFrom_X8_measure : GoodIn wsX8_copyFrom wsX8_measure := goodIn_r _ [16, 8, 17, 18, 19, 20, 21, 22, 23, 24, 25, 26, 27, 28, 29, 30] (by decide +kernel) (by decide +kernel)
set_option maxRecDepth 20000 in
theorem gX8_copyFrom_X8_measure : GoodIn wsX8_copyFrom (wsV RX8 56 RX8 yX8_measure wsX8_measure) := goodIn_app (goodIn_of _ (by decide +kernel)) ggX8_copyFrom_X8_measure
set_option maxRecDepth 20000 in
theorem ggX8_allows_J6_bitCount_0f7a4 : GoodIn wsX8_allows wsJ6_bitCount_0f7a4 := goodIn_r _ [4, 5, 6, 7] (by decide +kernel) (by decide +kernel)
set_option maxRecDepth 20000 in
theorem gX8_allows_J6_bitCount_0f7a4 : GoodIn wsX8_allows (va_wsS RX8 59 yJ6_bitCount_0f7a4 wsJ6_bitCount_0f7a4) := goodIn_app (goodIn_of _ (by decide +kernel)) ggX8_allows_J6_bitCount_0f7a4
set_option maxRecDepth 20000 in
theorem ggX8_allows_X8_mostFingers : GoodIn wsX8_allows wsX8_mostFingers := goodIn_r _ [12, 13, 14, 15, 16, 17, 18, 19, 20, 21, 22, 23, 24, 25, 26] (by decide +kernel) (by decide +kernel)
set_option maxRecDepth 20000 in
theorem gX8_allows_X8_mostFingers : GoodIn wsX8_allows (wsV RX8 65 RX8 yX8_mostFingers wsX8_mostFingers) := goodIn_app (goodIn_of _ (by decide +kernel)) ggX8_allows_X8_mostFingers
set_option maxRecDepth 20000 in
theorem ggX8_bottom_X8_has : GoodIn wsX8_bottom wsX8_has := goodIn_r _ [9, 1, 10, 11, 12, 13, 14, 15, 16, 17, 18, 19, 20, 21, 22] (by decide +kernel) (by decide +kernel)
set_option maxRecDepth 20000 in
theorem gX8_bottom_X8_has : GoodIn wsX8_bottom (wsV RX8 69 RX8 yX8_has wsX8_has) := goodIn_app (goodIn_of _ (by decide +kernel)) ggX8_bottom_X8_has
set_option maxRecDepth 20000 in
theorem ggX8_lengthAt_X8_has : GoodIn wsX8_lengthAt wsX8_has := goodIn_r _ [7, 2, 14, 15, 16, 17, 18, 19, 20, 21, 22, 23, 24, 25, 26] (by decide +kernel) (by decide +kernel)
set_option maxRecDepth 20000 in
theorem gX8_lengthAt_X8_has : GoodIn wsX8_lengthAt (wsV RX8 69 RX8 yX8_has wsX8_has) := goodIn_app (goodIn_of _ (by decide +kernel)) ggX8_lengthAt_X8_has
set_option maxRecDepth 20000 in
theorem ggX8_lengthAt_X8_bottom : GoodIn wsX8_lengthAt wsX8_bottom := goodIn_r _ [11, 2, 1, 12, 13, 3, 4, 5, 6, 7, 14, 15, 16, 17, 18, 19, 20, 21, 22, 23, 24, 25, 26] (by decide +kernel) (by decide +kernel)
set_option maxRecDepth 20000 in
theorem gX8_lengthAt_X8_bottom : GoodIn wsX8_lengthAt (wsV RX8 73 RX8 yX8_bottom wsX8_bottom) := goodIn_app (goodIn_of _ (by decide +kernel)) ggX8_lengthAt_X8_bottom
set_option maxRecDepth 20000 in
theorem ggX8_clashesBy_X8_has : GoodIn wsX8_clashesBy wsX8_has := goodIn_r _ [8, 2, 30, 31, 32, 33, 34, 35, 36, 37, 38, 39, 40, 41, 42] (by decide +kernel) (by decide +kernel)
set_option maxRecDepth 20000 in
theorem gX8_clashesBy_X8_has : GoodIn wsX8_clashesBy (wsV RX8 69 RX8 yX8_has wsX8_has) := goodIn_app (goodIn_of _ (by decide +kernel)) ggX8_clashesBy_X8_has
set_option maxRecDepth 20000 in
theorem ggX8_clashesBy_X8_bottom : GoodIn wsX8_clashesBy wsX8_bottom := goodIn_r _ [12, 2, 1, 13, 14, 4, 5, 6, 7, 8, 30, 31, 32, 33, 34, 35, 36, 37, 38, 39, 40, 41, 42] (by decide +kernel) (by decide +kernel)
set_option maxRecDepth 20000 in
theorem gX8_clashesBy_X8_bottom : GoodIn wsX8_clashesBy (wsV RX8 73 RX8 yX8_bottom wsX8_bottom) := goodIn_app (goodIn_of _ (by decide +kernel)) ggX8_clashesBy_X8_bottom
set_option maxRecDepth 20000 in
theorem ggX8_clashesBy_X8_isClash : GoodIn wsX8_clashesBy wsX8_isClash := goodIn_r _ [18, 19, 20, 21, 22, 23, 24, 25, 26, 27, 28, 29, 30, 31, 32, 33, 34, 35, 36, 37, 38, 39, 40, 41, 42] (by decide +kernel) (by decide +kernel)
set_option maxRecDepth 20000 in
theorem gX8_clashesBy_X8_isClash : GoodIn wsX8_clashesBy (wsV RX8 76 RX8 yX8_isClash wsX8_isClash) := goodIn_app (goodIn_of _ (by decide +kernel)) ggX8_clashesBy_X8_isClash
set_option maxRecDepth 20000 in
theorem ggX8_isClash_X9_commonDivisor : GoodIn wsX8_isClash wsX9_commonDivisor := goodIn_r _ [11] (by decide +kernel) (by decide +kernel)
set_option maxRecDepth 20000 in
theorem gX8_isClash_X9_commonDivisor_n89 : GoodIn wsX8_isClash (wsX9_commonDivisor) := ggX8_isClash_X9_commonDivisor
set_option maxRecDepth 20000 in
theorem ggX8_touch_X8_allows : GoodIn wsX8_touch wsX8_allows := goodIn_r _ [6, 7, 8, 9, 10, 11, 12, 13, 14, 15, 16, 5, 17, 18, 19, 20, 21, 22, 23, 24, 25, 26, 27, 28, 29, 30, 31] (by decide +kernel) (by decide +kernel)
set_option maxRecDepth 20000 in
theorem gX8_touch_X8_allows : GoodIn wsX8_touch (wsV RX8 93 RX8 yX8_allows wsX8_allows) := goodIn_app (goodIn_of _ (by decide +kernel)) ggX8_touch_X8_allows
set_option maxRecDepth 20000 in
theorem ggX8_agreesWithSights_X8_lengthAt : GoodIn wsX8_agreesWithSights wsX8_lengthAt := goodIn_r _ [8, 9, 10, 11, 12, 13, 7, 14, 15, 16, 17, 18, 19, 20, 21, 22, 23, 24, 25, 26, 27, 28, 29, 30, 31, 32, 33] (by decide +kernel) (by decide +kernel)
set_option maxRecDepth 20000 in
theorem gX8_agreesWithSights_X8_lengthAt : GoodIn wsX8_agreesWithSights (wsV RX8 96 RX8 yX8_lengthAt wsX8_lengthAt) := goodIn_app (goodIn_of _ (by decide +kernel)) ggX8_agreesWithSights_X8_lengthAt
set_option maxRecDepth 20000 in
theorem ggX9_init_X8_init : GoodIn wsX9_init wsX8_init := goodIn_r _ [38, 39, 2, 3, 40, 41, 42, 43, 44, 45, 46, 47, 48, 49, 50, 51, 6, 52, 53, 54, 55, 56, 57, 58, 59, 60, 61, 103, 104, 105, 106, 107, 108, 109, 110, 111, 112, 113, 114, 115] (by decide +kernel) (by decide +kernel)
set_option maxRecDepth 20000 in
theorem gX9_init_X8_init : GoodIn wsX9_init (wsX8_init) := ggX9_init_X8_init
set_option maxRecDepth 20000 in
theorem ggX9_init_X5_init : GoodIn wsX9_init wsX5_init := goodIn_r _ [64, 65, 2, 3, 66, 42, 67, 127, 128] (by decide +kernel) (by decide +kernel)
set_option maxRecDepth 20000 in
theorem gX9_init_X5_init : GoodIn wsX9_init (wsX5_init) := ggX9_init_X5_init
set_option maxRecDepth 20000 in
theorem ggX9_init_X1_init : GoodIn wsX9_init wsX1_init := goodIn_r _ [70, 71, 2, 3, 72, 5, 6, 73, 74, 75, 37, 38, 39, 40, 41, 42, 43, 44, 45, 46, 47, 48, 49, 50, 51, 52, 53, 54, 55, 56, 57, 58, 59, 60, 61, 103, 104, 105, 106, 107, 108, 109, 110, 111, 112, 113, 114, 115, 129, 130, 131, 132, 133, 134] (by decide +kernel) (by decide +kernel)
set_option maxRecDepth 20000 in
theorem gX9_init_X1_init : GoodIn wsX9_init (wsX1_init) := ggX9_init_X1_init
set_option maxRecDepth 20000 in
theorem ggX9_init_X7_init : GoodIn wsX9_init wsX7_init := goodIn_r _ [78, 79, 2, 3, 42, 80, 81, 82, 83, 135, 136, 137, 138, 139, 140, 141] (by decide +kernel) (by decide +kernel)
set_option maxRecDepth 20000 in
theorem gX9_init_X7_init : GoodIn wsX9_init (wsX7_init) := ggX9_init_X7_init
set_option maxRecDepth 20000 in
theorem ggX9_init_X3_init : GoodIn wsX9_init wsX3_init := goodIn_r _ [86, 87, 2, 3, 42, 88, 89, 90, 91, 142, 143, 144, 145, 146] (by decide +kernel) (by decide +kernel)
set_option maxRecDepth 20000 in
theorem gX9_init_X3_init : GoodIn wsX9_init (wsX3_init) := ggX9_init_X3_init
set_option maxRecDepth 20000 in
theorem ggX9_init_X4_init : GoodIn wsX9_init wsX4_init := goodIn_r _ [94, 95, 2, 3, 42, 96, 97, 147, 148] (by decide +kernel) (by decide +kernel)
set_option maxRecDepth 20000 in
theorem gX9_init_X4_init : GoodIn wsX9_init (wsX4_init) := ggX9_init_X4_init
set_option maxRecDepth 20000 in
theorem ggX9_init_X2_init : GoodIn wsX9_init wsX2_init := goodIn_r _ [100, 101, 2, 3, 42, 102, 149] (by decide +kernel) (by decide +kernel)
set_option maxRecDepth 20000 in
theorem gX9_init_X2_init : GoodIn wsX9_init (wsX2_init) := ggX9_init_X2_init
set_option maxRecDepth 20000 in
theorem ggX9_windows_X9_isOutside : GoodIn wsX9_windows wsX9_isOutside := goodIn_r _ [6] (by decide +kernel) (by decide +kernel)
set_option maxRecDepth 20000 in
theorem gX9_windows_X9_isOutside : GoodIn wsX9_windows (va_wsS RX9 71 yX9_isOutside wsX9_isOutside) := goodIn_app (goodIn_of _ (by decide +kernel)) ggX9_windows_X9_isOutside
set_option maxRecDepth 20000 in
theorem ggX9_windows_X8_beginAnew : GoodIn wsX9_windows wsX8_beginAnew := goodIn_r _ [11, 12, 13, 14, 15, 16, 17, 18, 19, 20, 21, 10, 22, 23, 35, 36, 37, 38, 39, 40, 41, 42, 43, 44, 45, 46, 47] (by decide +kernel) (by decide +kernel)
set_option maxRecDepth 20000 in
theorem gX9_windows_X8_beginAnew : GoodIn wsX9_windows (wsV RX9 79 RX8 yX8_beginAnew wsX8_beginAnew) := goodIn_app (goodIn_of _ (by decide +kernel)) ggX9_windows_X8_beginAnew
set_option maxRecDepth 20000 in
theorem ggX9_gap_X8_has : GoodIn wsX9_gap wsX8_has := goodIn_r _ [7, 8, 30, 31, 32, 33, 34, 35, 36, 37, 38, 39, 40, 41, 42] (by decide +kernel) (by decide +kernel)
set_option maxRecDepth 20000 in
theorem gX9_gap_X8_has : GoodIn wsX9_gap (wsV RX9 83 RX8 yX8_has wsX8_has) := goodIn_app (goodIn_of _ (by decide +kernel)) ggX9_gap_X8_has
set_option maxRecDepth 20000 in
theorem ggX9_gap_X9_isOutside : GoodIn wsX9_gap wsX9_isOutside := goodIn_r _ [12] (by decide +kernel) (by decide +kernel)
set_option maxRecDepth 20000 in
theorem gX9_gap_X9_isOutside : GoodIn wsX9_gap (va_wsS RX9 71 yX9_isOutside wsX9_isOutside) := goodIn_app (goodIn_of _ (by decide +kernel)) ggX9_gap_X9_isOutside
set_option maxRecDepth 20000 in
theorem ggX9_gap_X8_measure : GoodIn wsX9_gap wsX8_measure := goodIn_r _ [16, 17, 18, 30, 31, 32, 33, 34, 35, 36, 37, 38, 39, 40, 41, 42] (by decide +kernel) (by decide +kernel)
set_option maxRecDepth 20000 in
theorem gX9_gap_X8_measure : GoodIn wsX9_gap (wsV RX9 91 RX8 yX8_measure wsX8_measure) := goodIn_app (goodIn_of _ (by decide +kernel)) ggX9_gap_X8_measure
set_option maxRecDepth 20000 in
theorem ggX9_set_X9_putEnd : GoodIn wsX9_set wsX9_putEnd := goodIn_r _ [5, 6, 7, 8, 9, 4, 10, 21, 22, 23, 24, 25, 26, 27, 28, 29, 30, 31, 32, 33, 34, 35, 36, 37, 38, 39, 40, 41, 42, 43, 44] (by decide +kernel) (by decide +kernel)
set_option maxRecDepth 20000 in
theorem gX9_set_X9_putEnd : GoodIn wsX9_set (wsV RX9 94 RX9 yX9_putEnd wsX9_putEnd) := goodIn_app (goodIn_of _ (by decide +kernel)) ggX9_set_X9_putEnd
set_option maxRecDepth 20000 in
theorem ggX9_set_X9_putLimit : GoodIn wsX9_set wsX9_putLimit := goodIn_r _ [14, 6, 15, 8, 9, 4, 10, 21, 22, 23, 24, 25, 26, 27, 28, 29, 30, 31, 32, 33, 34, 35, 36, 37, 38, 39, 40, 41, 42, 43, 44] (by decide +kernel) (by decide +kernel)
set_option maxRecDepth 20000 in
theorem gX9_set_X9_putLimit : GoodIn wsX9_set (wsV RX9 98 RX9 yX9_putLimit wsX9_putLimit) := goodIn_app (goodIn_of _ (by decide +kernel)) ggX9_set_X9_putLimit
set_option maxRecDepth 20000 in
theorem ggX9_set_X9_putRent : GoodIn wsX9_set wsX9_putRent := goodIn_r _ [19, 6, 20, 8, 9, 4, 10, 21, 22, 23, 24, 25, 26, 27, 28, 29, 30, 31, 32, 33, 34, 35, 36, 37, 38, 39, 40, 41, 42, 43, 44] (by decide +kernel) (by decide +kernel)
set_option maxRecDepth 20000 in
theorem gX9_set_X9_putRent : GoodIn wsX9_set (wsV RX9 101 RX9 yX9_putRent wsX9_putRent) := goodIn_app (goodIn_of _ (by decide +kernel)) ggX9_set_X9_putRent
set_option maxRecDepth 20000 in
theorem ggX9_say_X9_isOutside : GoodIn wsX9_say wsX9_isOutside := goodIn_r _ [6] (by decide +kernel) (by decide +kernel)
set_option maxRecDepth 20000 in
theorem gX9_say_X9_isOutside : GoodIn wsX9_say (va_wsS RX9 71 yX9_isOutside wsX9_isOutside) := goodIn_app (goodIn_of _ (by decide +kernel)) ggX9_say_X9_isOutside
set_option maxRecDepth 20000 in
theorem ggX9_say_X5_write : GoodIn wsX9_say wsX5_write := goodIn_r _ [11, 12, 13, 25, 26] (by decide +kernel) (by decide +kernel)
set_option maxRecDepth 20000 in
theorem gX9_say_X5_write : GoodIn wsX9_say (wsV RX9 104 RX5 yX5_write wsX5_write) := goodIn_app (goodIn_of _ (by decide +kernel)) ggX9_say_X5_write
set_option maxRecDepth 20000 in
theorem ggX9_wipe_X5_clear : GoodIn wsX9_wipe wsX5_clear := goodIn_r _ [6, 7, 19, 20] (by decide +kernel) (by decide +kernel)
set_option maxRecDepth 20000 in
theorem gX9_wipe_X5_clear : GoodIn wsX9_wipe (wsV RX9 108 RX5 yX5_clear wsX5_clear) := goodIn_app (goodIn_of _ (by decide +kernel)) ggX9_wipe_X5_clear
