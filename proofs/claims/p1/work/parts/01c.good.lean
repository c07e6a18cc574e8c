set_option maxRecDepth 20000 in
theorem ggX0_pick_X6_leastV : GoodIn wsX0_pick wsX6_leastV := goodIn_r _ [9, 10, 11, 12, 13, 14, 15, 16, 17, 18, 111, 112, 113, 114, 115, 116, 117, 118, 119, 120, 121, 122, 123, 124, 125, 126, 127, 128, 129, 130, 131, 132, 133, 134, 135, 136, 137, 138] (by decide +kernel) (by decide +kernel)
set_option maxRecDepth 20000 in
theorem gX0_pick_X6_leastV : GoodIn wsX0_pick (wsV RX0 28 RX6 yX6_leastV wsX6_leastV) := goodIn_app (goodIn_of _ (by decide +kernel)) ggX0_pick_X6_leastV
set_option maxRecDepth 20000 in
theorem ggX0_pick_X6_firstDeadline : GoodIn wsX0_pick wsX6_firstDeadline := goodIn_r _ [22, 23, 10, 11, 12, 24, 25, 26, 8, 27, 28, 29, 30, 31, 32, 33, 34, 35, 36, 37, 38, 39, 40, 41, 42, 43, 44, 45, 46, 47, 48, 49, 50, 51, 52, 53, 54, 55, 56, 57, 58, 59, 60, 61, 62, 13, 14, 15, 16, 17, 18, 63, 64, 65, 66, 67, 68, 69, 70, 71, 72, 73, 74, 75, 76, 77, 78, 79, 80, 81, 82, 111, 112, 113, 114, 115, 116, 117, 118, 119, 120, 121, 122, 123, 124, 125, 126, 127, 128, 129, 130, 131, 132, 133, 134, 135, 136, 137, 138, 139, 140] (by decide +kernel) (by decide +kernel)
set_option maxRecDepth 20000 in
theorem gX0_pick_X6_firstDeadline : GoodIn wsX0_pick (wsV RX0 34 RX6 yX6_firstDeadline wsX6_firstDeadline) := goodIn_app (goodIn_of _ (by decide +kernel)) ggX0_pick_X6_firstDeadline
set_option maxRecDepth 20000 in
theorem ggX0_pick_X6_nextInTurn : GoodIn wsX0_pick wsX6_nextInTurn := goodIn_r _ [86, 10, 87, 11, 63, 64, 65, 8, 66, 13, 14, 15, 16, 17, 18, 111, 112, 113, 114, 115, 116, 117, 118, 119, 120, 121, 122, 123, 124, 125, 126, 127, 128, 129, 130, 131, 132, 133, 134, 135, 136, 137, 138] (by decide +kernel) (by decide +kernel)
set_option maxRecDepth 20000 in
theorem gX0_pick_X6_nextInTurn : GoodIn wsX0_pick (wsV RX0 38 RX6 yX6_nextInTurn wsX6_nextInTurn) := goodIn_app (goodIn_of _ (by decide +kernel)) ggX0_pick_X6_nextInTurn
set_option maxRecDepth 20000 in
theorem ggX0_pick_X0_byDraw : GoodIn wsX0_pick wsX0_byDraw := goodIn_r _ [92, 93, 94, 95, 96, 97, 98, 99, 8, 100, 10, 11, 33, 34, 101, 102, 103, 104, 13, 14, 15, 16, 17, 18, 105, 106, 107, 111, 112, 113, 114, 115, 116, 117, 118, 119, 120, 121, 122, 123, 124, 125, 126, 127, 128, 129, 130, 131, 132, 133, 134, 135, 136, 137, 138] (by decide +kernel) (by decide +kernel)
set_option maxRecDepth 20000 in
theorem gX0_pick_X0_byDraw : GoodIn wsX0_pick (wsV RX0 41 RX0 yX0_byDraw wsX0_byDraw) := goodIn_app (goodIn_of _ (by decide +kernel)) ggX0_pick_X0_byDraw
set_option maxRecDepth 20000 in
theorem ggX0_byDraw_X6_weightOfAll : GoodIn wsX0_byDraw wsX6_weightOfAll := goodIn_r _ [9, 10, 11, 12, 13, 27, 28, 29, 30, 31, 32, 33, 34, 35, 36, 37, 38, 39, 40, 41, 42, 43, 44, 45, 46, 47, 48, 49, 50, 51, 52, 53, 54] (by decide +kernel) (by decide +kernel)
set_option maxRecDepth 20000 in
theorem gX0_byDraw_X6_weightOfAll : GoodIn wsX0_byDraw (wsV RX0 51 RX6 yX6_weightOfAll wsX6_weightOfAll) := goodIn_app (goodIn_of _ (by decide +kernel)) ggX0_byDraw_X6_weightOfAll
set_option maxRecDepth 20000 in
theorem ggX1_init_X6_init : GoodIn wsX1_init wsX6_init := goodIn_r _ [12, 13, 2, 3, 14, 15, 16, 17, 18, 19, 20, 21, 22, 23, 24, 25, 26, 27, 28, 29, 30, 31, 32, 33, 34, 35, 36, 37, 38, 39, 40, 41, 42, 43, 44, 45, 46, 47, 48, 49, 50, 51, 6, 52, 57, 58, 59, 60, 61, 62, 63, 64, 65, 66, 67, 68, 69, 70, 71, 72, 73, 74, 75, 76, 77, 78, 79, 80, 81, 82, 83, 84, 85, 86, 87, 88, 89, 90, 91, 92] (by decide +kernel) (by decide +kernel)
set_option maxRecDepth 20000 in
theorem gX1_init_X6_init : GoodIn wsX1_init (wsX6_init) := ggX1_init_X6_init
set_option maxRecDepth 20000 in
theorem ggX1_keep_X6_copy : GoodIn wsX1_keep wsX6_copy := goodIn_r _ [13, 14, 15, 16, 17, 18, 19, 20, 21, 22, 23, 24, 25, 26, 27, 28, 29, 30, 31, 32, 33, 34, 35, 36, 37, 38, 39, 40, 41, 42, 43, 44, 45, 46, 47, 48, 49, 50, 51, 52, 53, 54, 55, 56, 57, 58, 59, 60, 61, 62, 63, 64, 65, 66, 67, 68, 69, 70, 75, 76, 77, 78, 79, 80, 81, 82, 83, 84, 85, 86, 87, 88, 89, 90, 91, 92, 93, 94, 95, 96, 97, 98, 99, 100, 101, 102, 103, 104, 105, 106, 107, 108, 109, 110] (by decide +kernel) (by decide +kernel)
set_option maxRecDepth 20000 in
theorem gX1_keep_X6_copy : GoodIn wsX1_keep (wsV RX1 28 RX6 yX6_copy wsX6_copy) := goodIn_app (goodIn_of _ (by decide +kernel)) ggX1_keep_X6_copy
set_option maxRecDepth 20000 in
theorem ggX3_init_X5_init : GoodIn wsX3_init wsX5_init := goodIn_r _ [9, 10, 2, 3, 11, 12, 13, 14, 15, 16, 17] (by decide +kernel) (by decide +kernel)
set_option maxRecDepth 20000 in
theorem gX3_init_X5_init_n11 : GoodIn wsX3_init (wsX5_init) := ggX3_init_X5_init
set_option maxRecDepth 20000 in
theorem ggX4_add_X4_placeOf : GoodIn wsX4_add wsX4_placeOf := goodIn_r _ [6] (by decide +kernel) (by decide +kernel)
set_option maxRecDepth 20000 in
theorem gX4_add_X4_placeOf : GoodIn wsX4_add (va_wsS RX4 19 yX4_placeOf wsX4_placeOf) := goodIn_app (goodIn_of _ (by decide +kernel)) ggX4_add_X4_placeOf
set_option maxRecDepth 20000 in
theorem ggX4_countOf_X4_placeOf : GoodIn wsX4_countOf wsX4_placeOf := goodIn_r _ [5] (by decide +kernel) (by decide +kernel)
set_option maxRecDepth 20000 in
theorem gX4_countOf_X4_placeOf : GoodIn wsX4_countOf (va_wsS RX4 19 yX4_placeOf wsX4_placeOf) := goodIn_app (goodIn_of _ (by decide +kernel)) ggX4_countOf_X4_placeOf
set_option maxRecDepth 20000 in
theorem ggX6_init_X2_init : GoodIn wsX6_init wsX2_init := goodIn_r _ [21, 22, 2, 3, 23, 24, 54] (by decide +kernel) (by decide +kernel)
set_option maxRecDepth 20000 in
theorem gX6_init_X2_init_n19 : GoodIn wsX6_init (wsX2_init) := ggX6_init_X2_init
set_option maxRecDepth 20000 in
theorem ggX6_init_X10_init : GoodIn wsX6_init wsX10_init := goodIn_r _ [26, 27, 2, 3] (by decide +kernel) (by decide +kernel)
set_option maxRecDepth 20000 in
theorem gX6_init_X10_init_n26 : GoodIn wsX6_init (wsX10_init) := ggX6_init_X10_init
set_option maxRecDepth 20000 in
theorem ggX6_init_X8_init : GoodIn wsX6_init wsX8_init := goodIn_r _ [30, 31, 2, 3, 32, 33, 34, 35, 36, 11, 12, 37, 38, 39, 40, 41, 42, 43, 25, 26, 27, 75, 76, 77, 78, 79, 57, 58, 59, 60, 61, 62, 63, 64, 65, 66, 67, 68, 69, 70, 71, 72, 73, 74, 55, 56] (by decide +kernel) (by decide +kernel)
set_option maxRecDepth 20000 in
theorem gX6_init_X8_init : GoodIn wsX6_init (wsX8_init) := ggX6_init_X8_init
set_option maxRecDepth 20000 in
theorem ggX6_copy_X2_copy : GoodIn wsX6_copy wsX2_copy := goodIn_r _ [55, 56, 57, 37, 38, 39, 93] (by decide +kernel) (by decide +kernel)
set_option maxRecDepth 20000 in
theorem gX6_copy_X2_copy : GoodIn wsX6_copy (wsV RX6 55 RX2 yX2_copy wsX2_copy) := goodIn_app (goodIn_of _ (by decide +kernel)) ggX6_copy_X2_copy
set_option maxRecDepth 20000 in
theorem ggX6_addTask_X8_startAnew : GoodIn wsX6_addTask wsX8_startAnew := goodIn_r _ [7, 8, 9, 10, 11, 12, 13, 14, 15, 16, 17, 18, 19, 20, 21, 22, 23, 24, 25, 26, 27, 28, 29, 30, 31, 32, 33, 34, 35, 36, 37, 38, 39, 40, 41, 6, 42, 43, 44, 45, 56, 57, 58, 59, 60, 61, 62, 63, 64, 65, 66, 67, 68, 69, 70, 71, 72, 73, 74, 75, 76, 77, 78, 79, 80] (by decide +kernel) (by decide +kernel)
set_option maxRecDepth 20000 in
theorem gX6_addTask_X8_startAnew : GoodIn wsX6_addTask (wsV RX6 65 RX8 yX8_startAnew wsX8_startAnew) := goodIn_app (goodIn_of _ (by decide +kernel)) ggX6_addTask_X8_startAnew
set_option maxRecDepth 20000 in
theorem ggX6_sumUp_X10_set : GoodIn wsX6_sumUp wsX10_set := goodIn_r _ [12, 13, 14, 15, 48, 49] (by decide +kernel) (by decide +kernel)
set_option maxRecDepth 20000 in
theorem gX6_sumUp_X10_set : GoodIn wsX6_sumUp (wsV RX6 75 RX10 yX10_set wsX10_set) := goodIn_app (goodIn_of _ (by decide +kernel)) ggX6_sumUp_X10_set
set_option maxRecDepth 20000 in
theorem ggX6_wholeV_X6_sumUp : GoodIn wsX6_wholeV wsX6_sumUp := goodIn_r _ [6, 1, 7, 8, 9, 10, 11, 12, 13, 14, 15, 16, 17, 18, 19, 20, 21, 22, 23, 24, 40, 41, 42, 43, 44, 45, 46, 47, 48, 49, 50, 51, 52, 53, 54, 55, 56, 57, 58, 59, 60, 61, 62, 63, 64, 65, 66, 67, 68, 69] (by decide +kernel) (by decide +kernel)
set_option maxRecDepth 20000 in
theorem gX6_wholeV_X6_sumUp : GoodIn wsX6_wholeV (wsV RX6 86 RX6 yX6_sumUp wsX6_sumUp) := goodIn_app (goodIn_of _ (by decide +kernel)) ggX6_wholeV_X6_sumUp
set_option maxRecDepth 20000 in
theorem ggX6_wholeV_X10_divide : GoodIn wsX6_wholeV wsX10_divide := goodIn_r _ [28, 18, 20, 29, 30, 31, 32, 33, 34, 35, 68, 69] (by decide +kernel) (by decide +kernel)
set_option maxRecDepth 20000 in
theorem gX6_wholeV_X10_divide : GoodIn wsX6_wholeV (wsV RX6 90 RX10 yX10_divide wsX10_divide) := goodIn_app (goodIn_of _ (by decide +kernel)) ggX6_wholeV_X10_divide
set_option maxRecDepth 20000 in
theorem ggX6_wholeV_X10_asLong : GoodIn wsX6_wholeV wsX10_asLong := goodIn_r _ [39, 18, 20, 68, 69] (by decide +kernel) (by decide +kernel)
set_option maxRecDepth 20000 in
theorem gX6_wholeV_X10_asLong : GoodIn wsX6_wholeV (wsV RX6 93 RX10 yX10_asLong wsX10_asLong) := goodIn_app (goodIn_of _ (by decide +kernel)) ggX6_wholeV_X10_asLong
set_option maxRecDepth 20000 in
theorem ggX6_restOfV_X6_sumUp : GoodIn wsX6_restOfV wsX6_sumUp := goodIn_r _ [6, 1, 7, 8, 9, 10, 11, 12, 13, 14, 15, 16, 17, 18, 19, 20, 21, 22, 23, 24, 33, 34, 35, 36, 37, 38, 39, 40, 41, 42, 43, 44, 45, 46, 47, 48, 49, 50, 51, 52, 53, 54, 55, 56, 57, 58, 59, 60, 61, 62] (by decide +kernel) (by decide +kernel)
set_option maxRecDepth 20000 in
theorem gX6_restOfV_X6_sumUp : GoodIn wsX6_restOfV (wsV RX6 86 RX6 yX6_sumUp wsX6_sumUp) := goodIn_app (goodIn_of _ (by decide +kernel)) ggX6_restOfV_X6_sumUp
set_option maxRecDepth 20000 in
theorem ggX6_restOfV_X10_modulo : GoodIn wsX6_restOfV wsX10_modulo := goodIn_r _ [28, 18, 20, 29, 30, 31, 32, 61, 62] (by decide +kernel) (by decide +kernel)
set_option maxRecDepth 20000 in
theorem gX6_restOfV_X10_modulo : GoodIn wsX6_restOfV (wsV RX6 97 RX10 yX10_modulo wsX10_modulo) := goodIn_app (goodIn_of _ (by decide +kernel)) ggX6_restOfV_X10_modulo
set_option maxRecDepth 20000 in
theorem ggX6_lagEdge_X6_weightOfAll : GoodIn wsX6_lagEdge wsX6_weightOfAll := goodIn_r _ [17, 1, 2, 18, 19, 62, 63, 64, 65, 66, 67, 68, 69, 70, 71, 72, 73, 74, 75, 76, 77, 78, 79, 80, 81, 82, 83, 84, 85, 86, 87, 88, 89] (by decide +kernel) (by decide +kernel)
set_option maxRecDepth 20000 in
theorem gX6_lagEdge_X6_weightOfAll : GoodIn wsX6_lagEdge (wsV RX6 108 RX6 yX6_weightOfAll wsX6_weightOfAll) := goodIn_app (goodIn_of _ (by decide +kernel)) ggX6_lagEdge_X6_weightOfAll
set_option maxRecDepth 20000 in
theorem ggX6_eligibleBits_X6_wholeV : GoodIn wsX6_eligibleBits wsX6_wholeV := goodIn_r _ [8, 9, 10, 11, 12, 7, 13, 1, 2, 14, 15, 3, 16, 17, 18, 19, 20, 21, 22, 23, 24, 25, 26, 27, 28, 29, 30, 31, 32, 33, 34, 35, 36, 37, 38, 39, 40, 41, 42, 43, 50, 51, 52, 53, 54, 55, 56, 57, 58, 59, 60, 61, 62, 63, 64, 65, 66, 67, 68, 69, 70, 71, 72, 73, 74, 75, 76, 77, 78, 79] (by decide +kernel) (by decide +kernel)
set_option maxRecDepth 20000 in
theorem gX6_eligibleBits_X6_wholeV : GoodIn wsX6_eligibleBits (wsV RX6 176 RX6 yX6_wholeV wsX6_wholeV) := goodIn_app (goodIn_of _ (by decide +kernel)) ggX6_eligibleBits_X6_wholeV
set_option maxRecDepth 20000 in
theorem ggX6_eligibleAt_X6_eligibleBits : GoodIn wsX6_eligibleAt wsX6_eligibleBits := goodIn_r _ [7, 1, 2, 8, 9, 10, 11, 6, 12, 13, 14, 15, 16, 17, 18, 19, 20, 21, 22, 23, 24, 25, 26, 27, 28, 29, 30, 31, 32, 33, 34, 35, 36, 37, 38, 39, 40, 41, 42, 43, 44, 45, 46, 47, 48, 49, 50, 51, 52, 53, 74, 75, 76, 77, 78, 79, 80, 81, 82, 83, 84, 85, 86, 87, 88, 89, 90, 91, 92, 93, 94, 95, 96, 97, 98, 99, 100, 101, 102, 103] (by decide +kernel) (by decide +kernel)
set_option maxRecDepth 20000 in
theorem gX6_eligibleAt_X6_eligibleBits : GoodIn wsX6_eligibleAt (wsV RX6 179 RX6 yX6_eligibleBits wsX6_eligibleBits) := goodIn_app (goodIn_of _ (by decide +kernel)) ggX6_eligibleAt_X6_eligibleBits
set_option maxRecDepth 20000 in
theorem ggX6_firstDeadline_X6_wholeV : GoodIn wsX6_firstDeadline wsX6_wholeV := goodIn_r _ [9, 10, 11, 12, 13, 8, 14, 2, 3, 15, 16, 4, 17, 18, 19, 20, 21, 22, 23, 24, 25, 26, 27, 28, 29, 30, 31, 32, 33, 34, 35, 36, 37, 38, 39, 40, 41, 42, 43, 44, 71, 72, 73, 74, 75, 76, 77, 78, 79, 80, 81, 82, 83, 84, 85, 86, 87, 88, 89, 90, 91, 92, 93, 94, 95, 96, 97, 98, 99, 100] (by decide +kernel) (by decide +kernel)
set_option maxRecDepth 20000 in
theorem gX6_firstDeadline_X6_wholeV : GoodIn wsX6_firstDeadline (wsV RX6 176 RX6 yX6_wholeV wsX6_wholeV) := goodIn_app (goodIn_of _ (by decide +kernel)) ggX6_firstDeadline_X6_wholeV
set_option maxRecDepth 20000 in
theorem ggX6_tick_X0_pick : GoodIn wsX6_tick wsX0_pick := goodIn_r _ [181, 182, 183, 184, 185, 186, 187, 188, 17, 189, 1, 2, 45, 147, 148, 149, 9, 150, 151, 190, 191, 192, 193, 194, 195, 196, 197, 198, 44, 49, 50, 51, 52, 19, 20, 53, 54, 55, 56, 57, 58, 59, 60, 61, 62, 63, 64, 65, 97, 98, 99, 100, 101, 102, 103, 104, 105, 106, 107, 108, 109, 110, 111, 199, 200, 201, 202, 203, 204, 205, 206, 207, 208, 209, 210, 211, 212, 160, 213, 214, 215, 216, 217, 218, 219, 220, 221, 222, 223, 224, 225, 180, 226, 227, 228, 229, 230, 231, 33, 34, 35, 232, 233, 234, 235, 326, 327, 328, 321, 322, 323, 288, 289, 290, 291, 292, 293, 294, 295, 296, 297, 298, 299, 300, 301, 302, 303, 304, 305, 306, 307, 308, 309, 310, 311, 312, 313, 314, 315, 324, 325] (by decide +kernel) (by decide +kernel)
set_option maxRecDepth 20000 in
theorem gX6_tick_X0_pick : GoodIn wsX6_tick (wsV RX6 204 RX0 yX0_pick wsX0_pick) := goodIn_app (goodIn_of _ (by decide +kernel)) ggX6_tick_X0_pick
set_option maxRecDepth 20000 in
theorem ggX6_tick_X6_weightOfAll : GoodIn wsX6_tick wsX6_weightOfAll := goodIn_r _ [35, 1, 2, 19, 20, 288, 289, 290, 291, 292, 293, 294, 295, 296, 297, 298, 299, 300, 301, 302, 303, 304, 305, 306, 307, 308, 309, 310, 311, 312, 313, 314, 315] (by decide +kernel) (by decide +kernel)
set_option maxRecDepth 20000 in
theorem gX6_tick_X6_weightOfAll : GoodIn wsX6_tick (wsV RX6 108 RX6 yX6_weightOfAll wsX6_weightOfAll) := goodIn_app (goodIn_of _ (by decide +kernel)) ggX6_tick_X6_weightOfAll
set_option maxRecDepth 20000 in
theorem ggX6_tick_X6_weightsAsBits : GoodIn wsX6_tick wsX6_weightsAsBits := goodIn_r _ [239, 1, 2, 20, 147, 148, 149, 9, 150, 151, 240, 241, 242, 243, 288, 289, 290, 291, 292, 293, 294, 295, 296, 297, 298, 299, 300, 301, 302, 303, 304, 305, 306, 307, 308, 309, 310, 311, 312, 313, 314, 315] (by decide +kernel) (by decide +kernel)
set_option maxRecDepth 20000 in
theorem gX6_tick_X6_weightsAsBits : GoodIn wsX6_tick (wsV RX6 210 RX6 yX6_weightsAsBits wsX6_weightsAsBits) := goodIn_app (goodIn_of _ (by decide +kernel)) ggX6_tick_X6_weightsAsBits
set_option maxRecDepth 20000 in
theorem ggX6_tick_X2_put : GoodIn wsX6_tick wsX2_put := goodIn_r _ [247, 248, 329] (by decide +kernel) (by decide +kernel)
set_option maxRecDepth 20000 in
theorem gX6_tick_X2_put : GoodIn wsX6_tick (wsV RX6 213 RX2 yX2_put wsX2_put) := goodIn_app (goodIn_of _ (by decide +kernel)) ggX6_tick_X2_put
set_option maxRecDepth 20000 in
theorem ggX6_tick_X6_has : GoodIn wsX6_tick wsX6_has := goodIn_r _ [202, 1, 288, 289, 290, 291, 292, 293, 294, 295, 296, 297] (by decide +kernel) (by decide +kernel)
set_option maxRecDepth 20000 in
theorem gX6_tick_X6_has : GoodIn wsX6_tick (wsV RX6 194 RX6 yX6_has wsX6_has) := goodIn_app (goodIn_of _ (by decide +kernel)) ggX6_tick_X6_has
set_option maxRecDepth 20000 in
theorem ggX6_logHolds_X6_firstInLog : GoodIn wsX6_logHolds wsX6_firstInLog := goodIn_r _ [6, 1, 7, 8, 9, 10, 11, 12, 13, 14, 15, 16, 17, 18, 19, 20] (by decide +kernel) (by decide +kernel)
set_option maxRecDepth 20000 in
theorem gX6_logHolds_X6_firstInLog : GoodIn wsX6_logHolds (wsV RX6 316 RX6 yX6_firstInLog wsX6_firstInLog) := goodIn_app (goodIn_of _ (by decide +kernel)) ggX6_logHolds_X6_firstInLog
set_option maxRecDepth 20000 in
theorem ggX7_addFour_X7_add : GoodIn wsX7_addFour wsX7_add := goodIn_r _ [5, 6, 7, 8, 9] (by decide +kernel) (by decide +kernel)
set_option maxRecDepth 20000 in
theorem gX7_addFour_X7_add : GoodIn wsX7_addFour (wsV RX7 19 RX7 yX7_add wsX7_add) := goodIn_app (goodIn_of _ (by decide +kernel)) ggX7_addFour_X7_add
set_option maxRecDepth 20000 in
theorem ggX8_init_X5_init : GoodIn wsX8_init wsX5_init := goodIn_r _ [14, 15, 2, 3, 16, 17, 21, 22, 23, 24, 25] (by decide +kernel) (by decide +kernel)
set_option maxRecDepth 20000 in
theorem gX8_init_X5_init_n11 : GoodIn wsX8_init (wsX5_init) := ggX8_init_X5_init
set_option maxRecDepth 20000 in
theorem ggX8_init_X10_init : GoodIn wsX8_init wsX10_init := goodIn_r _ [19, 20, 2, 3] (by decide +kernel) (by decide +kernel)
set_option maxRecDepth 20000 in
theorem gX8_init_X10_init_n20 : GoodIn wsX8_init (wsX10_init) := ggX8_init_X10_init
set_option maxRecDepth 20000 in
theorem ggX8_startAnew_X5_drop : GoodIn wsX8_startAnew wsX5_drop := goodIn_r _ [19, 20, 21, 22, 23, 58, 59, 60, 61, 62] (by decide +kernel) (by decide +kernel)
set_option maxRecDepth 20000 in
theorem gX8_startAnew_X5_drop : GoodIn wsX8_startAnew (wsV RX8 29 RX5 yX5_drop wsX5_drop) := goodIn_app (goodIn_of _ (by decide +kernel)) ggX8_startAnew_X5_drop
set_option maxRecDepth 20000 in
theorem ggX8_startAnew_X10_set : GoodIn wsX8_startAnew wsX10_set := goodIn_r _ [28, 29, 30, 31, 63, 64] (by decide +kernel) (by decide +kernel)
set_option maxRecDepth 20000 in
theorem gX8_startAnew_X10_set : GoodIn wsX8_startAnew (wsV RX8 48 RX10 yX10_set wsX10_set) := goodIn_app (goodIn_of _ (by decide +kernel)) ggX8_startAnew_X10_set
set_option maxRecDepth 20000 in
theorem ggX8_startAnew_X8_takeQuota : GoodIn wsX8_startAnew wsX8_takeQuota := goodIn_r _ [36, 37, 38, 39, 40, 41, 42, 43, 44, 45, 46, 47, 48, 49, 50, 51, 52, 53, 54, 55, 56, 57] (by decide +kernel) (by decide +kernel)
set_option maxRecDepth 20000 in
theorem gX8_startAnew_X8_takeQuota : GoodIn wsX8_startAnew (wsV RX8 73 RX8 yX8_takeQuota wsX8_takeQuota) := goodIn_app (goodIn_of _ (by decide +kernel)) ggX8_startAnew_X8_takeQuota
set_option maxRecDepth 20000 in
theorem ggX10_divide_J9_floorMod_f86c9 : GoodIn wsX10_divide wsJ9_floorMod_f86c9 := goodIn_r _ [6] (by decide +kernel) (by decide +kernel)
set_option maxRecDepth 20000 in
theorem gX10_divide_J9_floorMod_f86c9 : GoodIn wsX10_divide (va_wsS RX10 18 yJ9_floorMod_f86c9 wsJ9_floorMod_f86c9) := goodIn_app (goodIn_of _ (by decide +kernel)) ggX10_divide_J9_floorMod_f86c9
set_option maxRecDepth 20000 in
theorem ggX10_divide_J9_floorDiv_f86c9 : GoodIn wsX10_divide wsJ9_floorDiv_f86c9 := goodIn_r _ [9] (by decide +kernel) (by decide +kernel)
set_option maxRecDepth 20000 in
theorem gX10_divide_J9_floorDiv_f86c9 : GoodIn wsX10_divide (va_wsS RX10 24 yJ9_floorDiv_f86c9 wsJ9_floorDiv_f86c9) := goodIn_app (goodIn_of _ (by decide +kernel)) ggX10_divide_J9_floorDiv_f86c9
set_option maxRecDepth 20000 in
theorem ggX10_modulo_J9_floorMod_f86c9 : GoodIn wsX10_modulo wsJ9_floorMod_f86c9 := goodIn_r _ [6] (by decide +kernel) (by decide +kernel)
set_option maxRecDepth 20000 in
theorem gX10_modulo_J9_floorMod_f86c9 : GoodIn wsX10_modulo (va_wsS RX10 18 yJ9_floorMod_f86c9 wsJ9_floorMod_f86c9) := goodIn_app (goodIn_of _ (by decide +kernel)) ggX10_modulo_J9_floorMod_f86c9
set_option maxRecDepth 20000 in
theorem ggX11_init_X9_init : GoodIn wsX11_init wsX9_init := goodIn_r _ [39, 40, 2, 3, 41, 42, 114, 115, 116] (by decide +kernel) (by decide +kernel)
set_option maxRecDepth 20000 in
theorem gX11_init_X9_init_n11 : GoodIn wsX11_init (wsX9_init) := ggX11_init_X9_init
set_option maxRecDepth 20000 in
theorem ggX11_init_X7_init : GoodIn wsX11_init wsX7_init := goodIn_r _ [44, 45, 2, 3, 46, 47, 129, 130] (by decide +kernel) (by decide +kernel)
set_option maxRecDepth 20000 in
theorem gX11_init_X7_init_n20 : GoodIn wsX11_init (wsX7_init) := ggX11_init_X7_init
set_option maxRecDepth 20000 in
theorem ggX11_init_X3_init : GoodIn wsX11_init wsX3_init := goodIn_r _ [49, 50, 2, 3, 51, 52, 53, 54, 55, 56, 57, 58, 59, 152, 153, 154, 155, 156, 131, 132] (by decide +kernel) (by decide +kernel)
set_option maxRecDepth 20000 in
theorem gX11_init_X3_init_n27 : GoodIn wsX11_init (wsX3_init) := ggX11_init_X3_init
set_option maxRecDepth 20000 in
theorem ggX11_init_X6_init : GoodIn wsX11_init wsX6_init := goodIn_r _ [62, 63, 2, 3, 64, 65, 66, 67, 68, 69, 70, 71, 72, 73, 74, 75, 76, 77, 78, 79, 80, 81, 82, 83, 84, 85, 86, 87, 88, 89, 90, 91, 92, 52, 53, 93, 94, 95, 96, 55, 56, 57, 58, 59, 133, 134, 135, 136, 137, 138, 139, 140, 141, 142, 157, 158, 159, 160, 161, 162, 163, 164, 165, 166, 167, 168, 169, 170, 171, 172, 173, 174, 175, 176, 177, 152, 153, 154, 155, 156] (by decide +kernel) (by decide +kernel)
set_option maxRecDepth 20000 in
theorem gX11_init_X6_init : GoodIn wsX11_init (wsX6_init) := ggX11_init_X6_init
set_option maxRecDepth 20000 in
theorem ggX11_init_X0_init : GoodIn wsX11_init wsX0_init := goodIn_r _ [99, 100, 2, 3, 101, 143, 144, 145] (by decide +kernel) (by decide +kernel)
set_option maxRecDepth 20000 in
theorem gX11_init_X0_init : GoodIn wsX11_init (wsX0_init) := ggX11_init_X0_init
set_option maxRecDepth 20000 in
theorem ggX11_init_X1_init : GoodIn wsX11_init wsX1_init := goodIn_r _ [104, 105, 2, 3, 106, 107, 58, 108, 17, 18, 109, 61, 62, 63, 64, 65, 66, 67, 68, 69, 70, 71, 72, 73, 74, 75, 76, 77, 78, 79, 80, 81, 82, 83, 84, 85, 86, 87, 88, 89, 90, 91, 92, 52, 53, 93, 94, 95, 96, 55, 56, 57, 59, 146, 147, 148, 149, 133, 134, 135, 136, 137, 138, 139, 140, 141, 142, 157, 158, 159, 160, 161, 162, 163, 164, 165, 166, 167, 168, 169, 170, 171, 172, 173, 174, 175, 176, 177, 152, 153, 154, 155, 156] (by decide +kernel) (by decide +kernel)
set_option maxRecDepth 20000 in
theorem gX11_init_X1_init : GoodIn wsX11_init (wsX1_init) := ggX11_init_X1_init
set_option maxRecDepth 20000 in
theorem ggX11_init_X4_init : GoodIn wsX11_init wsX4_init := goodIn_r _ [111, 112, 2, 3, 58, 113, 150, 151] (by decide +kernel) (by decide +kernel)
set_option maxRecDepth 20000 in
theorem gX11_init_X4_init_n71 : GoodIn wsX11_init (wsX4_init) := ggX11_init_X4_init
set_option maxRecDepth 20000 in
theorem ggX11_terms_X9_allows : GoodIn wsX11_terms wsX9_allows := goodIn_r _ [7, 8] (by decide +kernel) (by decide +kernel)
set_option maxRecDepth 20000 in
theorem gX11_terms_X9_allows : GoodIn wsX11_terms (wsV RX11 80 RX9 yX9_allows wsX9_allows) := goodIn_app (goodIn_of _ (by decide +kernel)) ggX11_terms_X9_allows
set_option maxRecDepth 20000 in
theorem ggX11_terms_X4_add : GoodIn wsX11_terms wsX4_add := goodIn_r _ [13, 14, 15, 16, 17, 12, 18, 46, 47] (by decide +kernel) (by decide +kernel)
set_option maxRecDepth 20000 in
theorem gX11_terms_X4_add : GoodIn wsX11_terms (wsV RX11 84 RX4 yX4_add wsX4_add) := goodIn_app (goodIn_of _ (by decide +kernel)) ggX11_terms_X4_add
set_option maxRecDepth 20000 in
theorem ggX11_terms_X9_get : GoodIn wsX11_terms wsX9_get := goodIn_r _ [22, 23, 24, 25, 48, 49, 50] (by decide +kernel) (by decide +kernel)
set_option maxRecDepth 20000 in
theorem gX11_terms_X9_get : GoodIn wsX11_terms (wsV RX11 88 RX9 yX9_get wsX9_get) := goodIn_app (goodIn_of _ (by decide +kernel)) ggX11_terms_X9_get
set_option maxRecDepth 20000 in
theorem ggX11_terms_X9_set : GoodIn wsX11_terms wsX9_set := goodIn_r _ [29, 23, 24, 25, 48, 49, 50] (by decide +kernel) (by decide +kernel)
set_option maxRecDepth 20000 in
theorem gX11_terms_X9_set : GoodIn wsX11_terms (wsV RX11 91 RX9 yX9_set wsX9_set) := goodIn_app (goodIn_of _ (by decide +kernel)) ggX11_terms_X9_set
set_option maxRecDepth 20000 in
theorem ggX11_terms_X4_none : GoodIn wsX11_terms wsX4_none := goodIn_r _ [33, 14, 46, 47] (by decide +kernel) (by decide +kernel)
set_option maxRecDepth 20000 in
theorem gX11_terms_X4_none : GoodIn wsX11_terms (wsV RX11 95 RX4 yX4_none wsX4_none) := goodIn_app (goodIn_of _ (by decide +kernel)) ggX11_terms_X4_none
set_option maxRecDepth 20000 in
theorem ggX11_feed_X7_hasRoomForFive : GoodIn wsX11_feed wsX7_hasRoomForFive := goodIn_r _ [7, 8, 30, 31] (by decide +kernel) (by decide +kernel)
set_option maxRecDepth 20000 in
theorem gX11_feed_X7_hasRoomForFive : GoodIn wsX11_feed (wsV RX11 98 RX7 yX7_hasRoomForFive wsX7_hasRoomForFive) := goodIn_app (goodIn_of _ (by decide +kernel)) ggX11_feed_X7_hasRoomForFive
set_option maxRecDepth 20000 in
theorem ggX11_feed_X7_addFour : GoodIn wsX11_feed wsX7_addFour := goodIn_r _ [12, 13, 14, 15, 6, 16, 8, 17, 30, 31] (by decide +kernel) (by decide +kernel)
set_option maxRecDepth 20000 in
theorem gX11_feed_X7_addFour : GoodIn wsX11_feed (wsV RX11 102 RX7 yX7_addFour wsX7_addFour) := goodIn_app (goodIn_of _ (by decide +kernel)) ggX11_feed_X7_addFour
set_option maxRecDepth 20000 in
theorem ggX11_tape_X7_byteAt : GoodIn wsX11_tape wsX7_byteAt := goodIn_r _ [6, 7, 8, 21, 22] (by decide +kernel) (by decide +kernel)
set_option maxRecDepth 20000 in
theorem gX11_tape_X7_byteAt : GoodIn wsX11_tape (wsV RX11 109 RX7 yX7_byteAt wsX7_byteAt) := goodIn_app (goodIn_of _ (by decide +kernel)) ggX11_tape_X7_byteAt
set_option maxRecDepth 20000 in
theorem ggX11_task_X11_isWeight : GoodIn wsX11_task wsX11_isWeight := goodIn_r _ [8] (by decide +kernel) (by decide +kernel)
set_option maxRecDepth 20000 in
theorem gX11_task_X11_isWeight : GoodIn wsX11_task (va_wsS RX11 112 yX11_isWeight wsX11_isWeight) := goodIn_app (goodIn_of _ (by decide +kernel)) ggX11_task_X11_isWeight
set_option maxRecDepth 20000 in
theorem ggX11_task_X11_isSlice : GoodIn wsX11_task wsX11_isSlice := goodIn_r _ [11] (by decide +kernel) (by decide +kernel)
set_option maxRecDepth 20000 in
theorem gX11_task_X11_isSlice : GoodIn wsX11_task (va_wsS RX11 116 yX11_isSlice wsX11_isSlice) := goodIn_app (goodIn_of _ (by decide +kernel)) ggX11_task_X11_isSlice
set_option maxRecDepth 20000 in
theorem ggX11_task_X4_add : GoodIn wsX11_task wsX4_add := goodIn_r _ [16, 17, 18, 19, 20, 15, 21, 144, 145] (by decide +kernel) (by decide +kernel)
set_option maxRecDepth 20000 in
theorem gX11_task_X4_add : GoodIn wsX11_task (wsV RX11 84 RX4 yX4_add wsX4_add) := goodIn_app (goodIn_of _ (by decide +kernel)) ggX11_task_X4_add
set_option maxRecDepth 20000 in
theorem ggX11_task_X1_keep : GoodIn wsX11_task wsX1_keep := goodIn_r _ [26, 27, 28, 29, 30, 31, 32, 33, 34, 35, 36, 37, 38, 39, 40, 41, 42, 43, 44, 45, 46, 47, 48, 49, 50, 51, 52, 53, 54, 55, 56, 57, 58, 59, 60, 61, 62, 63, 64, 65, 66, 67, 68, 69, 70, 71, 72, 73, 74, 75, 76, 77, 78, 79, 80, 81, 82, 83, 84, 85, 86, 87, 88, 89, 90, 91, 92, 93, 94, 95, 96, 146, 147, 148, 149, 134, 135, 136, 137, 138, 139, 140, 141, 142, 143, 150, 151, 152, 153, 154, 155, 156, 157, 158, 159, 160, 161, 162, 163, 164, 165, 166, 167, 168, 169, 170, 171, 172, 173, 174, 175] (by decide +kernel) (by decide +kernel)
set_option maxRecDepth 20000 in
theorem gX11_task_X1_keep : GoodIn wsX11_task (wsV RX11 122 RX1 yX1_keep wsX1_keep) := goodIn_app (goodIn_of _ (by decide +kernel)) ggX11_task_X1_keep
set_option maxRecDepth 20000 in
theorem ggX11_task_X6_addTask : GoodIn wsX11_task wsX6_addTask := goodIn_r _ [100, 40, 41, 101, 102, 103, 50, 104, 52, 53, 54, 55, 56, 57, 58, 59, 60, 61, 62, 63, 64, 65, 105, 106, 107, 72, 108, 79, 80, 81, 82, 109, 110, 111, 86, 112, 88, 113, 89, 114, 115, 116, 117, 67, 68, 66, 134, 135, 136, 137, 138, 139, 140, 141, 142, 143, 150, 151, 152, 153, 154, 155, 156, 157, 158, 159, 160, 161, 162, 163, 164, 165, 166, 167, 168, 169, 170, 171, 172, 173, 174] (by decide +kernel) (by decide +kernel)
set_option maxRecDepth 20000 in
theorem gX11_task_X6_addTask : GoodIn wsX11_task (wsV RX11 126 RX6 yX6_addTask wsX6_addTask) := goodIn_app (goodIn_of _ (by decide +kernel)) ggX11_task_X6_addTask
set_option maxRecDepth 20000 in
theorem ggX11_task_X4_none : GoodIn wsX11_task wsX4_none := goodIn_r _ [121, 17, 144, 145] (by decide +kernel) (by decide +kernel)
set_option maxRecDepth 20000 in
theorem gX11_task_X4_none : GoodIn wsX11_task (wsV RX11 95 RX4 yX4_none wsX4_none) := goodIn_app (goodIn_of _ (by decide +kernel)) ggX11_task_X4_none
set_option maxRecDepth 20000 in
theorem ggX11_join_X6_has : GoodIn wsX11_join wsX6_has := goodIn_r _ [11, 12, 192, 193, 194, 195, 196, 197, 198, 199, 200, 201] (by decide +kernel) (by decide +kernel)
set_option maxRecDepth 20000 in
theorem gX11_join_X6_has : GoodIn wsX11_join (wsV RX11 130 RX6 yX6_has wsX6_has) := goodIn_app (goodIn_of _ (by decide +kernel)) ggX11_join_X6_has
set_option maxRecDepth 20000 in
theorem ggX11_join_X4_add : GoodIn wsX11_join wsX4_add := goodIn_r _ [17, 18, 19, 20, 21, 16, 22, 220, 221] (by decide +kernel) (by decide +kernel)
set_option maxRecDepth 20000 in
theorem gX11_join_X4_add : GoodIn wsX11_join (wsV RX11 84 RX4 yX4_add wsX4_add) := goodIn_app (goodIn_of _ (by decide +kernel)) ggX11_join_X4_add
set_option maxRecDepth 20000 in
theorem ggX11_leave_X6_has : GoodIn wsX11_leave wsX6_has := goodIn_r _ [11, 12, 152, 153, 154, 155, 156, 157, 158, 159, 160, 161] (by decide +kernel) (by decide +kernel)
set_option maxRecDepth 20000 in
theorem gX11_leave_X6_has : GoodIn wsX11_leave (wsV RX11 130 RX6 yX6_has wsX6_has) := goodIn_app (goodIn_of _ (by decide +kernel)) ggX11_leave_X6_has
set_option maxRecDepth 20000 in
theorem ggX11_leave_X4_add : GoodIn wsX11_leave wsX4_add := goodIn_r _ [17, 18, 19, 20, 21, 16, 22, 180, 181] (by decide +kernel) (by decide +kernel)
set_option maxRecDepth 20000 in
theorem gX11_leave_X4_add : GoodIn wsX11_leave (wsV RX11 84 RX4 yX4_add wsX4_add) := goodIn_app (goodIn_of _ (by decide +kernel)) ggX11_leave_X4_add
set_option maxRecDepth 20000 in
theorem ggX11_weigh_X11_isWeight : GoodIn wsX11_weigh wsX11_isWeight := goodIn_r _ [9] (by decide +kernel) (by decide +kernel)
set_option maxRecDepth 20000 in
theorem gX11_weigh_X11_isWeight : GoodIn wsX11_weigh (va_wsS RX11 112 yX11_isWeight wsX11_isWeight) := goodIn_app (goodIn_of _ (by decide +kernel)) ggX11_weigh_X11_isWeight
set_option maxRecDepth 20000 in
theorem ggX11_weigh_X4_add : GoodIn wsX11_weigh wsX4_add := goodIn_r _ [14, 15, 16, 17, 18, 13, 19, 195, 196] (by decide +kernel) (by decide +kernel)
set_option maxRecDepth 20000 in
theorem gX11_weigh_X4_add : GoodIn wsX11_weigh (wsV RX11 84 RX4 yX4_add wsX4_add) := goodIn_app (goodIn_of _ (by decide +kernel)) ggX11_weigh_X4_add
set_option maxRecDepth 20000 in
theorem ggX11_weigh_X6_has : GoodIn wsX11_weigh wsX6_has := goodIn_r _ [24, 25, 167, 168, 169, 170, 171, 172, 173, 174, 175, 176] (by decide +kernel) (by decide +kernel)
set_option maxRecDepth 20000 in
theorem gX11_weigh_X6_has : GoodIn wsX11_weigh (wsV RX11 130 RX6 yX6_has wsX6_has) := goodIn_app (goodIn_of _ (by decide +kernel)) ggX11_weigh_X6_has
set_option maxRecDepth 20000 in
theorem ggX11_slice_X11_isSlice : GoodIn wsX11_slice wsX11_isSlice := goodIn_r _ [9] (by decide +kernel) (by decide +kernel)
set_option maxRecDepth 20000 in
theorem gX11_slice_X11_isSlice : GoodIn wsX11_slice (va_wsS RX11 116 yX11_isSlice wsX11_isSlice) := goodIn_app (goodIn_of _ (by decide +kernel)) ggX11_slice_X11_isSlice
set_option maxRecDepth 20000 in
theorem ggX11_slice_X4_add : GoodIn wsX11_slice wsX4_add := goodIn_r _ [14, 15, 16, 17, 18, 13, 19, 148, 149] (by decide +kernel) (by decide +kernel)
set_option maxRecDepth 20000 in
theorem gX11_slice_X4_add : GoodIn wsX11_slice (wsV RX11 84 RX4 yX4_add wsX4_add) := goodIn_app (goodIn_of _ (by decide +kernel)) ggX11_slice_X4_add
set_option maxRecDepth 20000 in
theorem ggX11_slice_X6_has : GoodIn wsX11_slice wsX6_has := goodIn_r _ [24, 25, 120, 121, 122, 123, 124, 125, 126, 127, 128, 129] (by decide +kernel) (by decide +kernel)
set_option maxRecDepth 20000 in
theorem gX11_slice_X6_has : GoodIn wsX11_slice (wsV RX11 130 RX6 yX6_has wsX6_has) := goodIn_app (goodIn_of _ (by decide +kernel)) ggX11_slice_X6_has
set_option maxRecDepth 20000 in
theorem ggX11_wish_X4_add : GoodIn wsX11_wish wsX4_add := goodIn_r _ [10, 11, 12, 13, 14, 9, 15, 162, 163] (by decide +kernel) (by decide +kernel)
set_option maxRecDepth 20000 in
theorem gX11_wish_X4_add : GoodIn wsX11_wish (wsV RX11 84 RX4 yX4_add wsX4_add) := goodIn_app (goodIn_of _ (by decide +kernel)) ggX11_wish_X4_add
set_option maxRecDepth 20000 in
theorem ggX11_wish_X6_has : GoodIn wsX11_wish wsX6_has := goodIn_r _ [20, 21, 134, 135, 136, 137, 138, 139, 140, 141, 142, 143] (by decide +kernel) (by decide +kernel)
set_option maxRecDepth 20000 in
theorem gX11_wish_X6_has : GoodIn wsX11_wish (wsV RX11 130 RX6 yX6_has wsX6_has) := goodIn_app (goodIn_of _ (by decide +kernel)) ggX11_wish_X6_has
set_option maxRecDepth 20000 in
theorem ggX11_yields_X6_has : GoodIn wsX11_yields wsX6_has := goodIn_r _ [10, 11, 131, 132, 133, 134, 135, 136, 137, 138, 139, 140] (by decide +kernel) (by decide +kernel)
set_option maxRecDepth 20000 in
theorem gX11_yields_X6_has : GoodIn wsX11_yields (wsV RX11 130 RX6 yX6_has wsX6_has) := goodIn_app (goodIn_of _ (by decide +kernel)) ggX11_yields_X6_has
set_option maxRecDepth 20000 in
theorem ggX11_yields_X4_add : GoodIn wsX11_yields wsX4_add := goodIn_r _ [16, 17, 18, 19, 20, 15, 21, 159, 160] (by decide +kernel) (by decide +kernel)
set_option maxRecDepth 20000 in
theorem gX11_yields_X4_add : GoodIn wsX11_yields (wsV RX11 84 RX4 yX4_add wsX4_add) := goodIn_app (goodIn_of _ (by decide +kernel)) ggX11_yields_X4_add
set_option maxRecDepth 20000 in
theorem ggX11_quota_X4_add : GoodIn wsX11_quota wsX4_add := goodIn_r _ [10, 11, 12, 13, 14, 9, 15, 143, 144] (by decide +kernel) (by decide +kernel)
set_option maxRecDepth 20000 in
theorem gX11_quota_X4_add : GoodIn wsX11_quota (wsV RX11 84 RX4 yX4_add wsX4_add) := goodIn_app (goodIn_of _ (by decide +kernel)) ggX11_quota_X4_add
set_option maxRecDepth 20000 in
theorem ggX11_quota_X6_has : GoodIn wsX11_quota wsX6_has := goodIn_r _ [20, 21, 115, 116, 117, 118, 119, 120, 121, 122, 123, 124] (by decide +kernel) (by decide +kernel)
set_option maxRecDepth 20000 in
theorem gX11_quota_X6_has : GoodIn wsX11_quota (wsV RX11 130 RX6 yX6_has wsX6_has) := goodIn_app (goodIn_of _ (by decide +kernel)) ggX11_quota_X6_has
set_option maxRecDepth 20000 in
theorem ggX11_script_X6_has : GoodIn wsX11_script wsX6_has := goodIn_r _ [17, 18, 361, 362, 363, 364, 365, 366, 367, 368, 369, 370] (by decide +kernel) (by decide +kernel)
set_option maxRecDepth 20000 in
theorem gX11_script_X6_has : GoodIn wsX11_script (wsV RX11 130 RX6 yX6_has wsX6_has) := goodIn_app (goodIn_of _ (by decide +kernel)) ggX11_script_X6_has
set_option maxRecDepth 20000 in
theorem ggX11_script_X4_add : GoodIn wsX11_script wsX4_add := goodIn_r _ [23, 24, 25, 26, 27, 22, 28, 398, 399] (by decide +kernel) (by decide +kernel)
set_option maxRecDepth 20000 in
theorem gX11_script_X4_add : GoodIn wsX11_script (wsV RX11 84 RX4 yX4_add wsX4_add) := goodIn_app (goodIn_of _ (by decide +kernel)) ggX11_script_X4_add
set_option maxRecDepth 20000 in
theorem ggX11_listing_X6_has : GoodIn wsX11_listing wsX6_has := goodIn_r _ [11, 12, 126, 127, 128, 129, 130, 131, 132, 133, 134, 135] (by decide +kernel) (by decide +kernel)
set_option maxRecDepth 20000 in
theorem gX11_listing_X6_has : GoodIn wsX11_listing (wsV RX11 130 RX6 yX6_has wsX6_has) := goodIn_app (goodIn_of _ (by decide +kernel)) ggX11_listing_X6_has
set_option maxRecDepth 20000 in
theorem ggX11_listing_X4_add : GoodIn wsX11_listing wsX4_add := goodIn_r _ [17, 18, 19, 20, 21, 16, 22, 156, 157] (by decide +kernel) (by decide +kernel)
set_option maxRecDepth 20000 in
theorem gX11_listing_X4_add : GoodIn wsX11_listing (wsV RX11 84 RX4 yX4_add wsX4_add) := goodIn_app (goodIn_of _ (by decide +kernel)) ggX11_listing_X4_add
set_option maxRecDepth 20000 in
theorem ggX11_ticks_X4_add : GoodIn wsX11_ticks wsX4_add := goodIn_r _ [10, 11, 12, 13, 14, 9, 15, 369, 370] (by decide +kernel) (by decide +kernel)
set_option maxRecDepth 20000 in
theorem gX11_ticks_X4_add : GoodIn wsX11_ticks (wsV RX11 84 RX4 yX4_add wsX4_add) := goodIn_app (goodIn_of _ (by decide +kernel)) ggX11_ticks_X4_add
set_option maxRecDepth 20000 in
theorem ggX11_ticks_X1_keep : GoodIn wsX11_ticks wsX1_keep := goodIn_r _ [20, 21, 22, 23, 24, 25, 26, 27, 28, 29, 30, 31, 32, 33, 34, 35, 36, 37, 38, 39, 40, 41, 42, 43, 44, 45, 46, 47, 48, 49, 50, 51, 52, 53, 54, 55, 56, 57, 58, 59, 60, 61, 62, 63, 64, 65, 66, 67, 68, 69, 70, 71, 72, 73, 74, 75, 76, 77, 78, 79, 80, 81, 82, 83, 84, 85, 86, 87, 88, 89, 90, 371, 372, 373, 374, 359, 360, 361, 362, 363, 364, 365, 366, 367, 368, 375, 376, 377, 378, 379, 380, 381, 382, 383, 384, 385, 386, 387, 388, 389, 390, 391, 392, 393, 394, 395, 396, 397, 398, 399, 400] (by decide +kernel) (by decide +kernel)
set_option maxRecDepth 20000 in
theorem gX11_ticks_X1_keep : GoodIn wsX11_ticks (wsV RX11 122 RX1 yX1_keep wsX1_keep) := goodIn_app (goodIn_of _ (by decide +kernel)) ggX11_ticks_X1_keep
set_option maxRecDepth 20000 in
theorem ggX11_ticks_X6_tick : GoodIn wsX11_ticks wsX6_tick := goodIn_r _ [94, 34, 35, 37, 36, 40, 95, 96, 97, 44, 98, 61, 62, 60, 99, 100, 101, 32, 102, 103, 104, 105, 106, 107, 108, 109, 110, 111, 112, 113, 114, 115, 116, 117, 118, 119, 120, 121, 122, 123, 124, 125, 126, 127, 128, 129, 130, 131, 132, 133, 134, 135, 136, 38, 137, 138, 139, 80, 140, 82, 141, 83, 142, 143, 144, 145, 146, 147, 148, 149, 52, 48, 150, 53, 77, 78, 79, 81, 151, 152, 153, 154, 155, 156, 157, 158, 159, 160, 161, 162, 163, 164, 165, 166, 167, 168, 169, 170, 171, 172, 173, 174, 175, 176, 177, 178, 179, 180, 181, 182, 183, 184, 185, 186, 187, 188, 189, 190, 191, 192, 66, 193, 74, 73, 194, 195, 196, 197, 68, 198, 199, 200, 201, 202, 203, 204, 205, 206, 207, 208, 209, 210, 211, 212, 213, 214, 215, 216, 217, 218, 219, 49, 220, 221, 222, 223, 224, 225, 226, 227, 51, 228, 26, 27, 28, 229, 230, 231, 232, 76, 233, 234, 235, 236, 237, 238, 75, 239, 240, 241, 242, 243, 244, 245, 246, 247, 248, 249, 250, 251, 252, 253, 254, 255, 256, 257, 258, 259, 260, 261, 262, 263, 264, 265, 266, 267, 268, 50, 269, 270, 271, 272, 273, 47, 274, 275, 276, 277, 278, 279, 280, 281, 39, 282, 283, 284, 285, 286, 287, 288, 289, 290, 291, 292, 293, 294, 295, 296, 297, 298, 299, 300, 87, 301, 302, 303, 304, 305, 89, 306, 307, 308, 309, 310, 311, 312, 313, 314, 315, 316, 317, 318, 319, 320, 57, 58, 321, 322, 323, 324, 325, 326, 327, 328, 329, 330, 331, 332, 333, 334, 335, 336, 337, 338, 339, 340, 341, 342, 359, 360, 361, 362, 363, 364, 365, 366, 367, 368, 375, 376, 377, 378, 379, 380, 381, 382, 383, 384, 385, 386, 387, 388, 389, 390, 391, 392, 393, 394, 395, 396, 397, 401, 402, 403, 398, 399, 404, 405, 406, 400] (by decide +kernel) (by decide +kernel)
set_option maxRecDepth 20000 in
theorem gX11_ticks_X6_tick : GoodIn wsX11_ticks (wsV RX11 226 RX6 yX6_tick wsX6_tick) := goodIn_app (goodIn_of _ (by decide +kernel)) ggX11_ticks_X6_tick
set_option maxRecDepth 20000 in
theorem ggX11_ticks_X4_none : GoodIn wsX11_ticks wsX4_none := goodIn_r _ [346, 11, 369, 370] (by decide +kernel) (by decide +kernel)
set_option maxRecDepth 20000 in
theorem gX11_ticks_X4_none : GoodIn wsX11_ticks (wsV RX11 95 RX4 yX4_none wsX4_none) := goodIn_app (goodIn_of _ (by decide +kernel)) ggX11_ticks_X4_none
set_option maxRecDepth 20000 in
theorem ggX11_undo_X4_add : GoodIn wsX11_undo wsX4_add := goodIn_r _ [9, 10, 11, 12, 13, 8, 14, 106, 107] (by decide +kernel) (by decide +kernel)
set_option maxRecDepth 20000 in
theorem gX11_undo_X4_add : GoodIn wsX11_undo (wsV RX11 84 RX4 yX4_add wsX4_add) := goodIn_app (goodIn_of _ (by decide +kernel)) ggX11_undo_X4_add
set_option maxRecDepth 20000 in
theorem ggX11_image_X11_isImage : GoodIn wsX11_image wsX11_isImage := goodIn_r _ [9] (by decide +kernel) (by decide +kernel)
set_option maxRecDepth 20000 in
theorem gX11_image_X11_isImage : GoodIn wsX11_image (va_wsS RX11 235 yX11_isImage wsX11_isImage) := goodIn_app (goodIn_of _ (by decide +kernel)) ggX11_image_X11_isImage
set_option maxRecDepth 20000 in
theorem ggX11_image_X4_add : GoodIn wsX11_image wsX4_add := goodIn_r _ [14, 15, 16, 17, 18, 13, 19, 108, 109] (by decide +kernel) (by decide +kernel)
set_option maxRecDepth 20000 in
theorem gX11_image_X4_add : GoodIn wsX11_image (wsV RX11 84 RX4 yX4_add wsX4_add) := goodIn_app (goodIn_of _ (by decide +kernel)) ggX11_image_X4_add
set_option maxRecDepth 20000 in
theorem ggX11_image_X6_copy : GoodIn wsX11_image wsX6_copy := goodIn_r _ [24, 25, 26, 27, 28, 29, 30, 31, 32, 33, 34, 35, 36, 37, 38, 39, 40, 41, 42, 43, 44, 45, 46, 47, 48, 49, 50, 51, 52, 53, 54, 55, 56, 57, 58, 59, 60, 61, 62, 63, 64, 65, 66, 67, 68, 69, 70, 71, 72, 73, 74, 75, 76, 77, 78, 79, 80, 81, 98, 99, 100, 101, 102, 103, 104, 105, 106, 107, 110, 111, 112, 113, 114, 115, 116, 117, 118, 119, 120, 121, 122, 123, 124, 125, 126, 127, 128, 129, 130, 131, 132, 133, 134, 135] (by decide +kernel) (by decide +kernel)
set_option maxRecDepth 20000 in
theorem gX11_image_X6_copy : GoodIn wsX11_image (wsV RX11 238 RX6 yX6_copy wsX6_copy) := goodIn_app (goodIn_of _ (by decide +kernel)) ggX11_image_X6_copy
set_option maxRecDepth 20000 in
theorem ggX11_image_X4_none : GoodIn wsX11_image wsX4_none := goodIn_r _ [85, 15, 108, 109] (by decide +kernel) (by decide +kernel)
set_option maxRecDepth 20000 in
theorem gX11_image_X4_none : GoodIn wsX11_image (wsV RX11 95 RX4 yX4_none wsX4_none) := goodIn_app (goodIn_of _ (by decide +kernel)) ggX11_image_X4_none
set_option maxRecDepth 20000 in
theorem ggX11_back_X11_isImage : GoodIn wsX11_back wsX11_isImage := goodIn_r _ [11] (by decide +kernel) (by decide +kernel)
set_option maxRecDepth 20000 in
theorem gX11_back_X11_isImage : GoodIn wsX11_back (va_wsS RX11 235 yX11_isImage wsX11_isImage) := goodIn_app (goodIn_of _ (by decide +kernel)) ggX11_back_X11_isImage
set_option maxRecDepth 20000 in
theorem ggX11_back_X4_add : GoodIn wsX11_back wsX4_add := goodIn_r _ [16, 17, 18, 19, 20, 15, 21, 114, 115] (by decide +kernel) (by decide +kernel)
set_option maxRecDepth 20000 in
theorem gX11_back_X4_add : GoodIn wsX11_back (wsV RX11 84 RX4 yX4_add wsX4_add) := goodIn_app (goodIn_of _ (by decide +kernel)) ggX11_back_X4_add
set_option maxRecDepth 20000 in
theorem ggX11_of_X6_has : GoodIn wsX11_of wsX6_has := goodIn_r _ [7, 8, 62, 63, 64, 65, 66, 67, 68, 69, 70, 71] (by decide +kernel) (by decide +kernel)
set_option maxRecDepth 20000 in
theorem gX11_of_X6_has : GoodIn wsX11_of (wsV RX11 130 RX6 yX6_has wsX6_has) := goodIn_app (goodIn_of _ (by decide +kernel)) ggX11_of_X6_has
set_option maxRecDepth 20000 in
theorem ggX11_exact_X6_has : GoodIn wsX11_exact wsX6_has := goodIn_r _ [10, 11, 75, 76, 77, 78, 79, 80, 81, 82, 83, 84] (by decide +kernel) (by decide +kernel)
set_option maxRecDepth 20000 in
theorem gX11_exact_X6_has : GoodIn wsX11_exact (wsV RX11 130 RX6 yX6_has wsX6_has) := goodIn_app (goodIn_of _ (by decide +kernel)) ggX11_exact_X6_has
set_option maxRecDepth 20000 in
theorem ggX11_time_X6_wholeV : GoodIn wsX11_time wsX6_wholeV := goodIn_r _ [8, 9, 10, 11, 12, 7, 13, 14, 15, 16, 17, 18, 19, 20, 21, 22, 23, 24, 25, 26, 27, 28, 29, 30, 31, 32, 33, 34, 35, 36, 37, 38, 39, 40, 41, 42, 43, 44, 45, 46, 71, 72, 73, 74, 75, 76, 77, 78, 79, 80, 81, 82, 83, 84, 85, 86, 87, 88, 89, 90, 91, 92, 93, 94, 95, 96, 97, 98, 99, 100] (by decide +kernel) (by decide +kernel)
set_option maxRecDepth 20000 in
theorem gX11_time_X6_wholeV : GoodIn wsX11_time (wsV RX11 268 RX6 yX6_wholeV wsX6_wholeV) := goodIn_app (goodIn_of _ (by decide +kernel)) ggX11_time_X6_wholeV
set_option maxRecDepth 20000 in
theorem ggX11_time_X6_restOfV : GoodIn wsX11_time wsX6_restOfV := goodIn_r _ [50, 9, 10, 11, 12, 7, 13, 14, 15, 16, 17, 18, 19, 20, 21, 22, 23, 24, 25, 26, 27, 28, 29, 30, 31, 51, 52, 53, 54, 36, 37, 38, 39, 71, 72, 73, 74, 75, 76, 77, 78, 79, 80, 81, 82, 83, 84, 85, 86, 87, 88, 89, 90, 91, 92, 93, 94, 95, 96, 97, 98, 99, 100] (by decide +kernel) (by decide +kernel)
set_option maxRecDepth 20000 in
theorem gX11_time_X6_restOfV : GoodIn wsX11_time (wsV RX11 271 RX6 yX6_restOfV wsX6_restOfV) := goodIn_app (goodIn_of _ (by decide +kernel)) ggX11_time_X6_restOfV
set_option maxRecDepth 20000 in
theorem ggX11_time_X6_weightOfAll : GoodIn wsX11_time wsX6_weightOfAll := goodIn_r _ [58, 14, 15, 16, 17, 71, 72, 73, 74, 75, 76, 77, 78, 79, 80, 81, 82, 83, 84, 85, 86, 87, 88, 89, 90, 91, 92, 93, 94, 95, 96, 97, 98] (by decide +kernel) (by decide +kernel)
set_option maxRecDepth 20000 in
theorem gX11_time_X6_weightOfAll : GoodIn wsX11_time (wsV RX11 155 RX6 yX6_weightOfAll wsX6_weightOfAll) := goodIn_app (goodIn_of _ (by decide +kernel)) ggX11_time_X6_weightOfAll
set_option maxRecDepth 20000 in
theorem ggX11_eligible_X6_eligibleBits : GoodIn wsX11_eligible wsX6_eligibleBits := goodIn_r _ [6, 7, 8, 9, 10, 11, 12, 5, 13, 14, 15, 16, 17, 18, 19, 20, 21, 22, 23, 24, 25, 26, 27, 28, 29, 30, 31, 32, 33, 34, 35, 36, 37, 38, 39, 40, 41, 42, 43, 44, 45, 46, 47, 48, 49, 50, 51, 52, 53, 54, 67, 68, 69, 70, 71, 72, 73, 74, 75, 76, 77, 78, 79, 80, 81, 82, 83, 84, 85, 86, 87, 88, 89, 90, 91, 92, 93, 94, 95, 96] (by decide +kernel) (by decide +kernel)
set_option maxRecDepth 20000 in
theorem gX11_eligible_X6_eligibleBits : GoodIn wsX11_eligible (wsV RX11 274 RX6 yX6_eligibleBits wsX6_eligibleBits) := goodIn_app (goodIn_of _ (by decide +kernel)) ggX11_eligible_X6_eligibleBits
set_option maxRecDepth 20000 in
theorem ggX11_earliest_X6_eligibleAt : GoodIn wsX11_earliest wsX6_eligibleAt := goodIn_r _ [6, 7, 8, 9, 10, 11, 5, 12, 13, 14, 15, 16, 17, 18, 19, 20, 21, 22, 23, 24, 25, 26, 27, 28, 29, 30, 31, 32, 33, 34, 35, 36, 37, 38, 39, 40, 41, 42, 43, 44, 45, 46, 47, 48, 49, 50, 51, 52, 53, 54, 55, 56, 57, 58, 59, 60, 61, 62, 63, 64, 65, 66, 67, 68, 69, 70, 71, 72, 73, 74, 75, 76, 77, 78, 91, 92, 93, 94, 95, 96, 97, 98, 99, 100, 101, 102, 103, 104, 105, 106, 107, 108, 109, 110, 111, 112, 113, 114, 115, 116, 117, 118, 119, 120] (by decide +kernel) (by decide +kernel)
set_option maxRecDepth 20000 in
theorem gX11_earliest_X6_eligibleAt : GoodIn wsX11_earliest (wsV RX11 277 RX6 yX6_eligibleAt wsX6_eligibleAt) := goodIn_app (goodIn_of _ (by decide +kernel)) ggX11_earliest_X6_eligibleAt
set_option maxRecDepth 20000 in
theorem ggX11_rank_X6_has : GoodIn wsX11_rank wsX6_has := goodIn_r _ [7, 8, 35, 36, 37, 38, 39, 40, 41, 42, 43, 44] (by decide +kernel) (by decide +kernel)
set_option maxRecDepth 20000 in
theorem gX11_rank_X6_has : GoodIn wsX11_rank (wsV RX11 130 RX6 yX6_has wsX6_has) := goodIn_app (goodIn_of _ (by decide +kernel)) ggX11_rank_X6_has
set_option maxRecDepth 20000 in
theorem ggX11_ran_X6_logHolds : GoodIn wsX11_ran wsX6_logHolds := goodIn_r _ [7, 8, 9, 10, 11, 6, 12, 13, 14, 15, 16, 35, 36, 37, 38, 39, 40, 41, 42, 43, 44] (by decide +kernel) (by decide +kernel)
set_option maxRecDepth 20000 in
theorem gX11_ran_X6_logHolds : GoodIn wsX11_ran (wsV RX11 284 RX6 yX6_logHolds wsX6_logHolds) := goodIn_app (goodIn_of _ (by decide +kernel)) ggX11_ran_X6_logHolds
set_option maxRecDepth 20000 in
theorem ggX11_service_X6_has : GoodIn wsX11_service wsX6_has := goodIn_r _ [7, 8, 44, 45, 46, 47, 48, 49, 50, 51, 52, 53] (by decide +kernel) (by decide +kernel)
set_option maxRecDepth 20000 in
theorem gX11_service_X6_has : GoodIn wsX11_service (wsV RX11 130 RX6 yX6_has wsX6_has) := goodIn_app (goodIn_of _ (by decide +kernel)) ggX11_service_X6_has
set_option maxRecDepth 20000 in
theorem ggX11_share_X6_has : GoodIn wsX11_share wsX6_has := goodIn_r _ [8, 9, 53, 54, 55, 56, 57, 58, 59, 60, 61, 62] (by decide +kernel) (by decide +kernel)
set_option maxRecDepth 20000 in
theorem gX11_share_X6_has : GoodIn wsX11_share (wsV RX11 130 RX6 yX6_has wsX6_has) := goodIn_app (goodIn_of _ (by decide +kernel)) ggX11_share_X6_has
set_option maxRecDepth 20000 in
theorem ggX11_worst_X6_has : GoodIn wsX11_worst wsX6_has := goodIn_r _ [9, 10, 59, 60, 61, 62, 63, 64, 65, 66, 67, 68] (by decide +kernel) (by decide +kernel)
set_option maxRecDepth 20000 in
theorem gX11_worst_X6_has : GoodIn wsX11_worst (wsV RX11 130 RX6 yX6_has wsX6_has) := goodIn_app (goodIn_of _ (by decide +kernel)) ggX11_worst_X6_has
set_option maxRecDepth 20000 in
theorem ggX11_ahead_X11_canTick : GoodIn wsX11_ahead wsX11_canTick := goodIn_r _ [8, 2, 9, 326, 327, 328, 329, 330, 331, 332, 333, 334, 335, 336, 337, 338, 339, 340, 341, 342, 343, 344, 345, 346, 347] (by decide +kernel) (by decide +kernel)
set_option maxRecDepth 20000 in
theorem gX11_ahead_X11_canTick : GoodIn wsX11_ahead (wsV RX11 314 RX11 yX11_canTick wsX11_canTick) := goodIn_app (goodIn_of _ (by decide +kernel)) ggX11_ahead_X11_canTick
set_option maxRecDepth 20000 in
theorem ggX11_ahead_X6_copy : GoodIn wsX11_ahead wsX6_copy := goodIn_r _ [14, 15, 16, 17, 18, 19, 20, 21, 22, 23, 24, 25, 26, 27, 28, 29, 30, 31, 32, 33, 34, 35, 36, 37, 38, 39, 40, 41, 42, 43, 44, 45, 46, 47, 48, 49, 50, 51, 52, 53, 54, 55, 56, 57, 58, 59, 60, 61, 62, 63, 64, 65, 66, 67, 68, 69, 70, 71, 338, 339, 340, 341, 342, 343, 344, 345, 346, 347, 348, 349, 350, 351, 352, 353, 354, 355, 356, 357, 358, 359, 360, 361, 362, 363, 364, 365, 366, 367, 368, 369, 370, 371, 372, 373] (by decide +kernel) (by decide +kernel)
set_option maxRecDepth 20000 in
theorem gX11_ahead_X6_copy : GoodIn wsX11_ahead (wsV RX11 238 RX6 yX6_copy wsX6_copy) := goodIn_app (goodIn_of _ (by decide +kernel)) ggX11_ahead_X6_copy
set_option maxRecDepth 20000 in
theorem ggX11_ahead_X6_tick : GoodIn wsX11_ahead wsX6_tick := goodIn_r _ [75, 15, 16, 18, 17, 21, 76, 77, 78, 25, 79, 42, 43, 41, 80, 81, 82, 13, 83, 84, 85, 86, 87, 88, 89, 90, 91, 92, 93, 94, 95, 96, 97, 98, 99, 100, 101, 102, 103, 104, 105, 106, 107, 108, 109, 110, 111, 112, 113, 114, 115, 116, 117, 19, 118, 119, 120, 61, 121, 63, 122, 64, 123, 124, 125, 126, 127, 128, 129, 130, 33, 29, 131, 34, 58, 59, 60, 62, 132, 133, 134, 135, 136, 137, 138, 139, 140, 141, 142, 143, 144, 145, 146, 147, 148, 149, 150, 151, 152, 153, 154, 155, 156, 157, 158, 159, 160, 161, 162, 163, 164, 165, 166, 167, 168, 169, 170, 171, 172, 173, 47, 174, 55, 54, 175, 176, 177, 178, 49, 179, 180, 181, 182, 183, 184, 185, 186, 187, 188, 189, 190, 191, 192, 193, 194, 195, 196, 197, 198, 199, 200, 30, 201, 202, 203, 204, 205, 206, 207, 208, 32, 209, 210, 211, 212, 213, 214, 215, 216, 57, 217, 218, 219, 220, 221, 222, 56, 223, 224, 225, 226, 227, 228, 229, 230, 231, 232, 233, 234, 235, 236, 237, 238, 239, 240, 241, 242, 243, 244, 245, 246, 247, 248, 249, 250, 251, 252, 31, 253, 254, 255, 256, 257, 28, 258, 7, 259, 260, 261, 262, 263, 264, 20, 265, 266, 267, 268, 269, 270, 271, 272, 273, 274, 275, 276, 277, 278, 279, 280, 281, 282, 283, 68, 284, 285, 286, 287, 288, 70, 289, 290, 291, 292, 293, 294, 295, 296, 297, 298, 299, 300, 301, 302, 303, 38, 39, 304, 305, 306, 307, 308, 309, 310, 311, 312, 313, 314, 315, 316, 317, 318, 319, 320, 321, 322, 323, 324, 325, 338, 339, 340, 341, 342, 343, 344, 345, 346, 347, 348, 349, 350, 351, 352, 353, 354, 355, 356, 357, 358, 359, 360, 361, 362, 363, 364, 365, 366, 367, 368, 369, 370, 374, 375, 376, 371, 372, 377, 378, 379, 373] (by decide +kernel) (by decide +kernel)
set_option maxRecDepth 20000 in
theorem gX11_ahead_X6_tick : GoodIn wsX11_ahead (wsV RX11 226 RX6 yX6_tick wsX6_tick) := goodIn_app (goodIn_of _ (by decide +kernel)) ggX11_ahead_X6_tick
set_option maxRecDepth 20000 in
theorem ggX11_finish_X6_has : GoodIn wsX11_finish wsX6_has := goodIn_r _ [11, 12, 338, 339, 340, 341, 342, 343, 344, 345, 346, 347] (by decide +kernel) (by decide +kernel)
set_option maxRecDepth 20000 in
theorem gX11_finish_X6_has : GoodIn wsX11_finish (wsV RX11 130 RX6 yX6_has wsX6_has) := goodIn_app (goodIn_of _ (by decide +kernel)) ggX11_finish_X6_has
set_option maxRecDepth 20000 in
theorem ggX11_due_X6_has : GoodIn wsX11_due wsX6_has := goodIn_r _ [11, 12, 337, 338, 339, 340, 341, 342, 343, 344, 345, 346] (by decide +kernel) (by decide +kernel)
set_option maxRecDepth 20000 in
theorem gX11_due_X6_has : GoodIn wsX11_due (wsV RX11 130 RX6 yX6_has wsX6_has) := goodIn_app (goodIn_of _ (by decide +kernel)) ggX11_due_X6_has
set_option maxRecDepth 20000 in
theorem ggX11_least_X6_has : GoodIn wsX11_least wsX6_has := goodIn_r _ [7, 8, 347, 348, 349, 350, 351, 352, 353, 354, 355, 356] (by decide +kernel) (by decide +kernel)
set_option maxRecDepth 20000 in
theorem gX11_least_X6_has : GoodIn wsX11_least (wsV RX11 130 RX6 yX6_has wsX6_has) := goodIn_app (goodIn_of _ (by decide +kernel)) ggX11_least_X6_has
set_option maxRecDepth 20000 in
theorem ggX11_would_X11_canTick : GoodIn wsX11_would wsX11_canTick := goodIn_r _ [10, 3, 11, 345, 346, 347, 348, 349, 350, 351, 352, 353, 354, 355, 356, 357, 358, 359, 360, 361, 362, 363, 364, 365, 366] (by decide +kernel) (by decide +kernel)
set_option maxRecDepth 20000 in
theorem gX11_would_X11_canTick : GoodIn wsX11_would (wsV RX11 314 RX11 yX11_canTick wsX11_canTick) := goodIn_app (goodIn_of _ (by decide +kernel)) ggX11_would_X11_canTick
set_option maxRecDepth 20000 in
theorem ggX11_would_X6_copy : GoodIn wsX11_would wsX6_copy := goodIn_r _ [16, 17, 18, 19, 20, 21, 22, 23, 24, 25, 26, 27, 28, 29, 30, 31, 32, 33, 34, 35, 36, 37, 38, 39, 40, 41, 42, 43, 44, 45, 46, 47, 48, 49, 50, 51, 52, 53, 54, 55, 56, 57, 58, 59, 60, 61, 62, 63, 64, 65, 66, 67, 68, 69, 70, 71, 72, 73, 357, 358, 359, 360, 361, 362, 363, 364, 365, 366, 367, 368, 369, 370, 371, 372, 373, 374, 375, 376, 377, 378, 379, 380, 381, 382, 383, 384, 385, 386, 387, 388, 389, 390, 391, 392] (by decide +kernel) (by decide +kernel)
set_option maxRecDepth 20000 in
theorem gX11_would_X6_copy : GoodIn wsX11_would (wsV RX11 238 RX6 yX6_copy wsX6_copy) := goodIn_app (goodIn_of _ (by decide +kernel)) ggX11_would_X6_copy
set_option maxRecDepth 20000 in
theorem ggX11_would_X0_start : GoodIn wsX11_would wsX0_start := goodIn_r _ [78, 79, 80, 81, 82, 393, 394, 395, 396, 397, 398] (by decide +kernel) (by decide +kernel)
set_option maxRecDepth 20000 in
theorem gX11_would_X0_start : GoodIn wsX11_would (wsV RX11 326 RX0 yX0_start wsX0_start) := goodIn_app (goodIn_of _ (by decide +kernel)) ggX11_would_X0_start
set_option maxRecDepth 20000 in
theorem ggX11_would_X6_tick : GoodIn wsX11_would wsX6_tick := goodIn_r _ [86, 17, 18, 20, 19, 23, 87, 88, 89, 27, 90, 44, 45, 43, 91, 92, 93, 15, 94, 95, 96, 97, 98, 99, 100, 101, 102, 103, 104, 105, 106, 107, 108, 109, 110, 111, 112, 113, 114, 115, 116, 117, 118, 119, 120, 121, 122, 123, 124, 125, 126, 127, 128, 21, 129, 130, 131, 63, 132, 65, 133, 66, 134, 135, 136, 137, 138, 139, 140, 141, 35, 31, 142, 36, 60, 61, 62, 64, 143, 144, 145, 146, 147, 148, 149, 150, 151, 152, 153, 154, 155, 156, 157, 158, 159, 160, 161, 162, 163, 164, 165, 166, 167, 168, 169, 170, 171, 172, 173, 174, 175, 176, 177, 178, 179, 180, 181, 182, 183, 184, 49, 185, 57, 56, 186, 187, 188, 189, 51, 190, 191, 192, 193, 194, 195, 196, 197, 198, 199, 200, 201, 202, 203, 204, 205, 206, 207, 208, 209, 210, 211, 32, 212, 213, 214, 215, 216, 217, 218, 219, 34, 220, 221, 222, 223, 224, 225, 226, 227, 59, 228, 229, 230, 231, 232, 233, 58, 234, 235, 236, 77, 237, 79, 80, 238, 239, 240, 241, 242, 243, 244, 245, 246, 247, 248, 249, 250, 251, 252, 253, 254, 255, 256, 257, 258, 259, 260, 33, 261, 262, 263, 264, 265, 30, 266, 9, 267, 268, 269, 270, 271, 272, 22, 273, 274, 275, 276, 277, 82, 278, 279, 280, 281, 282, 283, 284, 285, 286, 287, 288, 289, 290, 70, 291, 292, 293, 294, 295, 72, 296, 297, 298, 299, 300, 301, 302, 303, 304, 305, 306, 307, 308, 309, 310, 40, 41, 311, 312, 313, 314, 315, 316, 317, 318, 319, 320, 321, 322, 323, 324, 325, 326, 327, 328, 329, 330, 331, 332, 357, 358, 359, 360, 361, 362, 363, 364, 365, 366, 367, 368, 369, 370, 371, 372, 373, 374, 375, 376, 377, 378, 379, 380, 381, 382, 383, 384, 385, 386, 387, 388, 389, 396, 397, 398, 390, 391, 393, 394, 395, 392] (by decide +kernel) (by decide +kernel)
set_option maxRecDepth 20000 in
theorem gX11_would_X6_tick : GoodIn wsX11_would (wsV RX11 226 RX6 yX6_tick wsX6_tick) := goodIn_app (goodIn_of _ (by decide +kernel)) ggX11_would_X6_tick
set_option maxRecDepth 20000 in
theorem ggX11_would_X6_lagEdge : GoodIn wsX11_would wsX6_lagEdge := goodIn_r _ [336, 17, 18, 119, 337, 338, 339, 340, 222, 341, 342, 343, 344, 108, 109, 110, 15, 111, 95, 96, 208, 209, 210, 27, 211, 32, 200, 201, 202, 203, 121, 129, 130, 131, 63, 132, 65, 133, 66, 134, 135, 136, 137, 154, 155, 156, 157, 162, 163, 164, 165, 166, 167, 168, 169, 170, 171, 172, 173, 174, 175, 176, 357, 358, 359, 360, 361, 362, 363, 364, 365, 366, 367, 368, 369, 370, 371, 372, 373, 374, 375, 376, 377, 378, 379, 380, 381, 382, 383, 384, 390, 391] (by decide +kernel) (by decide +kernel)
set_option maxRecDepth 20000 in
theorem gX11_would_X6_lagEdge : GoodIn wsX11_would (wsV RX11 332 RX6 yX6_lagEdge wsX6_lagEdge) := goodIn_app (goodIn_of _ (by decide +kernel)) ggX11_would_X6_lagEdge
set_option maxRecDepth 20000 in
theorem ggX11_count_X6_howManyAre : GoodIn wsX11_count wsX6_howManyAre := goodIn_r _ [18, 19, 20, 21, 63, 64, 65, 66, 67, 68, 69, 70, 71, 72, 82, 83, 84, 85, 86, 87, 88, 89, 90, 91, 92, 93, 94, 95, 96, 97, 98, 99] (by decide +kernel) (by decide +kernel)
set_option maxRecDepth 20000 in
theorem gX11_count_X6_howManyAre : GoodIn wsX11_count (wsV RX11 336 RX6 yX6_howManyAre wsX6_howManyAre) := goodIn_app (goodIn_of _ (by decide +kernel)) ggX11_count_X6_howManyAre
set_option maxRecDepth 20000 in
theorem ggX11_count_X6_howManyHaveScripts : GoodIn wsX11_count wsX6_howManyHaveScripts := goodIn_r _ [25, 19, 20, 26, 27, 28, 29, 30, 31, 32, 63, 64, 65, 66, 67, 68, 69, 70, 71, 72, 82, 83, 84, 85, 86, 87, 88, 89, 90, 91, 92, 93, 94, 95, 96, 97, 98, 99, 100, 101, 102, 103, 104] (by decide +kernel) (by decide +kernel)
set_option maxRecDepth 20000 in
theorem gX11_count_X6_howManyHaveScripts : GoodIn wsX11_count (wsV RX11 339 RX6 yX6_howManyHaveScripts wsX6_howManyHaveScripts) := goodIn_app (goodIn_of _ (by decide +kernel)) ggX11_count_X6_howManyHaveScripts
set_option maxRecDepth 20000 in
theorem ggX11_count_X6_firstInLog : GoodIn wsX11_count wsX6_firstInLog := goodIn_r _ [36, 37, 38, 39, 40, 41, 63, 64, 65, 66, 67, 68, 69, 70, 71, 72] (by decide +kernel) (by decide +kernel)
set_option maxRecDepth 20000 in
theorem gX11_count_X6_firstInLog : GoodIn wsX11_count (wsV RX11 307 RX6 yX6_firstInLog wsX6_firstInLog) := goodIn_app (goodIn_of _ (by decide +kernel)) ggX11_count_X6_firstInLog
set_option maxRecDepth 20000 in
theorem ggX11_count_X4_countOf : GoodIn wsX11_count wsX4_countOf := goodIn_r _ [46, 47, 48, 49, 45, 50, 105, 106] (by decide +kernel) (by decide +kernel)
set_option maxRecDepth 20000 in
theorem gX11_count_X4_countOf : GoodIn wsX11_count (wsV RX11 342 RX4 yX4_countOf wsX4_countOf) := goodIn_app (goodIn_of _ (by decide +kernel)) ggX11_count_X4_countOf
set_option maxRecDepth 20000 in
theorem ggX12_undo_X12_refuse : GoodIn wsX12_undo wsX12_refuse := goodIn_r _ [10, 11, 12, 17, 18, 19, 20, 21, 22, 23, 24, 25, 26, 27, 28, 29, 30, 31, 32, 33, 34, 35, 36, 37, 38, 39, 40, 41, 42, 43] (by decide +kernel) (by decide +kernel)
set_option maxRecDepth 20000 in
theorem gX12_undo_X12_refuse : GoodIn wsX12_undo (wsV RX12 76 RX12 yX12_refuse wsX12_refuse) := goodIn_app (goodIn_of _ (by decide +kernel)) ggX12_undo_X12_refuse
set_option maxRecDepth 20000 in
theorem ggX12_isTask_X12_in : GoodIn wsX12_isTask wsX12_in := goodIn_r _ [5] (by decide +kernel) (by decide +kernel)
set_option maxRecDepth 20000 in
theorem gX12_isTask_X12_in : GoodIn wsX12_isTask (va_wsS RX12 83 yX12_in wsX12_in) := goodIn_app (goodIn_of _ (by decide +kernel)) ggX12_isTask_X12_in
set_option maxRecDepth 20000 in
theorem ggX12_terms_X12_in : GoodIn wsX12_terms wsX12_in := goodIn_r _ [9] (by decide +kernel) (by decide +kernel)
set_option maxRecDepth 20000 in
theorem gX12_terms_X12_in : GoodIn wsX12_terms (va_wsS RX12 83 yX12_in wsX12_in) := goodIn_app (goodIn_of _ (by decide +kernel)) ggX12_terms_X12_in
set_option maxRecDepth 20000 in
theorem ggX12_terms_X12_refuse : GoodIn wsX12_terms wsX12_refuse := goodIn_r _ [13, 14, 15, 20, 21, 22, 23, 24, 25, 26, 27, 28, 29, 30, 31, 32, 33, 34, 35, 36, 37, 38, 39, 40, 41, 42, 43, 44, 45, 46] (by decide +kernel) (by decide +kernel)
set_option maxRecDepth 20000 in
theorem gX12_terms_X12_refuse : GoodIn wsX12_terms (wsV RX12 76 RX12 yX12_refuse wsX12_refuse) := goodIn_app (goodIn_of _ (by decide +kernel)) ggX12_terms_X12_refuse
set_option maxRecDepth 20000 in
theorem ggX12_terms_X12_tell : GoodIn wsX12_terms wsX12_tell := goodIn_r _ [19, 14, 20, 21, 22, 23, 24, 25, 26, 27, 28, 29, 30, 31, 32, 33, 34, 35, 36, 37, 38, 39, 40, 41, 42, 43, 44, 45, 46] (by decide +kernel) (by decide +kernel)
set_option maxRecDepth 20000 in
theorem gX12_terms_X12_tell : GoodIn wsX12_terms (wsV RX12 80 RX12 yX12_tell wsX12_tell) := goodIn_app (goodIn_of _ (by decide +kernel)) ggX12_terms_X12_tell
set_option maxRecDepth 20000 in
theorem ggX12_feed_X12_four : GoodIn wsX12_feed wsX12_four := goodIn_r _ [7, 8, 2, 9, 10, 11, 12, 13, 14, 15, 16, 17, 18, 19, 20, 21, 22, 23, 24, 25, 26, 27, 28, 29, 30, 31, 32, 33, 34, 35] (by decide +kernel) (by decide +kernel)
set_option maxRecDepth 20000 in
theorem gX12_feed_X12_four : GoodIn wsX12_feed (wsV RX12 131 RX12 yX12_four wsX12_four) := goodIn_app (goodIn_of _ (by decide +kernel)) ggX12_feed_X12_four
set_option maxRecDepth 20000 in
theorem ggX12_tape_X12_in : GoodIn wsX12_tape wsX12_in := goodIn_r _ [7] (by decide +kernel) (by decide +kernel)
set_option maxRecDepth 20000 in
theorem gX12_tape_X12_in : GoodIn wsX12_tape (va_wsS RX12 83 yX12_in wsX12_in) := goodIn_app (goodIn_of _ (by decide +kernel)) ggX12_tape_X12_in
set_option maxRecDepth 20000 in
theorem ggX12_task_X12_in : GoodIn wsX12_task wsX12_in := goodIn_r _ [8] (by decide +kernel) (by decide +kernel)
set_option maxRecDepth 20000 in
theorem gX12_task_X12_in : GoodIn wsX12_task (va_wsS RX12 83 yX12_in wsX12_in) := goodIn_app (goodIn_of _ (by decide +kernel)) ggX12_task_X12_in
set_option maxRecDepth 20000 in
theorem ggX12_task_X12_refuse : GoodIn wsX12_task wsX12_refuse := goodIn_r _ [12, 13, 14, 29, 30, 31, 32, 33, 34, 35, 36, 37, 38, 39, 40, 41, 42, 43, 44, 45, 46, 47, 48, 49, 50, 51, 52, 53, 54, 55] (by decide +kernel) (by decide +kernel)
set_option maxRecDepth 20000 in
theorem gX12_task_X12_refuse : GoodIn wsX12_task (wsV RX12 76 RX12 yX12_refuse wsX12_refuse) := goodIn_app (goodIn_of _ (by decide +kernel)) ggX12_task_X12_refuse
set_option maxRecDepth 20000 in
theorem ggX12_task_X12_remember : GoodIn wsX12_task wsX12_remember := goodIn_r _ [18, 19, 20, 21, 4, 29, 30, 31, 32, 33, 34, 35, 36, 37, 38, 39, 40, 41, 42, 43, 44, 45, 46, 47, 48, 49, 50, 51, 52, 53, 54, 55] (by decide +kernel) (by decide +kernel)
set_option maxRecDepth 20000 in
theorem gX12_task_X12_remember : GoodIn wsX12_task (wsV RX12 139 RX12 yX12_remember wsX12_remember) := goodIn_app (goodIn_of _ (by decide +kernel)) ggX12_task_X12_remember
set_option maxRecDepth 20000 in
theorem ggX12_task_X12_at : GoodIn wsX12_task wsX12_at := goodIn_r _ [24] (by decide +kernel) (by decide +kernel)
set_option maxRecDepth 20000 in
theorem gX12_task_X12_at : GoodIn wsX12_task (va_wsS RX12 87 yX12_at wsX12_at) := goodIn_app (goodIn_of _ (by decide +kernel)) ggX12_task_X12_at
set_option maxRecDepth 20000 in
theorem ggX12_task_X12_tell : GoodIn wsX12_task wsX12_tell := goodIn_r _ [28, 13, 29, 30, 31, 32, 33, 34, 35, 36, 37, 38, 39, 40, 41, 42, 43, 44, 45, 46, 47, 48, 49, 50, 51, 52, 53, 54, 55] (by decide +kernel) (by decide +kernel)
set_option maxRecDepth 20000 in
theorem gX12_task_X12_tell : GoodIn wsX12_task (wsV RX12 80 RX12 yX12_tell wsX12_tell) := goodIn_app (goodIn_of _ (by decide +kernel)) ggX12_task_X12_tell
set_option maxRecDepth 20000 in
theorem ggX12_join_X12_isTask : GoodIn wsX12_join wsX12_isTask := goodIn_r _ [7, 2, 8, 9, 6, 10, 73, 74, 75, 76, 77, 78, 79, 80, 81, 82, 83, 84, 85, 86, 87, 88, 89, 90, 91, 92, 93, 94, 95, 96, 97, 98, 99] (by decide +kernel) (by decide +kernel)
set_option maxRecDepth 20000 in
theorem gX12_join_X12_isTask : GoodIn wsX12_join (wsV RX12 142 RX12 yX12_isTask wsX12_isTask) := goodIn_app (goodIn_of _ (by decide +kernel)) ggX12_join_X12_isTask
set_option maxRecDepth 20000 in
theorem ggX12_join_X12_refuse : GoodIn wsX12_join wsX12_refuse := goodIn_r _ [14, 15, 16, 73, 74, 75, 76, 77, 78, 79, 80, 81, 82, 83, 84, 85, 86, 87, 88, 89, 90, 91, 92, 93, 94, 95, 96, 97, 98, 99] (by decide +kernel) (by decide +kernel)
set_option maxRecDepth 20000 in
theorem gX12_join_X12_refuse : GoodIn wsX12_join (wsV RX12 76 RX12 yX12_refuse wsX12_refuse) := goodIn_app (goodIn_of _ (by decide +kernel)) ggX12_join_X12_refuse
set_option maxRecDepth 20000 in
theorem ggX12_leave_X12_isTask : GoodIn wsX12_leave wsX12_isTask := goodIn_r _ [7, 2, 8, 9, 6, 10, 60, 61, 62, 63, 64, 65, 66, 67, 68, 69, 70, 71, 72, 73, 74, 75, 76, 77, 78, 79, 80, 81, 82, 83, 84, 85, 86] (by decide +kernel) (by decide +kernel)
set_option maxRecDepth 20000 in
theorem gX12_leave_X12_isTask : GoodIn wsX12_leave (wsV RX12 142 RX12 yX12_isTask wsX12_isTask) := goodIn_app (goodIn_of _ (by decide +kernel)) ggX12_leave_X12_isTask
set_option maxRecDepth 20000 in
theorem ggX12_leave_X12_refuse : GoodIn wsX12_leave wsX12_refuse := goodIn_r _ [14, 15, 16, 60, 61, 62, 63, 64, 65, 66, 67, 68, 69, 70, 71, 72, 73, 74, 75, 76, 77, 78, 79, 80, 81, 82, 83, 84, 85, 86] (by decide +kernel) (by decide +kernel)
set_option maxRecDepth 20000 in
theorem gX12_leave_X12_refuse : GoodIn wsX12_leave (wsV RX12 76 RX12 yX12_refuse wsX12_refuse) := goodIn_app (goodIn_of _ (by decide +kernel)) ggX12_leave_X12_refuse
set_option maxRecDepth 20000 in
theorem ggX12_weigh_X12_in : GoodIn wsX12_weigh wsX12_in := goodIn_r _ [7] (by decide +kernel) (by decide +kernel)
set_option maxRecDepth 20000 in
theorem gX12_weigh_X12_in : GoodIn wsX12_weigh (va_wsS RX12 83 yX12_in wsX12_in) := goodIn_app (goodIn_of _ (by decide +kernel)) ggX12_weigh_X12_in
set_option maxRecDepth 20000 in
theorem ggX12_weigh_X12_refuse : GoodIn wsX12_weigh wsX12_refuse := goodIn_r _ [11, 12, 13, 64, 65, 66, 67, 68, 69, 70, 71, 72, 73, 74, 75, 76, 77, 78, 79, 80, 81, 82, 83, 84, 85, 86, 87, 88, 89, 90] (by decide +kernel) (by decide +kernel)
set_option maxRecDepth 20000 in
theorem gX12_weigh_X12_refuse : GoodIn wsX12_weigh (wsV RX12 76 RX12 yX12_refuse wsX12_refuse) := goodIn_app (goodIn_of _ (by decide +kernel)) ggX12_weigh_X12_refuse
set_option maxRecDepth 20000 in
theorem ggX12_weigh_X12_isTask : GoodIn wsX12_weigh wsX12_isTask := goodIn_r _ [17, 18, 4, 5, 6, 7, 64, 65, 66, 67, 68, 69, 70, 71, 72, 73, 74, 75, 76, 77, 78, 79, 80, 81, 82, 83, 84, 85, 86, 87, 88, 89, 90] (by decide +kernel) (by decide +kernel)
set_option maxRecDepth 20000 in
theorem gX12_weigh_X12_isTask : GoodIn wsX12_weigh (wsV RX12 142 RX12 yX12_isTask wsX12_isTask) := goodIn_app (goodIn_of _ (by decide +kernel)) ggX12_weigh_X12_isTask
set_option maxRecDepth 20000 in
theorem ggX12_slice_X12_in : GoodIn wsX12_slice wsX12_in := goodIn_r _ [7] (by decide +kernel) (by decide +kernel)
set_option maxRecDepth 20000 in
theorem gX12_slice_X12_in : GoodIn wsX12_slice (va_wsS RX12 83 yX12_in wsX12_in) := goodIn_app (goodIn_of _ (by decide +kernel)) ggX12_slice_X12_in
set_option maxRecDepth 20000 in
theorem ggX12_slice_X12_refuse : GoodIn wsX12_slice wsX12_refuse := goodIn_r _ [11, 12, 13, 36, 37, 38, 39, 40, 41, 42, 43, 44, 45, 46, 47, 48, 49, 50, 51, 52, 53, 54, 55, 56, 57, 58, 59, 60, 61, 62] (by decide +kernel) (by decide +kernel)
set_option maxRecDepth 20000 in
theorem gX12_slice_X12_refuse : GoodIn wsX12_slice (wsV RX12 76 RX12 yX12_refuse wsX12_refuse) := goodIn_app (goodIn_of _ (by decide +kernel)) ggX12_slice_X12_refuse
set_option maxRecDepth 20000 in
theorem ggX12_slice_X12_isTask : GoodIn wsX12_slice wsX12_isTask := goodIn_r _ [17, 3, 4, 5, 6, 7, 36, 37, 38, 39, 40, 41, 42, 43, 44, 45, 46, 47, 48, 49, 50, 51, 52, 53, 54, 55, 56, 57, 58, 59, 60, 61, 62] (by decide +kernel) (by decide +kernel)
set_option maxRecDepth 20000 in
theorem gX12_slice_X12_isTask : GoodIn wsX12_slice (wsV RX12 142 RX12 yX12_isTask wsX12_isTask) := goodIn_app (goodIn_of _ (by decide +kernel)) ggX12_slice_X12_isTask
set_option maxRecDepth 20000 in
theorem ggX12_wish_X12_in : GoodIn wsX12_wish wsX12_in := goodIn_r _ [7] (by decide +kernel) (by decide +kernel)
set_option maxRecDepth 20000 in
theorem gX12_wish_X12_in : GoodIn wsX12_wish (va_wsS RX12 83 yX12_in wsX12_in) := goodIn_app (goodIn_of _ (by decide +kernel)) ggX12_wish_X12_in
set_option maxRecDepth 20000 in
theorem ggX12_wish_X12_refuse : GoodIn wsX12_wish wsX12_refuse := goodIn_r _ [11, 12, 13, 49, 50, 51, 52, 53, 54, 55, 56, 57, 58, 59, 60, 61, 62, 63, 64, 65, 66, 67, 68, 69, 70, 71, 72, 73, 74, 75] (by decide +kernel) (by decide +kernel)
set_option maxRecDepth 20000 in
theorem gX12_wish_X12_refuse : GoodIn wsX12_wish (wsV RX12 76 RX12 yX12_refuse wsX12_refuse) := goodIn_app (goodIn_of _ (by decide +kernel)) ggX12_wish_X12_refuse
set_option maxRecDepth 20000 in
theorem ggX12_wish_X12_isTask : GoodIn wsX12_wish wsX12_isTask := goodIn_r _ [17, 18, 4, 5, 6, 7, 49, 50, 51, 52, 53, 54, 55, 56, 57, 58, 59, 60, 61, 62, 63, 64, 65, 66, 67, 68, 69, 70, 71, 72, 73, 74, 75] (by decide +kernel) (by decide +kernel)
set_option maxRecDepth 20000 in
theorem gX12_wish_X12_isTask : GoodIn wsX12_wish (wsV RX12 142 RX12 yX12_isTask wsX12_isTask) := goodIn_app (goodIn_of _ (by decide +kernel)) ggX12_wish_X12_isTask
set_option maxRecDepth 20000 in
theorem ggX12_yields_X12_isTask : GoodIn wsX12_yields wsX12_isTask := goodIn_r _ [8, 2, 9, 10, 7, 11, 49, 50, 51, 52, 53, 54, 55, 56, 57, 58, 59, 60, 61, 62, 63, 64, 65, 66, 67, 68, 69, 70, 71, 72, 73, 74, 75] (by decide +kernel) (by decide +kernel)
set_option maxRecDepth 20000 in
theorem gX12_yields_X12_isTask : GoodIn wsX12_yields (wsV RX12 142 RX12 yX12_isTask wsX12_isTask) := goodIn_app (goodIn_of _ (by decide +kernel)) ggX12_yields_X12_isTask
set_option maxRecDepth 20000 in
theorem ggX12_yields_X12_refuse : GoodIn wsX12_yields wsX12_refuse := goodIn_r _ [15, 16, 17, 49, 50, 51, 52, 53, 54, 55, 56, 57, 58, 59, 60, 61, 62, 63, 64, 65, 66, 67, 68, 69, 70, 71, 72, 73, 74, 75] (by decide +kernel) (by decide +kernel)
set_option maxRecDepth 20000 in
theorem gX12_yields_X12_refuse : GoodIn wsX12_yields (wsV RX12 76 RX12 yX12_refuse wsX12_refuse) := goodIn_app (goodIn_of _ (by decide +kernel)) ggX12_yields_X12_refuse
set_option maxRecDepth 20000 in
theorem ggX12_quota_X12_in : GoodIn wsX12_quota wsX12_in := goodIn_r _ [8] (by decide +kernel) (by decide +kernel)
set_option maxRecDepth 20000 in
theorem gX12_quota_X12_in : GoodIn wsX12_quota (va_wsS RX12 83 yX12_in wsX12_in) := goodIn_app (goodIn_of _ (by decide +kernel)) ggX12_quota_X12_in
set_option maxRecDepth 20000 in
theorem ggX12_quota_X12_refuse : GoodIn wsX12_quota wsX12_refuse := goodIn_r _ [12, 13, 14, 33, 34, 35, 36, 37, 38, 39, 40, 41, 42, 43, 44, 45, 46, 47, 48, 49, 50, 51, 52, 53, 54, 55, 56, 57, 58, 59] (by decide +kernel) (by decide +kernel)
set_option maxRecDepth 20000 in
theorem gX12_quota_X12_refuse : GoodIn wsX12_quota (wsV RX12 76 RX12 yX12_refuse wsX12_refuse) := goodIn_app (goodIn_of _ (by decide +kernel)) ggX12_quota_X12_refuse
set_option maxRecDepth 20000 in
theorem ggX12_quota_X12_isTask : GoodIn wsX12_quota wsX12_isTask := goodIn_r _ [18, 4, 5, 6, 7, 8, 33, 34, 35, 36, 37, 38, 39, 40, 41, 42, 43, 44, 45, 46, 47, 48, 49, 50, 51, 52, 53, 54, 55, 56, 57, 58, 59] (by decide +kernel) (by decide +kernel)
set_option maxRecDepth 20000 in
theorem gX12_quota_X12_isTask : GoodIn wsX12_quota (wsV RX12 142 RX12 yX12_isTask wsX12_isTask) := goodIn_app (goodIn_of _ (by decide +kernel)) ggX12_quota_X12_isTask
set_option maxRecDepth 20000 in
theorem ggX12_image_X12_in : GoodIn wsX12_image wsX12_in := goodIn_r _ [8] (by decide +kernel) (by decide +kernel)
set_option maxRecDepth 20000 in
theorem gX12_image_X12_in : GoodIn wsX12_image (va_wsS RX12 83 yX12_in wsX12_in) := goodIn_app (goodIn_of _ (by decide +kernel)) ggX12_image_X12_in
set_option maxRecDepth 20000 in
theorem ggX12_image_X12_refuse : GoodIn wsX12_image wsX12_refuse := goodIn_r _ [12, 13, 14, 19, 20, 21, 22, 23, 24, 25, 26, 27, 28, 29, 30, 31, 32, 33, 34, 35, 36, 37, 38, 39, 40, 41, 42, 43, 44, 45] (by decide +kernel) (by decide +kernel)
set_option maxRecDepth 20000 in
theorem gX12_image_X12_refuse : GoodIn wsX12_image (wsV RX12 76 RX12 yX12_refuse wsX12_refuse) := goodIn_app (goodIn_of _ (by decide +kernel)) ggX12_image_X12_refuse
set_option maxRecDepth 20000 in
theorem ggX12_image_X12_tell : GoodIn wsX12_image wsX12_tell := goodIn_r _ [18, 13, 19, 20, 21, 22, 23, 24, 25, 26, 27, 28, 29, 30, 31, 32, 33, 34, 35, 36, 37, 38, 39, 40, 41, 42, 43, 44, 45] (by decide +kernel) (by decide +kernel)
set_option maxRecDepth 20000 in
theorem gX12_image_X12_tell : GoodIn wsX12_image (wsV RX12 80 RX12 yX12_tell wsX12_tell) := goodIn_app (goodIn_of _ (by decide +kernel)) ggX12_image_X12_tell
set_option maxRecDepth 20000 in
theorem ggX12_back_X12_in : GoodIn wsX12_back wsX12_in := goodIn_r _ [9] (by decide +kernel) (by decide +kernel)
set_option maxRecDepth 20000 in
theorem gX12_back_X12_in : GoodIn wsX12_back (va_wsS RX12 83 yX12_in wsX12_in) := goodIn_app (goodIn_of _ (by decide +kernel)) ggX12_back_X12_in
set_option maxRecDepth 20000 in
theorem ggX12_back_X12_refuse : GoodIn wsX12_back wsX12_refuse := goodIn_r _ [13, 14, 15, 20, 21, 22, 23, 24, 25, 26, 27, 28, 29, 30, 31, 32, 33, 34, 35, 36, 37, 38, 39, 40, 41, 42, 43, 44, 45, 46] (by decide +kernel) (by decide +kernel)
set_option maxRecDepth 20000 in
theorem gX12_back_X12_refuse : GoodIn wsX12_back (wsV RX12 76 RX12 yX12_refuse wsX12_refuse) := goodIn_app (goodIn_of _ (by decide +kernel)) ggX12_back_X12_refuse
set_option maxRecDepth 20000 in
theorem ggX12_script_X12_isTask : GoodIn wsX12_script wsX12_isTask := goodIn_r _ [12, 2, 13, 14, 11, 15, 141, 142, 143, 144, 145, 146, 147, 148, 149, 150, 151, 152, 153, 154, 155, 156, 157, 158, 159, 160, 161, 162, 163, 164, 165, 166, 167] (by decide +kernel) (by decide +kernel)
set_option maxRecDepth 20000 in
theorem gX12_script_X12_isTask : GoodIn wsX12_script (wsV RX12 142 RX12 yX12_isTask wsX12_isTask) := goodIn_app (goodIn_of _ (by decide +kernel)) ggX12_script_X12_isTask
set_option maxRecDepth 20000 in
theorem ggX12_script_X12_refuse : GoodIn wsX12_script wsX12_refuse := goodIn_r _ [19, 20, 21, 141, 142, 143, 144, 145, 146, 147, 148, 149, 150, 151, 152, 153, 154, 155, 156, 157, 158, 159, 160, 161, 162, 163, 164, 165, 166, 167] (by decide +kernel) (by decide +kernel)
set_option maxRecDepth 20000 in
theorem gX12_script_X12_refuse : GoodIn wsX12_script (wsV RX12 76 RX12 yX12_refuse wsX12_refuse) := goodIn_app (goodIn_of _ (by decide +kernel)) ggX12_script_X12_refuse
set_option maxRecDepth 20000 in
theorem ggX12_listing_X12_isTask : GoodIn wsX12_listing wsX12_isTask := goodIn_r _ [11, 2, 12, 13, 10, 14, 38, 39, 40, 41, 42, 43, 44, 45, 46, 47, 48, 49, 50, 51, 52, 53, 54, 55, 56, 57, 58, 59, 60, 61, 62, 63, 64] (by decide +kernel) (by decide +kernel)
set_option maxRecDepth 20000 in
theorem gX12_listing_X12_isTask : GoodIn wsX12_listing (wsV RX12 142 RX12 yX12_isTask wsX12_isTask) := goodIn_app (goodIn_of _ (by decide +kernel)) ggX12_listing_X12_isTask
set_option maxRecDepth 20000 in
theorem ggX12_listing_X12_refuse : GoodIn wsX12_listing wsX12_refuse := goodIn_r _ [18, 19, 20, 38, 39, 40, 41, 42, 43, 44, 45, 46, 47, 48, 49, 50, 51, 52, 53, 54, 55, 56, 57, 58, 59, 60, 61, 62, 63, 64] (by decide +kernel) (by decide +kernel)
set_option maxRecDepth 20000 in
theorem gX12_listing_X12_refuse : GoodIn wsX12_listing (wsV RX12 76 RX12 yX12_refuse wsX12_refuse) := goodIn_app (goodIn_of _ (by decide +kernel)) ggX12_listing_X12_refuse
set_option maxRecDepth 20000 in
theorem ggX12_byDraws_X12_heavy : GoodIn wsX12_byDraws wsX12_heavy := goodIn_r _ [10, 5, 11, 12, 13, 9, 14, 15, 16, 17, 18, 19, 20, 21, 22, 23, 24, 25, 26, 27, 28, 29, 30, 31, 32, 33, 34, 35, 36, 37, 38, 39, 40, 41, 42, 43, 44, 45, 46, 47, 48] (by decide +kernel) (by decide +kernel)
set_option maxRecDepth 20000 in
theorem gX12_byDraws_X12_heavy : GoodIn wsX12_byDraws (wsV RX12 105 RX12 yX12_heavy wsX12_heavy) := goodIn_app (goodIn_of _ (by decide +kernel)) ggX12_byDraws_X12_heavy
set_option maxRecDepth 20000 in
theorem ggX12_chosen_X12_byVirtual : GoodIn wsX12_chosen wsX12_byVirtual := goodIn_r _ [7, 1, 8, 9, 10, 6, 11, 12, 13, 14, 15, 16, 17, 18, 56, 57, 58, 59, 60, 61, 62, 63, 64, 65, 66, 67, 68, 69, 70, 71, 72, 73, 74, 75, 76, 77, 78, 79, 80, 81, 82] (by decide +kernel) (by decide +kernel)
set_option maxRecDepth 20000 in
theorem gX12_chosen_X12_byVirtual : GoodIn wsX12_chosen (wsV RX12 256 RX12 yX12_byVirtual wsX12_byVirtual) := goodIn_app (goodIn_of _ (by decide +kernel)) ggX12_chosen_X12_byVirtual
set_option maxRecDepth 20000 in
theorem ggX12_chosen_X12_byDeadline : GoodIn wsX12_chosen wsX12_byDeadline := goodIn_r _ [22, 1, 8, 9, 10, 6, 11, 12, 13, 14, 23, 24, 25, 26, 27, 28, 29, 30, 31, 32, 33, 34, 15, 16, 17, 18, 35, 36, 37, 38, 39, 40, 41, 42, 43, 56, 57, 58, 59, 60, 61, 62, 63, 64, 65, 66, 67, 68, 69, 70, 71, 72, 73, 74, 75, 76, 77, 78, 79, 80, 81, 82] (by decide +kernel) (by decide +kernel)
set_option maxRecDepth 20000 in
theorem gX12_chosen_X12_byDeadline : GoodIn wsX12_chosen (wsV RX12 260 RX12 yX12_byDeadline wsX12_byDeadline) := goodIn_app (goodIn_of _ (by decide +kernel)) ggX12_chosen_X12_byDeadline
set_option maxRecDepth 20000 in
theorem ggX12_chosen_X12_inTurn : GoodIn wsX12_chosen wsX12_inTurn := goodIn_r _ [47, 1, 8, 9, 10, 6, 11, 12, 13, 14, 56, 57, 58, 59, 60, 61, 62, 63, 64, 65, 66, 67, 68, 69, 70, 71, 72, 73, 74, 75, 76, 77, 78, 79, 80, 81, 82] (by decide +kernel) (by decide +kernel)
set_option maxRecDepth 20000 in
theorem gX12_chosen_X12_inTurn : GoodIn wsX12_chosen (wsV RX12 264 RX12 yX12_inTurn wsX12_inTurn) := goodIn_app (goodIn_of _ (by decide +kernel)) ggX12_chosen_X12_inTurn
set_option maxRecDepth 20000 in
theorem ggX12_chosen_X12_byDraws : GoodIn wsX12_chosen wsX12_byDraws := goodIn_r _ [51, 52, 53, 54, 55, 1, 27, 28, 29, 6, 30, 8, 9, 10, 11, 12, 13, 14, 31, 32, 33, 34, 56, 57, 58, 59, 60, 61, 62, 63, 64, 65, 66, 67, 68, 69, 70, 71, 72, 73, 74, 75, 76, 77, 78, 79, 80, 81, 82] (by decide +kernel) (by decide +kernel)
set_option maxRecDepth 20000 in
theorem gX12_chosen_X12_byDraws : GoodIn wsX12_chosen (wsV RX12 267 RX12 yX12_byDraws wsX12_byDraws) := goodIn_app (goodIn_of _ (by decide +kernel)) ggX12_chosen_X12_byDraws
set_option maxRecDepth 20000 in
theorem ggX12_log_X12_heavy : GoodIn wsX12_log wsX12_heavy := goodIn_r _ [7, 1, 8, 9, 10, 6, 11, 12, 13, 14, 15, 16, 17, 18, 19, 20, 21, 22, 23, 24, 25, 26, 27, 28, 29, 30, 31, 32, 33, 34, 35, 36, 37, 38, 39, 40, 41, 42, 43, 44, 45] (by decide +kernel) (by decide +kernel)
set_option maxRecDepth 20000 in
theorem gX12_log_X12_heavy : GoodIn wsX12_log (wsV RX12 105 RX12 yX12_heavy wsX12_heavy) := goodIn_app (goodIn_of _ (by decide +kernel)) ggX12_log_X12_heavy
set_option maxRecDepth 20000 in
theorem ggX12_tick_X12_chosen : GoodIn wsX12_tick wsX12_chosen := goodIn_r _ [83, 1, 46, 84, 85, 86, 6, 87, 21, 22, 23, 24, 4, 5, 7, 37, 38, 39, 40, 88, 89, 90, 91, 92, 93, 94, 95, 17, 18, 19, 20, 25, 26, 27, 28, 33, 34, 35, 36, 96, 97, 98, 99, 45, 100, 101, 102, 103, 104, 105, 106, 107, 108, 109, 110, 111, 122, 123, 124, 125, 126, 127, 128, 129, 130, 131, 132, 133, 134, 135, 136, 137, 138, 139, 140, 141, 142, 143, 144, 145, 146, 147, 148] (by decide +kernel) (by decide +kernel)
set_option maxRecDepth 20000 in
theorem gX12_tick_X12_chosen : GoodIn wsX12_tick (wsV RX12 277 RX12 yX12_chosen wsX12_chosen) := goodIn_app (goodIn_of _ (by decide +kernel)) ggX12_tick_X12_chosen
set_option maxRecDepth 20000 in
theorem ggX12_tick_X12_log : GoodIn wsX12_tick wsX12_log := goodIn_r _ [115, 1, 116, 17, 18, 19, 6, 20, 21, 22, 23, 24, 4, 5, 7, 25, 26, 27, 28, 122, 123, 124, 125, 126, 127, 128, 129, 130, 131, 132, 133, 134, 135, 136, 137, 138, 139, 140, 141, 142, 143, 144, 145, 146, 147, 148] (by decide +kernel) (by decide +kernel)
set_option maxRecDepth 20000 in
theorem gX12_tick_X12_log : GoodIn wsX12_tick (wsV RX12 280 RX12 yX12_log wsX12_log) := goodIn_app (goodIn_of _ (by decide +kernel)) ggX12_tick_X12_log
set_option maxRecDepth 20000 in
theorem ggX12_ticks_X12_in : GoodIn wsX12_ticks wsX12_in := goodIn_r _ [8] (by decide +kernel) (by decide +kernel)
set_option maxRecDepth 20000 in
theorem gX12_ticks_X12_in : GoodIn wsX12_ticks (va_wsS RX12 83 yX12_in wsX12_in) := goodIn_app (goodIn_of _ (by decide +kernel)) ggX12_ticks_X12_in
set_option maxRecDepth 20000 in
theorem ggX12_ticks_X12_refuse : GoodIn wsX12_ticks wsX12_refuse := goodIn_r _ [12, 13, 14, 149, 150, 151, 152, 153, 154, 155, 156, 157, 158, 159, 160, 161, 162, 163, 164, 165, 166, 167, 168, 169, 170, 171, 172, 173, 174, 175] (by decide +kernel) (by decide +kernel)
set_option maxRecDepth 20000 in
theorem gX12_ticks_X12_refuse : GoodIn wsX12_ticks (wsV RX12 76 RX12 yX12_refuse wsX12_refuse) := goodIn_app (goodIn_of _ (by decide +kernel)) ggX12_ticks_X12_refuse
set_option maxRecDepth 20000 in
theorem ggX12_ticks_X12_remember : GoodIn wsX12_ticks wsX12_remember := goodIn_r _ [18, 19, 20, 21, 3, 149, 150, 151, 152, 153, 154, 155, 156, 157, 158, 159, 160, 161, 162, 163, 164, 165, 166, 167, 168, 169, 170, 171, 172, 173, 174, 175] (by decide +kernel) (by decide +kernel)
set_option maxRecDepth 20000 in
theorem gX12_ticks_X12_remember : GoodIn wsX12_ticks (wsV RX12 139 RX12 yX12_remember wsX12_remember) := goodIn_app (goodIn_of _ (by decide +kernel)) ggX12_ticks_X12_remember
set_option maxRecDepth 20000 in
theorem ggX12_ticks_X12_tick : GoodIn wsX12_ticks wsX12_tick := goodIn_r _ [25, 3, 26, 27, 28, 29, 7, 30, 31, 32, 33, 34, 35, 36, 37, 38, 39, 40, 41, 42, 43, 44, 45, 46, 47, 48, 49, 50, 51, 52, 53, 54, 55, 56, 57, 58, 59, 60, 61, 62, 63, 64, 65, 66, 67, 68, 69, 70, 71, 72, 73, 74, 75, 76, 77, 78, 79, 80, 81, 82, 83, 84, 85, 86, 87, 88, 89, 90, 91, 92, 93, 94, 95, 96, 97, 98, 99, 100, 101, 102, 103, 104, 105, 106, 107, 108, 109, 110, 111, 112, 113, 114, 115, 116, 117, 118, 119, 120, 121, 122, 123, 124, 125, 126, 127, 128, 129, 130, 131, 132, 133, 134, 135, 136, 137, 138, 139, 140, 141, 142, 143, 144, 149, 150, 151, 152, 153, 154, 155, 156, 157, 158, 159, 160, 161, 162, 163, 164, 165, 166, 167, 168, 169, 170, 171, 172, 173, 174, 175] (by decide +kernel) (by decide +kernel)
set_option maxRecDepth 20000 in
theorem gX12_ticks_X12_tick : GoodIn wsX12_ticks (wsV RX12 288 RX12 yX12_tick wsX12_tick) := goodIn_app (goodIn_of _ (by decide +kernel)) ggX12_ticks_X12_tick
set_option maxRecDepth 20000 in
theorem ggX12_ticks_X12_tell : GoodIn wsX12_ticks wsX12_tell := goodIn_r _ [148, 13, 149, 150, 151, 152, 153, 154, 155, 156, 157, 158, 159, 160, 161, 162, 163, 164, 165, 166, 167, 168, 169, 170, 171, 172, 173, 174, 175] (by decide +kernel) (by decide +kernel)
set_option maxRecDepth 20000 in
theorem gX12_ticks_X12_tell : GoodIn wsX12_ticks (wsV RX12 80 RX12 yX12_tell wsX12_tell) := goodIn_app (goodIn_of _ (by decide +kernel)) ggX12_ticks_X12_tell
set_option maxRecDepth 20000 in
theorem ggX12_of_X12_isTask : GoodIn wsX12_of wsX12_isTask := goodIn_r _ [9, 2, 10, 11, 8, 12, 20, 21, 22, 23, 24, 25, 26, 27, 28, 29, 30, 31, 32, 33, 34, 35, 36, 37, 38, 39, 40, 41, 42, 43, 44, 45, 46] (by decide +kernel) (by decide +kernel)
set_option maxRecDepth 20000 in
theorem gX12_of_X12_isTask : GoodIn wsX12_of (wsV RX12 142 RX12 yX12_isTask wsX12_isTask) := goodIn_app (goodIn_of _ (by decide +kernel)) ggX12_of_X12_isTask
set_option maxRecDepth 20000 in
theorem ggX12_exact_X12_isTask : GoodIn wsX12_exact wsX12_isTask := goodIn_r _ [8, 3, 9, 10, 7, 11, 44, 45, 46, 47, 48, 49, 50, 51, 52, 53, 54, 55, 56, 57, 58, 59, 60, 61, 62, 63, 64, 65, 66, 67, 68, 69, 70] (by decide +kernel) (by decide +kernel)
set_option maxRecDepth 20000 in
theorem gX12_exact_X12_isTask : GoodIn wsX12_exact (wsV RX12 142 RX12 yX12_isTask wsX12_isTask) := goodIn_app (goodIn_of _ (by decide +kernel)) ggX12_exact_X12_isTask
set_option maxRecDepth 20000 in
theorem ggX12_time_X12_heavy : GoodIn wsX12_time wsX12_heavy := goodIn_r _ [8, 2, 9, 10, 11, 7, 12, 13, 14, 15, 16, 17, 18, 19, 31, 32, 33, 34, 35, 36, 37, 38, 39, 40, 41, 42, 43, 44, 45, 46, 47, 48, 49, 50, 51, 52, 53, 54, 55, 56, 57] (by decide +kernel) (by decide +kernel)
set_option maxRecDepth 20000 in
theorem gX12_time_X12_heavy : GoodIn wsX12_time (wsV RX12 105 RX12 yX12_heavy wsX12_heavy) := goodIn_app (goodIn_of _ (by decide +kernel)) ggX12_time_X12_heavy
set_option maxRecDepth 20000 in
theorem ggX12_rank_X12_isTask : GoodIn wsX12_rank wsX12_isTask := goodIn_r _ [7, 2, 8, 9, 6, 10, 22, 23, 24, 25, 26, 27, 28, 29, 30, 31, 32, 33, 34, 35, 36, 37, 38, 39, 40, 41, 42, 43, 44, 45, 46, 47, 48] (by decide +kernel) (by decide +kernel)
set_option maxRecDepth 20000 in
theorem gX12_rank_X12_isTask : GoodIn wsX12_rank (wsV RX12 142 RX12 yX12_isTask wsX12_isTask) := goodIn_app (goodIn_of _ (by decide +kernel)) ggX12_rank_X12_isTask
set_option maxRecDepth 20000 in
theorem ggX12_logAt_X12_in : GoodIn wsX12_logAt wsX12_in := goodIn_r _ [5] (by decide +kernel) (by decide +kernel)
set_option maxRecDepth 20000 in
theorem gX12_logAt_X12_in : GoodIn wsX12_logAt (va_wsS RX12 83 yX12_in wsX12_in) := goodIn_app (goodIn_of _ (by decide +kernel)) ggX12_logAt_X12_in
set_option maxRecDepth 20000 in
theorem ggX12_ran_X12_logAt : GoodIn wsX12_ran wsX12_logAt := goodIn_r _ [7, 2, 8, 9, 6, 10, 11, 12, 13, 14, 15, 16, 17, 18, 19, 20, 21, 22, 23, 24, 25, 26, 27, 28, 29, 30, 31, 32, 33, 34, 35, 36, 37] (by decide +kernel) (by decide +kernel)
set_option maxRecDepth 20000 in
theorem gX12_ran_X12_logAt : GoodIn wsX12_ran (wsV RX12 296 RX12 yX12_logAt wsX12_logAt) := goodIn_app (goodIn_of _ (by decide +kernel)) ggX12_ran_X12_logAt
set_option maxRecDepth 20000 in
theorem ggX12_service_X12_isTask : GoodIn wsX12_service wsX12_isTask := goodIn_r _ [7, 2, 8, 9, 6, 10, 19, 20, 21, 22, 23, 24, 25, 26, 27, 28, 29, 30, 31, 32, 33, 34, 35, 36, 37, 38, 39, 40, 41, 42, 43, 44, 45] (by decide +kernel) (by decide +kernel)
set_option maxRecDepth 20000 in
theorem gX12_service_X12_isTask : GoodIn wsX12_service (wsV RX12 142 RX12 yX12_isTask wsX12_isTask) := goodIn_app (goodIn_of _ (by decide +kernel)) ggX12_service_X12_isTask
set_option maxRecDepth 20000 in
theorem ggX12_share_X12_isTask : GoodIn wsX12_share wsX12_isTask := goodIn_r _ [7, 8, 9, 10, 6, 11, 26, 27, 28, 29, 30, 31, 32, 33, 34, 35, 36, 37, 38, 39, 40, 41, 42, 43, 44, 45, 46, 47, 48, 49, 50, 51, 52] (by decide +kernel) (by decide +kernel)
set_option maxRecDepth 20000 in
theorem gX12_share_X12_isTask : GoodIn wsX12_share (wsV RX12 142 RX12 yX12_isTask wsX12_isTask) := goodIn_app (goodIn_of _ (by decide +kernel)) ggX12_share_X12_isTask
set_option maxRecDepth 20000 in
theorem ggX12_worst_X12_isTask : GoodIn wsX12_worst wsX12_isTask := goodIn_r _ [9, 3, 10, 11, 8, 12, 18, 19, 20, 21, 22, 23, 24, 25, 26, 27, 28, 29, 30, 31, 32, 33, 34, 35, 36, 37, 38, 39, 40, 41, 42, 43, 44] (by decide +kernel) (by decide +kernel)
set_option maxRecDepth 20000 in
theorem gX12_worst_X12_isTask : GoodIn wsX12_worst (wsV RX12 142 RX12 yX12_isTask wsX12_isTask) := goodIn_app (goodIn_of _ (by decide +kernel)) ggX12_worst_X12_isTask
set_option maxRecDepth 20000 in
theorem ggX12_ahead_X12_in : GoodIn wsX12_ahead wsX12_in := goodIn_r _ [8] (by decide +kernel) (by decide +kernel)
set_option maxRecDepth 20000 in
theorem gX12_ahead_X12_in : GoodIn wsX12_ahead (va_wsS RX12 83 yX12_in wsX12_in) := goodIn_app (goodIn_of _ (by decide +kernel)) ggX12_ahead_X12_in
set_option maxRecDepth 20000 in
theorem ggX12_ahead_X12_begin : GoodIn wsX12_ahead wsX12_begin := goodIn_r _ [12, 13, 3, 141, 142, 143, 144, 145, 146, 147, 148, 149, 150, 151, 152, 153, 154, 155, 156, 157, 158, 159, 160, 161, 162, 163, 164, 165, 166, 167] (by decide +kernel) (by decide +kernel)
set_option maxRecDepth 20000 in
theorem gX12_ahead_X12_begin : GoodIn wsX12_ahead (wsV RX12 310 RX12 yX12_begin wsX12_begin) := goodIn_app (goodIn_of _ (by decide +kernel)) ggX12_ahead_X12_begin
set_option maxRecDepth 20000 in
theorem ggX12_ahead_X12_tick : GoodIn wsX12_ahead wsX12_tick := goodIn_r _ [17, 3, 18, 19, 20, 21, 7, 22, 23, 24, 25, 26, 27, 28, 29, 30, 31, 32, 33, 34, 35, 36, 37, 38, 39, 40, 41, 42, 43, 44, 45, 46, 47, 48, 49, 50, 51, 52, 53, 54, 55, 56, 57, 58, 59, 60, 61, 62, 63, 64, 65, 66, 67, 68, 69, 70, 71, 72, 73, 74, 75, 76, 77, 78, 79, 80, 81, 82, 83, 84, 85, 86, 87, 88, 89, 90, 91, 92, 93, 94, 95, 96, 97, 98, 99, 100, 101, 102, 103, 104, 105, 106, 107, 108, 109, 110, 111, 112, 113, 114, 115, 116, 117, 118, 119, 120, 121, 122, 123, 124, 125, 126, 127, 128, 129, 130, 131, 132, 133, 134, 135, 136, 141, 142, 143, 144, 145, 146, 147, 148, 149, 150, 151, 152, 153, 154, 155, 156, 157, 158, 159, 160, 161, 162, 163, 164, 165, 166, 167] (by decide +kernel) (by decide +kernel)
set_option maxRecDepth 20000 in
theorem gX12_ahead_X12_tick : GoodIn wsX12_ahead (wsV RX12 288 RX12 yX12_tick wsX12_tick) := goodIn_app (goodIn_of _ (by decide +kernel)) ggX12_ahead_X12_tick
set_option maxRecDepth 20000 in
theorem ggX12_ahead_X12_over : GoodIn wsX12_ahead wsX12_over := goodIn_r _ [140, 3, 13, 141, 142, 143, 144, 145, 146, 147, 148, 149, 150, 151, 152, 153, 154, 155, 156, 157, 158, 159, 160, 161, 162, 163, 164, 165, 166, 167] (by decide +kernel) (by decide +kernel)
set_option maxRecDepth 20000 in
theorem gX12_ahead_X12_over : GoodIn wsX12_ahead (wsV RX12 313 RX12 yX12_over wsX12_over) := goodIn_app (goodIn_of _ (by decide +kernel)) ggX12_ahead_X12_over
set_option maxRecDepth 20000 in
theorem ggX12_finish_X12_isTask : GoodIn wsX12_finish wsX12_isTask := goodIn_r _ [8, 2, 9, 10, 7, 11, 144, 145, 146, 147, 148, 149, 150, 151, 152, 153, 154, 155, 156, 157, 158, 159, 160, 161, 162, 163, 164, 165, 166, 167, 168, 169, 170] (by decide +kernel) (by decide +kernel)
set_option maxRecDepth 20000 in
theorem gX12_finish_X12_isTask : GoodIn wsX12_finish (wsV RX12 142 RX12 yX12_isTask wsX12_isTask) := goodIn_app (goodIn_of _ (by decide +kernel)) ggX12_finish_X12_isTask
set_option maxRecDepth 20000 in
theorem ggX12_due_X12_isTask : GoodIn wsX12_due wsX12_isTask := goodIn_r _ [8, 2, 9, 10, 7, 11, 144, 145, 146, 147, 148, 149, 150, 151, 152, 153, 154, 155, 156, 157, 158, 159, 160, 161, 162, 163, 164, 165, 166, 167, 168, 169, 170] (by decide +kernel) (by decide +kernel)
set_option maxRecDepth 20000 in
theorem gX12_due_X12_isTask : GoodIn wsX12_due (wsV RX12 142 RX12 yX12_isTask wsX12_isTask) := goodIn_app (goodIn_of _ (by decide +kernel)) ggX12_due_X12_isTask
set_option maxRecDepth 20000 in
theorem ggX12_least_X12_isTask : GoodIn wsX12_least wsX12_isTask := goodIn_r _ [9, 3, 10, 11, 8, 12, 149, 150, 151, 152, 153, 154, 155, 156, 157, 158, 159, 160, 161, 162, 163, 164, 165, 166, 167, 168, 169, 170, 171, 172, 173, 174, 175] (by decide +kernel) (by decide +kernel)
set_option maxRecDepth 20000 in
theorem gX12_least_X12_isTask : GoodIn wsX12_least (wsV RX12 142 RX12 yX12_isTask wsX12_isTask) := goodIn_app (goodIn_of _ (by decide +kernel)) ggX12_least_X12_isTask
set_option maxRecDepth 20000 in
theorem ggX12_would_X12_in : GoodIn wsX12_would wsX12_in := goodIn_r _ [15] (by decide +kernel) (by decide +kernel)
set_option maxRecDepth 20000 in
theorem gX12_would_X12_in : GoodIn wsX12_would (va_wsS RX12 83 yX12_in wsX12_in) := goodIn_app (goodIn_of _ (by decide +kernel)) ggX12_would_X12_in
set_option maxRecDepth 20000 in
theorem ggX12_would_X12_begin : GoodIn wsX12_would wsX12_begin := goodIn_r _ [19, 20, 5, 149, 150, 151, 152, 153, 154, 155, 156, 157, 158, 159, 160, 161, 162, 163, 164, 165, 166, 167, 168, 169, 170, 171, 172, 173, 174, 175] (by decide +kernel) (by decide +kernel)
set_option maxRecDepth 20000 in
theorem gX12_would_X12_begin : GoodIn wsX12_would (wsV RX12 310 RX12 yX12_begin wsX12_begin) := goodIn_app (goodIn_of _ (by decide +kernel)) ggX12_would_X12_begin
set_option maxRecDepth 20000 in
theorem ggX12_would_X12_tick : GoodIn wsX12_would wsX12_tick := goodIn_r _ [24, 5, 4, 25, 26, 27, 14, 28, 29, 30, 31, 32, 33, 34, 35, 36, 37, 38, 39, 40, 41, 42, 43, 44, 45, 46, 47, 48, 49, 50, 51, 52, 53, 54, 55, 56, 57, 58, 59, 60, 61, 62, 63, 64, 65, 66, 8, 67, 68, 69, 70, 71, 72, 73, 74, 75, 76, 77, 78, 79, 80, 81, 82, 83, 84, 85, 86, 87, 88, 89, 90, 2, 91, 92, 93, 94, 95, 96, 97, 98, 99, 100, 101, 102, 103, 104, 105, 106, 107, 108, 109, 110, 111, 112, 113, 114, 115, 116, 117, 118, 119, 120, 121, 122, 123, 124, 125, 126, 127, 9, 128, 129, 130, 131, 132, 133, 134, 135, 136, 137, 138, 139, 149, 150, 151, 152, 153, 154, 155, 156, 157, 158, 159, 160, 161, 162, 163, 164, 165, 166, 167, 168, 169, 170, 171, 172, 173, 174, 175] (by decide +kernel) (by decide +kernel)
set_option maxRecDepth 20000 in
theorem gX12_would_X12_tick : GoodIn wsX12_would (wsV RX12 288 RX12 yX12_tick wsX12_tick) := goodIn_app (goodIn_of _ (by decide +kernel)) ggX12_would_X12_tick
set_option maxRecDepth 20000 in
theorem ggX12_would_X12_lookAtLags : GoodIn wsX12_would wsX12_lookAtLags := goodIn_r _ [143, 5, 144, 66, 10, 11, 42, 43, 44, 14, 45, 26, 27, 28, 83, 84, 85, 86, 46, 47, 48, 49, 54, 55, 56, 57, 58, 59, 60, 61, 38, 39, 40, 41, 67, 68, 69, 149, 150, 151, 152, 153, 154, 155, 156, 157, 158, 159, 160, 161, 162, 163, 164, 165, 166, 167, 168, 169, 170, 171, 172, 173, 174, 175] (by decide +kernel) (by decide +kernel)
set_option maxRecDepth 20000 in
theorem gX12_would_X12_lookAtLags : GoodIn wsX12_would (wsV RX12 331 RX12 yX12_lookAtLags wsX12_lookAtLags) := goodIn_app (goodIn_of _ (by decide +kernel)) ggX12_would_X12_lookAtLags
set_option maxRecDepth 20000 in
theorem ggX12_would_X12_over : GoodIn wsX12_would wsX12_over := goodIn_r _ [148, 5, 20, 149, 150, 151, 152, 153, 154, 155, 156, 157, 158, 159, 160, 161, 162, 163, 164, 165, 166, 167, 168, 169, 170, 171, 172, 173, 174, 175] (by decide +kernel) (by decide +kernel)
set_option maxRecDepth 20000 in
theorem gX12_would_X12_over : GoodIn wsX12_would (wsV RX12 313 RX12 yX12_over wsX12_over) := goodIn_app (goodIn_of _ (by decide +kernel)) ggX12_would_X12_over
set_option maxRecDepth 20000 in
theorem ggX12_count_X12_inState : GoodIn wsX12_count wsX12_inState := goodIn_r _ [13, 2, 14, 15, 12, 16, 24, 25, 26, 27, 28, 29, 30, 31, 32, 33, 34, 35, 36, 37, 38, 39, 40, 41, 42, 43, 44, 45, 46, 47, 48, 49, 50] (by decide +kernel) (by decide +kernel)
set_option maxRecDepth 20000 in
theorem gX12_count_X12_inState : GoodIn wsX12_count (wsV RX12 334 RX12 yX12_inState wsX12_inState) := goodIn_app (goodIn_of _ (by decide +kernel)) ggX12_count_X12_inState
set_option maxRecDepth 20000 in
theorem ggX12_count_X12_scripted : GoodIn wsX12_count wsX12_scripted := goodIn_r _ [20, 2, 14, 15, 12, 16, 24, 25, 26, 27, 28, 29, 30, 31, 32, 33, 34, 35, 36, 37, 38, 39, 40, 41, 42, 43, 44, 45, 46, 47, 48, 49, 50] (by decide +kernel) (by decide +kernel)
set_option maxRecDepth 20000 in
theorem gX12_count_X12_scripted : GoodIn wsX12_count (wsV RX12 337 RX12 yX12_scripted wsX12_scripted) := goodIn_app (goodIn_of _ (by decide +kernel)) ggX12_count_X12_scripted
set_option maxRecDepth 20000 in
theorem ggX12_count_X12_in : GoodIn wsX12_count wsX12_in := goodIn_r _ [23] (by decide +kernel) (by decide +kernel)
set_option maxRecDepth 20000 in
theorem gX12_count_X12_in : GoodIn wsX12_count (va_wsS RX12 83 yX12_in wsX12_in) := goodIn_app (goodIn_of _ (by decide +kernel)) ggX12_count_X12_in
set_option maxRecDepth 20000 in
theorem ggL_law_X11_init : GoodIn wsL_law wsX11_init := goodIn_r _ [8, 9, 10, 11, 12, 13, 14, 15, 16, 17, 18, 19, 20, 21, 22, 23, 24, 25, 26, 27, 28, 29, 30, 31, 32, 33, 34, 35, 36, 37, 38, 39, 40, 41, 42, 43, 44, 45, 46, 47, 48, 49, 50, 51, 52, 53, 54, 55, 56, 57, 58, 59, 60, 61, 62, 63, 64, 65, 66, 67, 68, 69, 70, 71, 72, 73, 74, 75, 76, 77, 78, 79, 80, 81, 82, 83, 84, 85, 86, 87, 88, 89, 90, 91, 92, 93, 94, 95, 96, 97, 98, 99, 100, 101, 102, 103, 104, 105, 106, 107, 108, 109, 110, 111, 112, 113, 114, 115, 116, 117, 118, 119, 120, 121, 1376, 1377, 1378, 1337, 1338, 1339, 1340, 1341, 1342, 1343, 1344, 1345, 1346, 1347, 1348, 1379, 1380, 1381, 1382, 1383, 1384, 1385, 1386, 1387, 1388, 1389, 1390, 1391, 1392, 1393, 1394, 1395, 1396, 1397, 1398, 1399, 1400, 1401, 1402, 1403, 1404, 1405, 1406, 1407, 1408, 1409, 1410, 1411, 1412, 1413, 1414, 1415, 1416, 1417, 1418, 1419, 1420, 1421, 1422, 1423, 1424, 1425, 1426, 1427] (by decide +kernel) (by decide +kernel)
set_option maxRecDepth 20000 in
theorem gL_law_X11_init : GoodIn wsL_law (wsX11_init) := ggL_law_X11_init
set_option maxRecDepth 20000 in
theorem ggL_law_X12_init : GoodIn wsL_law wsX12_init := goodIn_r _ [124, 125, 10, 11, 66, 126, 127, 91, 128, 129, 130, 131, 35, 132, 133, 134, 135, 136, 137, 138, 139, 140, 141, 142, 143, 144, 145, 1349, 1350, 1351, 1352, 1353, 1354, 1355, 1356, 1357, 1358, 1359, 1360, 1361, 1362, 1363, 1364, 1365, 1366, 1367, 1368, 1369, 1370, 1371, 1372, 1373, 1374, 1375] (by decide +kernel) (by decide +kernel)
set_option maxRecDepth 20000 in
theorem gL_law_X12_init : GoodIn wsL_law (wsX12_init) := ggL_law_X12_init
set_option maxRecDepth 20000 in
theorem ggL_law_X11_terms : GoodIn wsL_law wsX11_terms := goodIn_r _ [149, 15, 44, 150, 151, 152, 14, 153, 154, 155, 156, 157, 43, 158, 159, 121, 160, 161, 162, 163, 164, 165, 166, 167, 49, 50, 168, 169, 170, 171, 172, 173, 174, 175, 1337, 1338, 1339, 1340, 1341, 1342, 1343, 1344, 1345, 1346, 1347, 1348, 1400, 1401, 1376, 1377, 1378] (by decide +kernel) (by decide +kernel)
set_option maxRecDepth 20000 in
theorem gL_law_X11_terms : GoodIn wsL_law (wsV RL 13 RX11 yX11_terms wsX11_terms) := goodIn_app (goodIn_of _ (by decide +kernel)) ggL_law_X11_terms
set_option maxRecDepth 20000 in
theorem ggL_law_X12_terms : GoodIn wsL_law wsX12_terms := goodIn_r _ [179, 180, 181, 182, 183, 127, 184, 185, 5, 186, 187, 188, 189, 190, 191, 126, 192, 193, 194, 195, 1349, 1350, 1351, 1352, 1353, 1354, 1355, 1356, 1357, 1358, 1359, 1360, 1361, 1362, 1363, 1364, 1365, 1366, 1367, 1368, 1369, 1370, 1371, 1372, 1373, 1374, 1375] (by decide +kernel) (by decide +kernel)
set_option maxRecDepth 20000 in
theorem gL_law_X12_terms : GoodIn wsL_law (wsV RL 17 RX12 yX12_terms wsX12_terms) := goodIn_app (goodIn_of _ (by decide +kernel)) ggL_law_X12_terms
set_option maxRecDepth 20000 in
theorem ggL_law_X11_feed : GoodIn wsL_law wsX11_feed := goodIn_r _ [199, 19, 200, 201, 202, 203, 18, 204, 205, 206, 207, 208, 209, 210, 211, 212, 213, 55, 1337, 1338, 1339, 1340, 1341, 1342, 1343, 1344, 1345, 1346, 1347, 1348, 1379, 1380] (by decide +kernel) (by decide +kernel)
set_option maxRecDepth 20000 in
theorem gL_law_X11_feed : GoodIn wsL_law (wsV RL 18 RX11 yX11_feed wsX11_feed) := goodIn_app (goodIn_of _ (by decide +kernel)) ggL_law_X11_feed
set_option maxRecDepth 20000 in
theorem ggL_law_X12_feed : GoodIn wsL_law wsX12_feed := goodIn_r _ [217, 180, 218, 219, 220, 221, 5, 222, 134, 1349, 1350, 1351, 1352, 1353, 1354, 1355, 1356, 1357, 1358, 1359, 1360, 1361, 1362, 1363, 1364, 1365, 1366, 1367, 1368, 1369, 1370, 1371, 1372, 1373, 1374, 1375] (by decide +kernel) (by decide +kernel)
set_option maxRecDepth 20000 in
theorem gL_law_X12_feed : GoodIn wsL_law (wsV RL 22 RX12 yX12_feed wsX12_feed) := goodIn_app (goodIn_of _ (by decide +kernel)) ggL_law_X12_feed
set_option maxRecDepth 20000 in
theorem ggL_law_X11_end : GoodIn wsL_law wsX11_end := goodIn_r _ [226, 19, 200, 1337, 1338, 1339, 1340, 1341, 1342, 1343, 1344, 1345, 1346, 1347, 1348, 1379, 1380] (by decide +kernel) (by decide +kernel)
set_option maxRecDepth 20000 in
theorem gL_law_X11_end : GoodIn wsL_law (wsV RL 23 RX11 yX11_end wsX11_end) := goodIn_app (goodIn_of _ (by decide +kernel)) ggL_law_X11_end
set_option maxRecDepth 20000 in
theorem ggL_law_X12_end : GoodIn wsL_law wsX12_end := goodIn_r _ [230, 180, 218, 1349, 1350, 1351, 1352, 1353, 1354, 1355, 1356, 1357, 1358, 1359, 1360, 1361, 1362, 1363, 1364, 1365, 1366, 1367, 1368, 1369, 1370, 1371, 1372, 1373, 1374, 1375] (by decide +kernel) (by decide +kernel)
set_option maxRecDepth 20000 in
theorem gL_law_X12_end : GoodIn wsL_law (wsV RL 27 RX12 yX12_end wsX12_end) := goodIn_app (goodIn_of _ (by decide +kernel)) ggL_law_X12_end
set_option maxRecDepth 20000 in
theorem ggL_law_X11_tape : GoodIn wsL_law wsX11_tape := goodIn_r _ [234, 19, 235, 236, 237, 18, 238, 205, 55, 1337, 1338, 1339, 1340, 1341, 1342, 1343, 1344, 1345, 1346, 1347, 1348, 1379, 1380] (by decide +kernel) (by decide +kernel)
set_option maxRecDepth 20000 in
theorem gL_law_X11_tape : GoodIn wsL_law (wsV RL 28 RX11 yX11_tape wsX11_tape) := goodIn_app (goodIn_of _ (by decide +kernel)) ggL_law_X11_tape
set_option maxRecDepth 20000 in
theorem ggL_law_X12_tape : GoodIn wsL_law wsX12_tape := goodIn_r _ [242, 180, 218, 134, 184, 185, 5, 186, 1349, 1350, 1351, 1352, 1353, 1354, 1355, 1356, 1357, 1358, 1359, 1360, 1361, 1362, 1363, 1364, 1365, 1366, 1367, 1368, 1369, 1370, 1371, 1372, 1373, 1374, 1375] (by decide +kernel) (by decide +kernel)
set_option maxRecDepth 20000 in
theorem gL_law_X12_tape : GoodIn wsL_law (wsV RL 31 RX12 yX12_tape wsX12_tape) := goodIn_app (goodIn_of _ (by decide +kernel)) ggL_law_X12_tape
set_option maxRecDepth 20000 in
theorem ggL_law_X11_task : GoodIn wsL_law wsX11_task := goodIn_r _ [246, 44, 27, 247, 40, 248, 249, 2, 250, 251, 252, 253, 155, 156, 157, 43, 158, 159, 121, 160, 161, 162, 254, 255, 256, 39, 257, 258, 115, 116, 259, 260, 261, 262, 263, 264, 265, 266, 26, 267, 268, 73, 77, 269, 270, 83, 84, 271, 272, 273, 87, 274, 101, 275, 276, 277, 278, 279, 103, 280, 281, 282, 283, 284, 285, 286, 287, 288, 289, 290, 291, 292, 61, 293, 67, 294, 295, 296, 297, 298, 299, 300, 301, 302, 303, 304, 80, 305, 306, 307, 308, 309, 310, 76, 311, 92, 312, 313, 314, 315, 316, 317, 318, 319, 320, 321, 322, 323, 324, 325, 326, 327, 328, 329, 330, 331, 332, 333, 172, 173, 174, 175, 1337, 1338, 1339, 1340, 1341, 1342, 1343, 1344, 1345, 1346, 1347, 1348, 1383, 1384, 1385, 1386, 1387, 1388, 1389, 1390, 1391, 1392, 1400, 1401, 1396, 1397, 1398, 1399, 1410, 1411, 1412, 1413, 1414, 1415, 1416, 1417, 1418, 1419, 1420, 1421, 1422, 1423, 1424, 1425, 1426, 1427, 1402, 1403, 1404, 1405, 1406, 1408, 1409, 1407] (by decide +kernel) (by decide +kernel)
set_option maxRecDepth 20000 in
theorem gL_law_X11_task : GoodIn wsL_law (wsV RL 32 RX11 yX11_task wsX11_task) := goodIn_app (goodIn_of _ (by decide +kernel)) ggL_law_X11_task
set_option maxRecDepth 20000 in
theorem ggL_law_X12_task : GoodIn wsL_law wsX12_task := goodIn_r _ [337, 180, 338, 339, 128, 184, 185, 5, 186, 187, 188, 189, 190, 191, 126, 340, 341, 342, 343, 344, 129, 133, 345, 346, 347, 192, 193, 194, 195, 1349, 1350, 1351, 1352, 1353, 1354, 1355, 1356, 1357, 1358, 1359, 1360, 1361, 1362, 1363, 1364, 1365, 1366, 1367, 1368, 1369, 1370, 1371, 1372, 1373, 1374, 1375] (by decide +kernel) (by decide +kernel)
set_option maxRecDepth 20000 in
theorem gL_law_X12_task : GoodIn wsL_law (wsV RL 35 RX12 yX12_task wsX12_task) := goodIn_app (goodIn_of _ (by decide +kernel)) ggL_law_X12_task
set_option maxRecDepth 20000 in
theorem ggL_law_X11_join : GoodIn wsL_law wsX11_join := goodIn_r _ [351, 27, 44, 352, 353, 354, 40, 355, 356, 357, 26, 358, 268, 155, 156, 157, 43, 158, 159, 121, 160, 161, 162, 359, 360, 361, 87, 362, 288, 287, 363, 364, 365, 366, 367, 368, 369, 370, 73, 371, 372, 254, 255, 256, 39, 257, 258, 115, 116, 259, 260, 261, 262, 263, 264, 265, 266, 267, 77, 269, 270, 83, 84, 271, 272, 273, 274, 101, 275, 276, 277, 278, 279, 103, 280, 281, 282, 283, 284, 285, 286, 289, 290, 291, 292, 61, 293, 67, 294, 295, 296, 297, 298, 299, 300, 301, 302, 303, 304, 80, 305, 306, 307, 308, 309, 310, 76, 311, 92, 312, 373, 374, 375, 376, 377, 85, 378, 82, 81, 379, 380, 381, 382, 383, 384, 385, 386, 387, 326, 327, 328, 329, 388, 389, 390, 391, 392, 393, 394, 395, 396, 397, 398, 399, 400, 325, 401, 402, 403, 404, 405, 406, 407, 408, 409, 410, 411, 412, 413, 414, 415, 416, 417, 418, 419, 420, 421, 422, 423, 424, 425, 426, 427, 428, 429, 430, 172, 173, 174, 175, 1337, 1338, 1339, 1340, 1341, 1342, 1343, 1344, 1345, 1346, 1347, 1348, 1383, 1384, 1385, 1386, 1387, 1388, 1389, 1390, 1391, 1392, 1410, 1411, 1412, 1413, 1414, 1415, 1416, 1417, 1418, 1419, 1420, 1421, 1422, 1423, 1424, 1425, 1426, 1427, 1400, 1401, 1396, 1397, 1398, 1399, 1402, 1403, 1404, 1405, 1406, 1408, 1409, 1407, 1376, 1377, 1378] (by decide +kernel) (by decide +kernel)
set_option maxRecDepth 20000 in
theorem gL_law_X11_join : GoodIn wsL_law (wsV RL 36 RX11 yX11_join wsX11_join) := goodIn_app (goodIn_of _ (by decide +kernel)) ggL_law_X11_join
set_option maxRecDepth 20000 in
theorem ggL_law_X12_join : GoodIn wsL_law wsX12_join := goodIn_r _ [434, 180, 128, 435, 436, 437, 5, 438, 184, 185, 186, 187, 188, 189, 190, 191, 126, 345, 346, 347, 439, 440, 441, 442, 443, 444, 445, 446, 447, 448, 449, 450, 451, 452, 453, 454, 455, 456, 457, 458, 459, 340, 341, 342, 343, 344, 129, 133, 460, 461, 462, 463, 464, 465, 466, 467, 468, 469, 470, 471, 472, 473, 474, 475, 476, 127, 477, 478, 479, 192, 193, 194, 195, 1349, 1350, 1351, 1352, 1353, 1354, 1355, 1356, 1357, 1358, 1359, 1360, 1361, 1362, 1363, 1364, 1365, 1366, 1367, 1368, 1369, 1370, 1371, 1372, 1373, 1374, 1375] (by decide +kernel) (by decide +kernel)
set_option maxRecDepth 20000 in
theorem gL_law_X12_join : GoodIn wsL_law (wsV RL 39 RX12 yX12_join wsX12_join) := goodIn_app (goodIn_of _ (by decide +kernel)) ggL_law_X12_join
set_option maxRecDepth 20000 in
theorem ggL_law_X11_leave : GoodIn wsL_law wsX11_leave := goodIn_r _ [483, 27, 44, 352, 353, 40, 484, 355, 356, 357, 26, 358, 268, 155, 156, 157, 43, 158, 159, 121, 160, 161, 162, 254, 255, 256, 39, 257, 258, 115, 116, 259, 260, 261, 262, 263, 264, 265, 266, 267, 73, 77, 269, 270, 83, 84, 271, 272, 273, 87, 274, 101, 275, 276, 277, 278, 279, 103, 280, 281, 282, 283, 284, 285, 286, 287, 288, 289, 290, 291, 292, 61, 293, 67, 294, 295, 296, 297, 298, 299, 300, 301, 302, 303, 304, 80, 305, 306, 307, 308, 309, 310, 76, 311, 92, 312, 485, 486, 487, 488, 489, 490, 491, 492, 493, 377, 372, 379, 371, 494, 495, 496, 497, 498, 387, 326, 327, 328, 329, 388, 389, 390, 391, 407, 408, 409, 410, 367, 368, 369, 370, 499, 322, 323, 324, 430, 172, 173, 174, 175, 1337, 1338, 1339, 1340, 1341, 1342, 1343, 1344, 1345, 1346, 1347, 1348, 1383, 1384, 1385, 1386, 1387, 1388, 1389, 1390, 1391, 1392, 1410, 1411, 1412, 1413, 1414, 1415, 1416, 1417, 1418, 1419, 1420, 1421, 1422, 1423, 1424, 1425, 1426, 1427, 1400, 1401, 1396, 1397, 1398, 1399, 1402, 1403, 1404, 1405, 1406, 1408, 1409, 1407] (by decide +kernel) (by decide +kernel)
set_option maxRecDepth 20000 in
theorem gL_law_X11_leave : GoodIn wsL_law (wsV RL 40 RX11 yX11_leave wsX11_leave) := goodIn_app (goodIn_of _ (by decide +kernel)) ggL_law_X11_leave
set_option maxRecDepth 20000 in
theorem ggL_law_X12_leave : GoodIn wsL_law wsX12_leave := goodIn_r _ [503, 180, 128, 435, 436, 437, 5, 438, 184, 185, 186, 187, 188, 189, 190, 191, 126, 345, 346, 347, 340, 341, 342, 343, 344, 129, 133, 504, 505, 506, 507, 145, 452, 453, 454, 455, 508, 509, 510, 511, 456, 457, 458, 459, 464, 465, 466, 467, 468, 469, 470, 471, 448, 449, 450, 451, 192, 193, 194, 195, 1349, 1350, 1351, 1352, 1353, 1354, 1355, 1356, 1357, 1358, 1359, 1360, 1361, 1362, 1363, 1364, 1365, 1366, 1367, 1368, 1369, 1370, 1371, 1372, 1373, 1374, 1375] (by decide +kernel) (by decide +kernel)
set_option maxRecDepth 20000 in
theorem gL_law_X12_leave : GoodIn wsL_law (wsV RL 43 RX12 yX12_leave wsX12_leave) := goodIn_app (goodIn_of _ (by decide +kernel)) ggL_law_X12_leave
set_option maxRecDepth 20000 in
theorem ggL_law_X11_weigh : GoodIn wsL_law wsX11_weigh := goodIn_r _ [515, 44, 27, 352, 354, 40, 248, 249, 2, 250, 155, 156, 157, 43, 158, 159, 121, 160, 161, 162, 355, 356, 357, 26, 358, 268, 516, 517, 518, 519, 372, 520, 486, 487, 87, 488, 277, 367, 368, 369, 370, 73, 371, 254, 255, 256, 39, 257, 258, 115, 116, 259, 260, 261, 262, 263, 264, 265, 266, 267, 77, 269, 270, 83, 84, 271, 272, 273, 274, 101, 275, 276, 278, 279, 103, 280, 281, 282, 283, 284, 285, 286, 287, 288, 289, 290, 291, 292, 61, 293, 67, 294, 295, 296, 297, 298, 299, 300, 301, 302, 303, 304, 80, 305, 306, 307, 308, 309, 310, 76, 311, 92, 312, 521, 522, 523, 524, 81, 379, 383, 384, 385, 386, 387, 326, 327, 328, 329, 388, 389, 390, 391, 407, 408, 409, 410, 415, 416, 417, 418, 419, 420, 421, 422, 423, 424, 425, 426, 427, 428, 429, 172, 173, 174, 175, 1337, 1338, 1339, 1340, 1341, 1342, 1343, 1344, 1345, 1346, 1347, 1348, 1383, 1384, 1385, 1386, 1387, 1388, 1389, 1390, 1391, 1392, 1410, 1411, 1412, 1413, 1414, 1415, 1416, 1417, 1418, 1419, 1420, 1421, 1422, 1423, 1424, 1425, 1426, 1427, 1400, 1401, 1396, 1397, 1398, 1399, 1402, 1403, 1404, 1405, 1406, 1408, 1409, 1407] (by decide +kernel) (by decide +kernel)
set_option maxRecDepth 20000 in
theorem gL_law_X11_weigh : GoodIn wsL_law (wsV RL 44 RX11 yX11_weigh wsX11_weigh) := goodIn_app (goodIn_of _ (by decide +kernel)) ggL_law_X11_weigh
set_option maxRecDepth 20000 in
theorem ggL_law_X12_weigh : GoodIn wsL_law wsX12_weigh := goodIn_r _ [528, 180, 338, 447, 184, 185, 5, 186, 187, 188, 189, 190, 191, 126, 435, 436, 437, 438, 128, 456, 457, 458, 459, 345, 346, 347, 452, 453, 454, 455, 448, 449, 450, 451, 340, 341, 342, 343, 344, 129, 133, 529, 530, 531, 532, 464, 465, 466, 467, 468, 469, 470, 471, 508, 509, 510, 511, 477, 478, 479, 192, 193, 194, 195, 1349, 1350, 1351, 1352, 1353, 1354, 1355, 1356, 1357, 1358, 1359, 1360, 1361, 1362, 1363, 1364, 1365, 1366, 1367, 1368, 1369, 1370, 1371, 1372, 1373, 1374, 1375] (by decide +kernel) (by decide +kernel)
set_option maxRecDepth 20000 in
theorem gL_law_X12_weigh : GoodIn wsL_law (wsV RL 47 RX12 yX12_weigh wsX12_weigh) := goodIn_app (goodIn_of _ (by decide +kernel)) ggL_law_X12_weigh
set_option maxRecDepth 20000 in
theorem ggL_law_X11_slice : GoodIn wsL_law wsX11_slice := goodIn_r _ [536, 44, 27, 352, 537, 40, 251, 252, 2, 253, 155, 156, 157, 43, 158, 159, 121, 160, 161, 162, 355, 356, 357, 26, 358, 268, 254, 255, 256, 39, 257, 258, 115, 116, 259, 260, 261, 262, 263, 264, 265, 266, 267, 73, 77, 269, 270, 83, 84, 271, 272, 273, 87, 274, 101, 275, 276, 277, 278, 279, 103, 280, 281, 282, 283, 284, 285, 286, 287, 288, 289, 290, 291, 292, 61, 293, 67, 294, 295, 296, 297, 298, 299, 300, 301, 302, 303, 304, 80, 305, 306, 307, 308, 309, 310, 76, 311, 92, 312, 538, 539, 540, 541, 542, 172, 173, 174, 175, 1337, 1338, 1339, 1340, 1341, 1342, 1343, 1344, 1345, 1346, 1347, 1348, 1383, 1384, 1385, 1386, 1387, 1388, 1389, 1390, 1391, 1392, 1410, 1411, 1412, 1413, 1414, 1415, 1416, 1417, 1418, 1419, 1420, 1421, 1422, 1423, 1424, 1425, 1426, 1427, 1400, 1401, 1396, 1397, 1398, 1399, 1402, 1403, 1404, 1405, 1406, 1408, 1409, 1407] (by decide +kernel) (by decide +kernel)
set_option maxRecDepth 20000 in
theorem gL_law_X11_slice : GoodIn wsL_law (wsV RL 48 RX11 yX11_slice wsX11_slice) := goodIn_app (goodIn_of _ (by decide +kernel)) ggL_law_X11_slice
set_option maxRecDepth 20000 in
theorem ggL_law_X12_slice : GoodIn wsL_law wsX12_slice := goodIn_r _ [546, 180, 339, 128, 184, 185, 5, 186, 187, 188, 189, 190, 191, 126, 435, 436, 437, 438, 345, 346, 347, 340, 341, 342, 343, 344, 129, 133, 547, 548, 549, 550, 192, 193, 194, 195, 1349, 1350, 1351, 1352, 1353, 1354, 1355, 1356, 1357, 1358, 1359, 1360, 1361, 1362, 1363, 1364, 1365, 1366, 1367, 1368, 1369, 1370, 1371, 1372, 1373, 1374, 1375] (by decide +kernel) (by decide +kernel)
set_option maxRecDepth 20000 in
theorem gL_law_X12_slice : GoodIn wsL_law (wsV RL 51 RX12 yX12_slice wsX12_slice) := goodIn_app (goodIn_of _ (by decide +kernel)) ggL_law_X12_slice
set_option maxRecDepth 20000 in
theorem ggL_law_X11_wish : GoodIn wsL_law wsX11_wish := goodIn_r _ [554, 44, 27, 40, 352, 537, 155, 156, 157, 43, 158, 159, 121, 160, 161, 162, 355, 356, 357, 26, 358, 268, 254, 255, 256, 39, 257, 258, 115, 116, 259, 260, 261, 262, 263, 264, 265, 266, 267, 73, 77, 269, 270, 83, 84, 271, 272, 273, 87, 274, 101, 275, 276, 277, 278, 279, 103, 280, 281, 282, 283, 284, 285, 286, 287, 288, 289, 290, 291, 292, 61, 293, 67, 294, 295, 296, 297, 298, 299, 300, 301, 302, 303, 304, 80, 305, 306, 307, 308, 309, 310, 76, 311, 92, 312, 555, 556, 557, 558, 372, 559, 560, 561, 562, 367, 368, 369, 370, 371, 520, 486, 487, 488, 538, 539, 540, 541, 542, 172, 173, 174, 175, 1337, 1338, 1339, 1340, 1341, 1342, 1343, 1344, 1345, 1346, 1347, 1348, 1383, 1384, 1385, 1386, 1387, 1388, 1389, 1390, 1391, 1392, 1410, 1411, 1412, 1413, 1414, 1415, 1416, 1417, 1418, 1419, 1420, 1421, 1422, 1423, 1424, 1425, 1426, 1427, 1400, 1401, 1396, 1397, 1398, 1399, 1402, 1403, 1404, 1405, 1406, 1408, 1409, 1407] (by decide +kernel) (by decide +kernel)
set_option maxRecDepth 20000 in
theorem gL_law_X11_wish : GoodIn wsL_law (wsV RL 52 RX11 yX11_wish wsX11_wish) := goodIn_app (goodIn_of _ (by decide +kernel)) ggL_law_X11_wish
set_option maxRecDepth 20000 in
theorem ggL_law_X12_wish : GoodIn wsL_law wsX12_wish := goodIn_r _ [566, 180, 567, 339, 184, 185, 5, 186, 187, 188, 189, 190, 191, 126, 435, 436, 437, 438, 128, 340, 341, 342, 343, 344, 129, 133, 448, 449, 450, 451, 452, 453, 454, 455, 345, 346, 347, 456, 457, 458, 459, 547, 548, 549, 550, 192, 193, 194, 195, 1349, 1350, 1351, 1352, 1353, 1354, 1355, 1356, 1357, 1358, 1359, 1360, 1361, 1362, 1363, 1364, 1365, 1366, 1367, 1368, 1369, 1370, 1371, 1372, 1373, 1374, 1375] (by decide +kernel) (by decide +kernel)
set_option maxRecDepth 20000 in
theorem gL_law_X12_wish : GoodIn wsL_law (wsV RL 55 RX12 yX12_wish wsX12_wish) := goodIn_app (goodIn_of _ (by decide +kernel)) ggL_law_X12_wish
set_option maxRecDepth 20000 in
theorem ggL_law_X11_yields : GoodIn wsL_law wsX11_yields := goodIn_r _ [571, 27, 44, 352, 40, 572, 355, 356, 357, 26, 358, 268, 155, 156, 157, 43, 158, 159, 121, 160, 161, 162, 485, 486, 487, 87, 488, 277, 254, 255, 256, 39, 257, 258, 115, 116, 259, 260, 261, 262, 263, 264, 265, 266, 267, 73, 77, 269, 270, 83, 84, 271, 272, 273, 274, 101, 275, 276, 278, 279, 103, 280, 281, 282, 283, 284, 285, 286, 287, 288, 289, 290, 291, 292, 61, 293, 67, 294, 295, 296, 297, 298, 299, 300, 301, 302, 303, 304, 80, 305, 306, 307, 308, 309, 310, 76, 311, 92, 312, 573, 574, 575, 576, 379, 380, 381, 494, 577, 578, 579, 580, 581, 2, 582, 583, 172, 173, 174, 175, 1337, 1338, 1339, 1340, 1341, 1342, 1343, 1344, 1345, 1346, 1347, 1348, 1383, 1384, 1385, 1386, 1387, 1388, 1389, 1390, 1391, 1392, 1410, 1411, 1412, 1413, 1414, 1415, 1416, 1417, 1418, 1419, 1420, 1421, 1422, 1423, 1424, 1425, 1426, 1427, 1400, 1401, 1396, 1397, 1398, 1399, 1402, 1403, 1404, 1405, 1406, 1408, 1409, 1407] (by decide +kernel) (by decide +kernel)
set_option maxRecDepth 20000 in
theorem gL_law_X11_yields : GoodIn wsL_law (wsV RL 56 RX11 yX11_yields wsX11_yields) := goodIn_app (goodIn_of _ (by decide +kernel)) ggL_law_X11_yields
set_option maxRecDepth 20000 in
theorem ggL_law_X12_yields : GoodIn wsL_law wsX12_yields := goodIn_r _ [587, 180, 128, 145, 435, 436, 437, 5, 438, 184, 185, 186, 187, 188, 189, 190, 191, 126, 452, 453, 454, 455, 345, 346, 347, 340, 341, 342, 343, 344, 129, 133, 588, 589, 590, 591, 476, 468, 469, 470, 471, 456, 457, 458, 459, 192, 193, 194, 195, 1349, 1350, 1351, 1352, 1353, 1354, 1355, 1356, 1357, 1358, 1359, 1360, 1361, 1362, 1363, 1364, 1365, 1366, 1367, 1368, 1369, 1370, 1371, 1372, 1373, 1374, 1375] (by decide +kernel) (by decide +kernel)
set_option maxRecDepth 20000 in
theorem gL_law_X12_yields : GoodIn wsL_law (wsV RL 59 RX12 yX12_yields wsX12_yields) := goodIn_app (goodIn_of _ (by decide +kernel)) ggL_law_X12_yields
set_option maxRecDepth 20000 in
theorem ggL_law_X11_quota : GoodIn wsL_law wsX11_quota := goodIn_r _ [595, 44, 27, 40, 352, 596, 155, 156, 157, 43, 158, 159, 121, 160, 161, 162, 355, 356, 357, 26, 358, 268, 254, 255, 256, 39, 257, 258, 115, 116, 259, 260, 261, 262, 263, 264, 265, 266, 267, 73, 77, 269, 270, 83, 84, 271, 272, 273, 87, 274, 101, 275, 276, 277, 278, 279, 103, 280, 281, 282, 283, 284, 285, 286, 287, 288, 289, 290, 291, 292, 61, 293, 67, 294, 295, 296, 297, 298, 299, 300, 301, 302, 303, 304, 80, 305, 306, 307, 308, 309, 310, 76, 311, 92, 312, 597, 331, 332, 333, 172, 173, 174, 175, 1337, 1338, 1339, 1340, 1341, 1342, 1343, 1344, 1345, 1346, 1347, 1348, 1383, 1384, 1385, 1386, 1387, 1388, 1389, 1390, 1391, 1392, 1410, 1411, 1412, 1413, 1414, 1415, 1416, 1417, 1418, 1419, 1420, 1421, 1422, 1423, 1424, 1425, 1426, 1427, 1400, 1401, 1396, 1397, 1398, 1399, 1402, 1403, 1404, 1405, 1406, 1408, 1409, 1407] (by decide +kernel) (by decide +kernel)
set_option maxRecDepth 20000 in
theorem gL_law_X11_quota : GoodIn wsL_law (wsV RL 60 RX11 yX11_quota wsX11_quota) := goodIn_app (goodIn_of _ (by decide +kernel)) ggL_law_X11_quota
set_option maxRecDepth 20000 in
theorem ggL_law_X12_quota : GoodIn wsL_law wsX12_quota := goodIn_r _ [601, 180, 602, 603, 128, 184, 185, 5, 186, 187, 188, 189, 190, 191, 126, 435, 436, 437, 438, 340, 341, 342, 343, 344, 129, 133, 345, 346, 347, 192, 193, 194, 195, 1349, 1350, 1351, 1352, 1353, 1354, 1355, 1356, 1357, 1358, 1359, 1360, 1361, 1362, 1363, 1364, 1365, 1366, 1367, 1368, 1369, 1370, 1371, 1372, 1373, 1374, 1375] (by decide +kernel) (by decide +kernel)
set_option maxRecDepth 20000 in
theorem gL_law_X12_quota : GoodIn wsL_law (wsV RL 64 RX12 yX12_quota wsX12_quota) := goodIn_app (goodIn_of _ (by decide +kernel)) ggL_law_X12_quota
set_option maxRecDepth 20000 in
theorem ggL_law_X11_script : GoodIn wsL_law wsX11_script := goodIn_r _ [607, 27, 44, 352, 353, 354, 23, 19, 45, 200, 40, 608, 609, 355, 356, 357, 26, 358, 268, 155, 156, 157, 43, 158, 159, 121, 160, 161, 162, 485, 486, 487, 87, 488, 277, 359, 360, 361, 362, 288, 287, 363, 364, 365, 366, 367, 368, 369, 370, 73, 371, 372, 610, 611, 612, 22, 613, 62, 614, 615, 616, 322, 323, 61, 324, 298, 299, 300, 301, 617, 618, 619, 620, 621, 622, 623, 624, 625, 236, 237, 18, 238, 205, 55, 626, 627, 628, 629, 630, 631, 632, 633, 634, 635, 636, 637, 638, 639, 640, 641, 642, 643, 644, 645, 646, 647, 648, 649, 650, 651, 652, 653, 654, 655, 656, 657, 658, 659, 660, 661, 662, 663, 664, 665, 666, 667, 668, 669, 670, 671, 672, 673, 674, 675, 676, 677, 678, 679, 680, 681, 682, 683, 684, 685, 686, 687, 688, 689, 690, 691, 692, 693, 694, 261, 262, 263, 695, 696, 697, 698, 699, 700, 701, 702, 67, 254, 255, 256, 39, 257, 258, 115, 116, 259, 260, 264, 265, 266, 267, 77, 269, 270, 83, 84, 271, 272, 273, 274, 101, 275, 276, 278, 279, 103, 280, 281, 282, 283, 284, 285, 286, 289, 290, 291, 292, 293, 294, 295, 296, 297, 302, 303, 304, 80, 305, 306, 307, 308, 309, 310, 76, 311, 92, 312, 703, 704, 705, 706, 707, 520, 708, 374, 375, 376, 377, 85, 378, 82, 81, 379, 380, 381, 382, 383, 384, 385, 386, 387, 326, 327, 328, 329, 388, 389, 390, 391, 392, 393, 394, 395, 396, 397, 398, 399, 400, 325, 401, 402, 403, 404, 405, 406, 407, 408, 409, 410, 411, 412, 413, 414, 415, 416, 417, 418, 419, 420, 421, 422, 423, 424, 425, 426, 427, 428, 429, 709, 710, 711, 712, 713, 714, 715, 716, 717, 718, 719, 720, 721, 722, 723, 724, 725, 726, 727, 728, 729, 490, 491, 492, 493, 494, 495, 496, 497, 498, 730, 517, 518, 519, 731, 522, 523, 524, 732, 539, 540, 541, 542, 733, 734, 735, 736, 737, 738, 739, 172, 173, 174, 175, 1337, 1338, 1339, 1340, 1341, 1342, 1343, 1344, 1345, 1346, 1347, 1348, 1383, 1384, 1385, 1386, 1387, 1388, 1389, 1390, 1391, 1392, 1410, 1411, 1412, 1413, 1414, 1415, 1416, 1417, 1418, 1419, 1420, 1421, 1422, 1423, 1424, 1425, 1426, 1427, 1379, 1380, 1381, 1382, 1402, 1403, 1404, 1405, 1406, 1400, 1401, 1396, 1397, 1398, 1399, 1408, 1409, 1407, 1376, 1377, 1378] (by decide +kernel) (by decide +kernel)
set_option maxRecDepth 20000 in
theorem gL_law_X11_script : GoodIn wsL_law (wsV RL 65 RX11 yX11_script wsX11_script) := goodIn_app (goodIn_of _ (by decide +kernel)) ggL_law_X11_script
set_option maxRecDepth 20000 in
theorem ggL_law_X12_script : GoodIn wsL_law wsX12_script := goodIn_r _ [743, 180, 128, 218, 744, 143, 144, 745, 435, 436, 437, 5, 438, 184, 185, 186, 187, 188, 189, 190, 191, 126, 345, 346, 347, 439, 440, 441, 442, 443, 444, 445, 446, 447, 448, 449, 450, 451, 452, 453, 454, 455, 456, 457, 458, 459, 746, 747, 748, 749, 750, 135, 751, 752, 753, 754, 755, 756, 757, 758, 134, 759, 760, 145, 183, 761, 762, 763, 764, 765, 766, 767, 768, 769, 770, 771, 772, 141, 142, 773, 774, 775, 776, 340, 341, 342, 343, 344, 129, 133, 460, 461, 462, 463, 464, 465, 466, 467, 468, 469, 470, 471, 472, 473, 474, 475, 476, 127, 477, 478, 479, 777, 778, 779, 780, 181, 504, 505, 506, 507, 508, 509, 510, 511, 781, 782, 783, 784, 785, 529, 530, 531, 532, 547, 548, 549, 550, 192, 193, 194, 195, 1349, 1350, 1351, 1352, 1353, 1354, 1355, 1356, 1357, 1358, 1359, 1360, 1361, 1362, 1363, 1364, 1365, 1366, 1367, 1368, 1369, 1370, 1371, 1372, 1373, 1374, 1375] (by decide +kernel) (by decide +kernel)
set_option maxRecDepth 20000 in
theorem gL_law_X12_script : GoodIn wsL_law (wsV RL 68 RX12 yX12_script wsX12_script) := goodIn_app (goodIn_of _ (by decide +kernel)) ggL_law_X12_script
set_option maxRecDepth 20000 in
theorem ggL_law_X11_listing : GoodIn wsL_law wsX11_listing := goodIn_r _ [789, 27, 44, 352, 484, 19, 200, 355, 356, 357, 26, 358, 268, 155, 156, 157, 43, 158, 159, 121, 160, 161, 162, 790, 791, 792, 61, 793, 298, 794, 795, 796, 797, 798, 211, 212, 18, 213, 205, 55, 738, 726, 727, 728, 67, 799, 635, 636, 800, 801, 802, 803, 804, 642, 643, 644, 645, 646, 647, 648, 649, 650, 651, 652, 805, 654, 655, 656, 657, 658, 659, 660, 661, 662, 663, 664, 665, 666, 667, 668, 669, 670, 671, 672, 673, 674, 675, 676, 677, 678, 679, 680, 681, 682, 683, 684, 685, 686, 687, 688, 689, 210, 737, 722, 723, 724, 806, 807, 808, 809, 172, 173, 174, 175, 1337, 1338, 1339, 1340, 1341, 1342, 1343, 1344, 1345, 1346, 1347, 1348, 1383, 1384, 1385, 1386, 1387, 1388, 1389, 1390, 1391, 1392, 1410, 1411, 1412, 1413, 1414, 1415, 1416, 1417, 1418, 1419, 1420, 1421, 1422, 1423, 1424, 1425, 1426, 1427, 1379, 1380, 1400, 1401, 1402, 1403, 1404, 1405, 1406] (by decide +kernel) (by decide +kernel)
set_option maxRecDepth 20000 in
theorem gL_law_X11_listing : GoodIn wsL_law (wsV RL 69 RX11 yX11_listing wsX11_listing) := goodIn_app (goodIn_of _ (by decide +kernel)) ggL_law_X11_listing
set_option maxRecDepth 20000 in
theorem ggL_law_X12_listing : GoodIn wsL_law wsX12_listing := goodIn_r _ [813, 180, 128, 218, 141, 814, 761, 435, 436, 437, 5, 438, 184, 185, 186, 187, 188, 189, 190, 191, 126, 345, 346, 347, 815, 816, 817, 818, 134, 819, 820, 821, 822, 823, 192, 193, 194, 195, 1349, 1350, 1351, 1352, 1353, 1354, 1355, 1356, 1357, 1358, 1359, 1360, 1361, 1362, 1363, 1364, 1365, 1366, 1367, 1368, 1369, 1370, 1371, 1372, 1373, 1374, 1375] (by decide +kernel) (by decide +kernel)
set_option maxRecDepth 20000 in
theorem gL_law_X12_listing : GoodIn wsL_law (wsV RL 72 RX12 yX12_listing wsX12_listing) := goodIn_app (goodIn_of _ (by decide +kernel)) ggL_law_X12_listing
set_option maxRecDepth 20000 in
theorem ggL_law_X11_fault : GoodIn wsL_law wsX11_fault := goodIn_r _ [827, 45, 1337, 1338, 1339, 1340, 1341, 1342, 1343, 1344, 1345, 1346, 1347, 1348] (by decide +kernel) (by decide +kernel)
set_option maxRecDepth 20000 in
theorem gL_law_X11_fault : GoodIn wsL_law (wsV RL 73 RX11 yX11_fault wsX11_fault) := goodIn_app (goodIn_of _ (by decide +kernel)) ggL_law_X11_fault
set_option maxRecDepth 20000 in
theorem ggL_law_X12_fault : GoodIn wsL_law wsX12_fault := goodIn_r _ [831, 180, 135, 1349, 1350, 1351, 1352, 1353, 1354, 1355, 1356, 1357, 1358, 1359, 1360, 1361, 1362, 1363, 1364, 1365, 1366, 1367, 1368, 1369, 1370, 1371, 1372, 1373, 1374, 1375] (by decide +kernel) (by decide +kernel)
set_option maxRecDepth 20000 in
theorem gL_law_X12_fault : GoodIn wsL_law (wsV RL 77 RX12 yX12_fault wsX12_fault) := goodIn_app (goodIn_of _ (by decide +kernel)) ggL_law_X12_fault
set_option maxRecDepth 20000 in
theorem ggL_law_X11_ticks : GoodIn wsL_law wsX11_ticks := goodIn_r _ [835, 44, 27, 836, 40, 32, 155, 156, 157, 43, 158, 159, 121, 160, 161, 162, 254, 255, 256, 39, 257, 258, 115, 116, 259, 260, 261, 262, 263, 264, 265, 266, 26, 267, 268, 73, 77, 269, 270, 83, 84, 271, 272, 273, 87, 274, 101, 275, 276, 277, 278, 279, 103, 280, 281, 282, 283, 284, 285, 286, 287, 288, 289, 290, 291, 292, 61, 293, 67, 294, 295, 296, 297, 298, 299, 300, 301, 302, 303, 304, 80, 305, 306, 307, 308, 309, 310, 76, 311, 92, 312, 837, 838, 839, 840, 841, 842, 843, 844, 845, 846, 847, 848, 371, 372, 716, 707, 714, 849, 360, 361, 362, 850, 364, 365, 366, 367, 368, 369, 370, 708, 374, 375, 376, 377, 85, 378, 82, 81, 379, 380, 381, 382, 383, 384, 385, 386, 387, 326, 327, 328, 329, 388, 389, 390, 391, 392, 393, 394, 395, 396, 397, 398, 399, 400, 325, 401, 402, 403, 404, 405, 406, 407, 408, 409, 410, 411, 412, 413, 414, 415, 416, 417, 418, 419, 420, 421, 422, 423, 424, 425, 426, 427, 428, 429, 710, 711, 712, 713, 715, 717, 718, 719, 720, 721, 722, 723, 724, 725, 726, 727, 728, 729, 490, 491, 492, 493, 494, 495, 496, 497, 498, 730, 517, 518, 519, 520, 486, 487, 488, 731, 522, 523, 524, 732, 539, 540, 541, 542, 733, 734, 735, 736, 737, 738, 739, 322, 323, 324, 851, 852, 853, 31, 854, 855, 109, 856, 857, 858, 859, 860, 861, 862, 863, 864, 865, 866, 867, 868, 869, 870, 871, 356, 357, 358, 872, 873, 874, 875, 104, 876, 578, 579, 580, 581, 2, 582, 583, 877, 878, 879, 880, 881, 882, 883, 884, 885, 886, 887, 888, 889, 890, 891, 892, 893, 894, 895, 896, 897, 898, 899, 900, 901, 902, 903, 904, 905, 906, 907, 908, 909, 910, 911, 912, 913, 914, 915, 916, 917, 918, 919, 920, 561, 562, 921, 922, 923, 924, 925, 926, 927, 928, 929, 930, 931, 932, 791, 792, 793, 933, 934, 935, 936, 172, 173, 174, 175, 1337, 1338, 1339, 1340, 1341, 1342, 1343, 1344, 1345, 1346, 1347, 1348, 1383, 1384, 1385, 1386, 1387, 1388, 1389, 1390, 1391, 1392, 1400, 1401, 1396, 1397, 1398, 1399, 1410, 1411, 1412, 1413, 1414, 1415, 1416, 1417, 1418, 1419, 1420, 1421, 1422, 1423, 1424, 1425, 1426, 1427, 1402, 1403, 1404, 1405, 1406, 1408, 1409, 1407, 1376, 1377, 1378, 1393, 1394, 1395] (by decide +kernel) (by decide +kernel)
set_option maxRecDepth 20000 in
theorem gL_law_X11_ticks : GoodIn wsL_law (wsV RL 78 RX11 yX11_ticks wsX11_ticks) := goodIn_app (goodIn_of _ (by decide +kernel)) ggL_law_X11_ticks
set_option maxRecDepth 20000 in
theorem ggL_law_X12_ticks : GoodIn wsL_law wsX12_ticks := goodIn_r _ [940, 180, 603, 128, 941, 184, 185, 5, 186, 187, 188, 189, 190, 191, 126, 340, 341, 342, 343, 344, 129, 133, 942, 943, 944, 945, 182, 181, 345, 346, 347, 439, 440, 441, 442, 443, 444, 445, 446, 447, 448, 449, 450, 451, 452, 453, 454, 455, 456, 457, 458, 459, 460, 461, 462, 463, 464, 465, 466, 467, 468, 469, 470, 471, 472, 473, 474, 475, 476, 127, 477, 478, 479, 946, 947, 948, 949, 777, 778, 779, 780, 504, 505, 506, 507, 145, 508, 509, 510, 511, 781, 782, 783, 784, 785, 529, 530, 531, 532, 547, 548, 549, 550, 950, 951, 952, 953, 954, 955, 956, 957, 958, 959, 960, 961, 962, 963, 964, 965, 588, 589, 590, 591, 966, 967, 968, 969, 970, 971, 972, 973, 974, 975, 976, 977, 978, 979, 980, 981, 982, 983, 984, 985, 986, 987, 192, 193, 194, 195, 1349, 1350, 1351, 1352, 1353, 1354, 1355, 1356, 1357, 1358, 1359, 1360, 1361, 1362, 1363, 1364, 1365, 1366, 1367, 1368, 1369, 1370, 1371, 1372, 1373, 1374, 1375] (by decide +kernel) (by decide +kernel)
set_option maxRecDepth 20000 in
theorem gL_law_X12_ticks : GoodIn wsL_law (wsV RL 81 RX12 yX12_ticks wsX12_ticks) := goodIn_app (goodIn_of _ (by decide +kernel)) ggL_law_X12_ticks
set_option maxRecDepth 20000 in
theorem ggL_law_X11_undo : GoodIn wsL_law wsX11_undo := goodIn_r _ [991, 40, 992, 44, 27, 155, 156, 157, 43, 158, 159, 121, 160, 161, 162, 993, 994, 995, 39, 996, 258, 259, 115, 116, 264, 265, 266, 26, 267, 268, 73, 77, 269, 270, 83, 84, 271, 272, 273, 87, 274, 101, 275, 276, 277, 278, 279, 103, 280, 281, 282, 283, 284, 285, 286, 287, 288, 289, 290, 291, 292, 61, 293, 67, 294, 295, 296, 297, 298, 299, 300, 301, 302, 303, 304, 80, 305, 306, 307, 308, 309, 310, 76, 311, 92, 312, 172, 173, 174, 175, 1337, 1338, 1339, 1340, 1341, 1342, 1343, 1344, 1345, 1346, 1347, 1348, 1396, 1397, 1398, 1399, 1400, 1401, 1383, 1384, 1385, 1386, 1387, 1388, 1389, 1390, 1391, 1392, 1410, 1411, 1412, 1413, 1414, 1415, 1416, 1417, 1418, 1419, 1420, 1421, 1422, 1423, 1424, 1425, 1426, 1427, 1402, 1403, 1404, 1405, 1406, 1408, 1409, 1407] (by decide +kernel) (by decide +kernel)
set_option maxRecDepth 20000 in
theorem gL_law_X11_undo : GoodIn wsL_law (wsV RL 82 RX11 yX11_undo wsX11_undo) := goodIn_app (goodIn_of _ (by decide +kernel)) ggL_law_X11_undo
set_option maxRecDepth 20000 in
theorem ggL_law_X12_undo : GoodIn wsL_law wsX12_undo := goodIn_r _ [1000, 180, 344, 128, 129, 133, 187, 188, 189, 5, 190, 191, 126, 192, 193, 194, 195, 1349, 1350, 1351, 1352, 1353, 1354, 1355, 1356, 1357, 1358, 1359, 1360, 1361, 1362, 1363, 1364, 1365, 1366, 1367, 1368, 1369, 1370, 1371, 1372, 1373, 1374, 1375] (by decide +kernel) (by decide +kernel)
set_option maxRecDepth 20000 in
theorem gL_law_X12_undo : GoodIn wsL_law (wsV RL 85 RX12 yX12_undo wsX12_undo) := goodIn_app (goodIn_of _ (by decide +kernel)) ggL_law_X12_undo
set_option maxRecDepth 20000 in
theorem ggL_law_X11_image : GoodIn wsL_law wsX11_image := goodIn_r _ [1004, 44, 34, 27, 36, 836, 1005, 1006, 2, 1007, 155, 156, 157, 43, 158, 159, 121, 160, 161, 162, 1008, 265, 266, 26, 267, 268, 73, 77, 269, 270, 83, 84, 271, 272, 273, 87, 274, 101, 275, 276, 277, 278, 279, 103, 280, 281, 282, 283, 284, 285, 286, 287, 288, 289, 290, 291, 292, 61, 293, 67, 294, 295, 296, 297, 298, 299, 300, 301, 302, 303, 304, 80, 305, 306, 307, 308, 309, 310, 76, 311, 92, 312, 172, 173, 174, 175, 1337, 1338, 1339, 1340, 1341, 1342, 1343, 1344, 1345, 1346, 1347, 1348, 1383, 1384, 1385, 1386, 1387, 1388, 1389, 1390, 1391, 1392, 1400, 1401, 1410, 1411, 1412, 1413, 1414, 1415, 1416, 1417, 1418, 1419, 1420, 1421, 1422, 1423, 1424, 1425, 1426, 1427, 1402, 1403, 1404, 1405, 1406, 1408, 1409, 1407] (by decide +kernel) (by decide +kernel)
set_option maxRecDepth 20000 in
theorem gL_law_X11_image : GoodIn wsL_law (wsV RL 86 RX11 yX11_image wsX11_image) := goodIn_app (goodIn_of _ (by decide +kernel)) ggL_law_X11_image
set_option maxRecDepth 20000 in
theorem ggL_law_X12_image : GoodIn wsL_law wsX12_image := goodIn_r _ [1012, 180, 131, 128, 132, 184, 185, 5, 186, 187, 188, 189, 190, 191, 126, 192, 193, 194, 195, 1349, 1350, 1351, 1352, 1353, 1354, 1355, 1356, 1357, 1358, 1359, 1360, 1361, 1362, 1363, 1364, 1365, 1366, 1367, 1368, 1369, 1370, 1371, 1372, 1373, 1374, 1375] (by decide +kernel) (by decide +kernel)
set_option maxRecDepth 20000 in
theorem gL_law_X12_image : GoodIn wsL_law (wsV RL 89 RX12 yX12_image wsX12_image) := goodIn_app (goodIn_of _ (by decide +kernel)) ggL_law_X12_image
set_option maxRecDepth 20000 in
theorem ggL_law_X11_back : GoodIn wsL_law wsX11_back := goodIn_r _ [1016, 44, 36, 27, 34, 40, 992, 836, 1005, 1006, 2, 1007, 155, 156, 157, 43, 158, 159, 121, 160, 161, 162, 1008, 265, 266, 26, 267, 268, 73, 77, 269, 270, 83, 84, 271, 272, 273, 87, 274, 101, 275, 276, 277, 278, 279, 103, 280, 281, 282, 283, 284, 285, 286, 287, 288, 289, 290, 291, 292, 61, 293, 67, 294, 295, 296, 297, 298, 299, 300, 301, 302, 303, 304, 80, 305, 306, 307, 308, 309, 310, 76, 311, 92, 312, 172, 173, 174, 175, 1337, 1338, 1339, 1340, 1341, 1342, 1343, 1344, 1345, 1346, 1347, 1348, 1396, 1397, 1398, 1399, 1383, 1384, 1385, 1386, 1387, 1388, 1389, 1390, 1391, 1392, 1400, 1401, 1410, 1411, 1412, 1413, 1414, 1415, 1416, 1417, 1418, 1419, 1420, 1421, 1422, 1423, 1424, 1425, 1426, 1427, 1402, 1403, 1404, 1405, 1406, 1408, 1409, 1407] (by decide +kernel) (by decide +kernel)
set_option maxRecDepth 20000 in
theorem gL_law_X11_back : GoodIn wsL_law (wsV RL 90 RX11 yX11_back wsX11_back) := goodIn_app (goodIn_of _ (by decide +kernel)) ggL_law_X11_back
set_option maxRecDepth 20000 in
theorem ggL_law_X12_back : GoodIn wsL_law wsX12_back := goodIn_r _ [1020, 180, 132, 128, 131, 344, 184, 185, 5, 186, 187, 188, 189, 190, 191, 126, 192, 193, 194, 195, 1349, 1350, 1351, 1352, 1353, 1354, 1355, 1356, 1357, 1358, 1359, 1360, 1361, 1362, 1363, 1364, 1365, 1366, 1367, 1368, 1369, 1370, 1371, 1372, 1373, 1374, 1375] (by decide +kernel) (by decide +kernel)
set_option maxRecDepth 20000 in
theorem gL_law_X12_back : GoodIn wsL_law (wsV RL 93 RX12 yX12_back wsX12_back) := goodIn_app (goodIn_of _ (by decide +kernel)) ggL_law_X12_back
set_option maxRecDepth 20000 in
theorem ggL_law_X11_of : GoodIn wsL_law wsX11_of := goodIn_r _ [1024, 27, 352, 355, 356, 357, 26, 358, 268, 1025, 1026, 1027, 87, 1028, 275, 276, 277, 279, 281, 282, 283, 284, 285, 286, 101, 1029, 1030, 287, 288, 289, 1031, 486, 487, 488, 1032, 791, 792, 61, 793, 298, 1033, 1034, 1035, 1036, 299, 738, 726, 727, 728, 67, 1337, 1338, 1339, 1340, 1341, 1342, 1343, 1344, 1345, 1346, 1347, 1348, 1383, 1384, 1385, 1386, 1387, 1388, 1389, 1390, 1391, 1392, 1410, 1411, 1412, 1413, 1414, 1415, 1416, 1417, 1418, 1419, 1420, 1421, 1422, 1423, 1424, 1425, 1426, 1427, 1402, 1403, 1404, 1405, 1406] (by decide +kernel) (by decide +kernel)
set_option maxRecDepth 20000 in
theorem gL_law_X11_of : GoodIn wsL_law (wsV RL 94 RX11 yX11_of wsX11_of) := goodIn_app (goodIn_of _ (by decide +kernel)) ggL_law_X11_of
set_option maxRecDepth 20000 in
theorem ggL_law_X12_of : GoodIn wsL_law wsX12_of := goodIn_r _ [1040, 180, 128, 181, 338, 435, 436, 437, 5, 438, 184, 185, 186, 345, 346, 347, 452, 453, 454, 455, 1349, 1350, 1351, 1352, 1353, 1354, 1355, 1356, 1357, 1358, 1359, 1360, 1361, 1362, 1363, 1364, 1365, 1366, 1367, 1368, 1369, 1370, 1371, 1372, 1373, 1374, 1375] (by decide +kernel) (by decide +kernel)
set_option maxRecDepth 20000 in
theorem gL_law_X12_of : GoodIn wsL_law (wsV RL 97 RX12 yX12_of wsX12_of) := goodIn_app (goodIn_of _ (by decide +kernel)) ggL_law_X12_of
set_option maxRecDepth 20000 in
theorem ggL_law_X11_exact : GoodIn wsL_law wsX11_exact := goodIn_r _ [1044, 27, 1045, 352, 1046, 1047, 355, 356, 357, 26, 358, 268, 485, 486, 487, 87, 488, 277, 1048, 427, 428, 80, 429, 306, 307, 1049, 578, 579, 580, 278, 279, 275, 581, 2, 582, 583, 1050, 1051, 1052, 1053, 82, 495, 496, 497, 498, 73, 371, 372, 379, 387, 326, 327, 328, 329, 388, 389, 390, 391, 407, 408, 409, 410, 426, 1337, 1338, 1339, 1340, 1341, 1342, 1343, 1344, 1345, 1346, 1347, 1348, 1383, 1384, 1385, 1386, 1387, 1388, 1389, 1390, 1391, 1392, 1410, 1411, 1412, 1413, 1414, 1415, 1416, 1417, 1418, 1419, 1420, 1421, 1422, 1423, 1424, 1425, 1426, 1427, 1408, 1409] (by decide +kernel) (by decide +kernel)
set_option maxRecDepth 20000 in
theorem gL_law_X11_exact : GoodIn wsL_law (wsV RL 98 RX11 yX11_exact wsX11_exact) := goodIn_app (goodIn_of _ (by decide +kernel)) ggL_law_X11_exact
set_option maxRecDepth 20000 in
theorem ggL_law_X12_exact : GoodIn wsL_law wsX12_exact := goodIn_r _ [1057, 180, 1058, 128, 435, 436, 437, 5, 438, 184, 185, 186, 452, 453, 454, 455, 345, 346, 347, 468, 469, 470, 471, 588, 589, 590, 591, 476, 456, 457, 458, 459, 508, 509, 510, 511, 464, 465, 466, 467, 448, 449, 450, 451, 1349, 1350, 1351, 1352, 1353, 1354, 1355, 1356, 1357, 1358, 1359, 1360, 1361, 1362, 1363, 1364, 1365, 1366, 1367, 1368, 1369, 1370, 1371, 1372, 1373, 1374, 1375] (by decide +kernel) (by decide +kernel)
set_option maxRecDepth 20000 in
theorem gL_law_X12_exact : GoodIn wsL_law (wsV RL 102 RX12 yX12_exact wsX12_exact) := goodIn_app (goodIn_of _ (by decide +kernel)) ggL_law_X12_exact
set_option maxRecDepth 20000 in
theorem ggL_law_X11_time : GoodIn wsL_law wsX11_time := goodIn_r _ [1062, 27, 836, 1045, 1063, 868, 869, 26, 870, 81, 383, 384, 385, 386, 268, 73, 371, 372, 379, 270, 387, 326, 327, 80, 328, 306, 329, 307, 388, 389, 390, 391, 415, 416, 417, 418, 419, 420, 421, 422, 423, 424, 425, 426, 427, 428, 429, 1064, 1065, 1066, 1067, 1068, 1069, 1070, 1071, 430, 368, 369, 370, 1337, 1338, 1339, 1340, 1341, 1342, 1343, 1344, 1345, 1346, 1347, 1348, 1383, 1384, 1385, 1386, 1387, 1388, 1389, 1390, 1391, 1392, 1410, 1411, 1412, 1413, 1414, 1415, 1416, 1417, 1418, 1419, 1420, 1421, 1422, 1423, 1424, 1425, 1426, 1427, 1408, 1409] (by decide +kernel) (by decide +kernel)
set_option maxRecDepth 20000 in
theorem gL_law_X11_time : GoodIn wsL_law (wsV RL 103 RX11 yX11_time wsX11_time) := goodIn_app (goodIn_of _ (by decide +kernel)) ggL_law_X11_time
set_option maxRecDepth 20000 in
theorem ggL_law_X12_time : GoodIn wsL_law wsX12_time := goodIn_r _ [1075, 180, 128, 1058, 448, 449, 450, 5, 451, 452, 453, 454, 455, 345, 346, 347, 456, 457, 458, 459, 464, 465, 466, 467, 468, 469, 470, 471, 477, 478, 479, 1349, 1350, 1351, 1352, 1353, 1354, 1355, 1356, 1357, 1358, 1359, 1360, 1361, 1362, 1363, 1364, 1365, 1366, 1367, 1368, 1369, 1370, 1371, 1372, 1373, 1374, 1375] (by decide +kernel) (by decide +kernel)
set_option maxRecDepth 20000 in
theorem gL_law_X12_time : GoodIn wsL_law (wsV RL 107 RX12 yX12_time wsX12_time) := goodIn_app (goodIn_of _ (by decide +kernel)) ggL_law_X12_time
set_option maxRecDepth 20000 in
theorem ggL_law_X11_eligible : GoodIn wsL_law wsX11_eligible := goodIn_r _ [1079, 27, 1080, 1081, 1082, 26, 1083, 268, 73, 379, 867, 868, 869, 870, 81, 383, 384, 385, 386, 371, 372, 270, 387, 326, 327, 80, 328, 306, 329, 307, 388, 389, 390, 391, 415, 416, 417, 418, 419, 420, 421, 422, 423, 424, 425, 426, 427, 428, 429, 520, 486, 487, 87, 488, 277, 1337, 1338, 1339, 1340, 1341, 1342, 1343, 1344, 1345, 1346, 1347, 1348, 1383, 1384, 1385, 1386, 1387, 1388, 1389, 1390, 1391, 1392, 1410, 1411, 1412, 1413, 1414, 1415, 1416, 1417, 1418, 1419, 1420, 1421, 1422, 1423, 1424, 1425, 1426, 1427, 1408, 1409] (by decide +kernel) (by decide +kernel)
set_option maxRecDepth 20000 in
theorem gL_law_X11_eligible : GoodIn wsL_law (wsV RL 108 RX11 yX11_eligible wsX11_eligible) := goodIn_app (goodIn_of _ (by decide +kernel)) ggL_law_X11_eligible
set_option maxRecDepth 20000 in
theorem ggL_law_X12_eligible : GoodIn wsL_law wsX12_eligible := goodIn_r _ [1087, 180, 128, 962, 963, 964, 5, 965, 452, 453, 454, 455, 345, 346, 347, 448, 449, 450, 451, 456, 457, 458, 459, 468, 469, 470, 471, 464, 465, 466, 467, 1349, 1350, 1351, 1352, 1353, 1354, 1355, 1356, 1357, 1358, 1359, 1360, 1361, 1362, 1363, 1364, 1365, 1366, 1367, 1368, 1369, 1370, 1371, 1372, 1373, 1374, 1375] (by decide +kernel) (by decide +kernel)
set_option maxRecDepth 20000 in
theorem gL_law_X12_eligible : GoodIn wsL_law (wsV RL 111 RX12 yX12_eligible wsX12_eligible) := goodIn_app (goodIn_of _ (by decide +kernel)) ggL_law_X12_eligible
set_option maxRecDepth 20000 in
theorem ggL_law_X11_earliest : GoodIn wsL_law wsX11_earliest := goodIn_r _ [1091, 27, 1092, 1093, 1094, 26, 1095, 268, 73, 1096, 1081, 1082, 1083, 379, 867, 868, 869, 870, 81, 383, 384, 385, 386, 371, 372, 270, 387, 326, 327, 80, 328, 306, 329, 307, 388, 389, 390, 391, 415, 416, 417, 418, 419, 420, 421, 422, 423, 424, 425, 426, 427, 428, 429, 520, 486, 487, 87, 488, 277, 1097, 1098, 1099, 1100, 872, 873, 874, 875, 278, 104, 876, 578, 579, 580, 279, 275, 581, 2, 582, 583, 1337, 1338, 1339, 1340, 1341, 1342, 1343, 1344, 1345, 1346, 1347, 1348, 1383, 1384, 1385, 1386, 1387, 1388, 1389, 1390, 1391, 1392, 1410, 1411, 1412, 1413, 1414, 1415, 1416, 1417, 1418, 1419, 1420, 1421, 1422, 1423, 1424, 1425, 1426, 1427, 1408, 1409] (by decide +kernel) (by decide +kernel)
set_option maxRecDepth 20000 in
theorem gL_law_X11_earliest : GoodIn wsL_law (wsV RL 112 RX11 yX11_earliest wsX11_earliest) := goodIn_app (goodIn_of _ (by decide +kernel)) ggL_law_X11_earliest
set_option maxRecDepth 20000 in
theorem ggL_law_X12_earliest : GoodIn wsL_law wsX12_earliest := goodIn_r _ [1104, 180, 128, 962, 963, 964, 5, 965, 452, 453, 454, 455, 345, 346, 347, 448, 449, 450, 451, 456, 457, 458, 459, 468, 469, 470, 471, 464, 465, 466, 467, 1105, 1106, 1107, 1108, 588, 589, 590, 591, 476, 1349, 1350, 1351, 1352, 1353, 1354, 1355, 1356, 1357, 1358, 1359, 1360, 1361, 1362, 1363, 1364, 1365, 1366, 1367, 1368, 1369, 1370, 1371, 1372, 1373, 1374, 1375] (by decide +kernel) (by decide +kernel)
set_option maxRecDepth 20000 in
theorem gL_law_X12_earliest : GoodIn wsL_law (wsV RL 115 RX12 yX12_earliest wsX12_earliest) := goodIn_app (goodIn_of _ (by decide +kernel)) ggL_law_X12_earliest
set_option maxRecDepth 20000 in
theorem ggL_law_X11_rank : GoodIn wsL_law wsX11_rank := goodIn_r _ [1112, 27, 352, 355, 356, 357, 26, 358, 268, 485, 486, 487, 87, 488, 277, 1113, 1114, 1115, 1116, 73, 379, 494, 520, 1337, 1338, 1339, 1340, 1341, 1342, 1343, 1344, 1345, 1346, 1347, 1348, 1383, 1384, 1385, 1386, 1387, 1388, 1389, 1390, 1391, 1392, 1410, 1411, 1412, 1413, 1414, 1415, 1416, 1417, 1418, 1419, 1420, 1421, 1422, 1423, 1424, 1425, 1426, 1427] (by decide +kernel) (by decide +kernel)
set_option maxRecDepth 20000 in
theorem gL_law_X11_rank : GoodIn wsL_law (wsV RL 116 RX11 yX11_rank wsX11_rank) := goodIn_app (goodIn_of _ (by decide +kernel)) ggL_law_X11_rank
set_option maxRecDepth 20000 in
theorem ggL_law_X12_rank : GoodIn wsL_law wsX12_rank := goodIn_r _ [1120, 180, 128, 435, 436, 437, 5, 438, 184, 185, 186, 452, 453, 454, 455, 345, 346, 347, 468, 469, 470, 471, 1349, 1350, 1351, 1352, 1353, 1354, 1355, 1356, 1357, 1358, 1359, 1360, 1361, 1362, 1363, 1364, 1365, 1366, 1367, 1368, 1369, 1370, 1371, 1372, 1373, 1374, 1375] (by decide +kernel) (by decide +kernel)
set_option maxRecDepth 20000 in
theorem gL_law_X12_rank : GoodIn wsL_law (wsV RL 119 RX12 yX12_rank wsX12_rank) := goodIn_app (goodIn_of _ (by decide +kernel)) ggL_law_X12_rank
set_option maxRecDepth 20000 in
theorem ggL_law_X11_ran : GoodIn wsL_law wsX11_ran := goodIn_r _ [1124, 27, 1125, 1126, 1127, 1128, 26, 1129, 269, 1130, 1131, 1132, 1133, 560, 561, 262, 562, 1134, 1135, 1136, 76, 1137, 92, 1337, 1338, 1339, 1340, 1341, 1342, 1343, 1344, 1345, 1346, 1347, 1348, 1383, 1384, 1385, 1386, 1387, 1388, 1389, 1390, 1391, 1392, 1407] (by decide +kernel) (by decide +kernel)
set_option maxRecDepth 20000 in
theorem gL_law_X11_ran : GoodIn wsL_law (wsV RL 120 RX11 yX11_ran wsX11_ran) := goodIn_app (goodIn_of _ (by decide +kernel)) ggL_law_X11_ran
set_option maxRecDepth 20000 in
theorem ggL_law_X12_ran : GoodIn wsL_law wsX12_ran := goodIn_r _ [1141, 180, 128, 1142, 1143, 1144, 5, 1145, 184, 185, 186, 1349, 1350, 1351, 1352, 1353, 1354, 1355, 1356, 1357, 1358, 1359, 1360, 1361, 1362, 1363, 1364, 1365, 1366, 1367, 1368, 1369, 1370, 1371, 1372, 1373, 1374, 1375] (by decide +kernel) (by decide +kernel)
set_option maxRecDepth 20000 in
theorem gL_law_X12_ran : GoodIn wsL_law (wsV RL 123 RX12 yX12_ran wsX12_ran) := goodIn_app (goodIn_of _ (by decide +kernel)) ggL_law_X12_ran
set_option maxRecDepth 20000 in
theorem ggL_law_X11_service : GoodIn wsL_law wsX11_service := goodIn_r _ [1149, 27, 1125, 355, 356, 357, 26, 358, 268, 1150, 1151, 1152, 1153, 269, 1130, 1131, 1132, 1133, 560, 561, 262, 562, 1154, 1155, 1156, 76, 1157, 1158, 1135, 1136, 1137, 92, 1337, 1338, 1339, 1340, 1341, 1342, 1343, 1344, 1345, 1346, 1347, 1348, 1383, 1384, 1385, 1386, 1387, 1388, 1389, 1390, 1391, 1392, 1407] (by decide +kernel) (by decide +kernel)
set_option maxRecDepth 20000 in
theorem gL_law_X11_service : GoodIn wsL_law (wsV RL 124 RX11 yX11_service wsX11_service) := goodIn_app (goodIn_of _ (by decide +kernel)) ggL_law_X11_service
set_option maxRecDepth 20000 in
theorem ggL_law_X12_service : GoodIn wsL_law wsX12_service := goodIn_r _ [1162, 180, 128, 435, 436, 437, 5, 438, 184, 185, 186, 1163, 1164, 1165, 1166, 1142, 1143, 1144, 1145, 1349, 1350, 1351, 1352, 1353, 1354, 1355, 1356, 1357, 1358, 1359, 1360, 1361, 1362, 1363, 1364, 1365, 1366, 1367, 1368, 1369, 1370, 1371, 1372, 1373, 1374, 1375] (by decide +kernel) (by decide +kernel)
set_option maxRecDepth 20000 in
theorem gL_law_X12_service : GoodIn wsL_law (wsV RL 127 RX12 yX12_service wsX12_service) := goodIn_app (goodIn_of _ (by decide +kernel)) ggL_law_X12_service
set_option maxRecDepth 20000 in
theorem ggL_law_X11_share : GoodIn wsL_law wsX11_share := goodIn_r _ [1170, 27, 1045, 1125, 355, 356, 357, 26, 358, 268, 1150, 1151, 1152, 1153, 269, 1130, 1131, 1132, 1133, 560, 561, 262, 562, 1171, 1172, 1173, 76, 1174, 1175, 1176, 1177, 1178, 92, 1179, 1180, 1181, 1182, 581, 2, 582, 583, 1337, 1338, 1339, 1340, 1341, 1342, 1343, 1344, 1345, 1346, 1347, 1348, 1383, 1384, 1385, 1386, 1387, 1388, 1389, 1390, 1391, 1392, 1407] (by decide +kernel) (by decide +kernel)
set_option maxRecDepth 20000 in
theorem gL_law_X11_share : GoodIn wsL_law (wsV RL 128 RX11 yX11_share wsX11_share) := goodIn_app (goodIn_of _ (by decide +kernel)) ggL_law_X11_share
set_option maxRecDepth 20000 in
theorem ggL_law_X12_share : GoodIn wsL_law wsX12_share := goodIn_r _ [1186, 180, 1058, 435, 436, 437, 5, 438, 128, 184, 185, 186, 1163, 1164, 1165, 1166, 1142, 1143, 1144, 1145, 1187, 1188, 1189, 1190, 1191, 476, 1349, 1350, 1351, 1352, 1353, 1354, 1355, 1356, 1357, 1358, 1359, 1360, 1361, 1362, 1363, 1364, 1365, 1366, 1367, 1368, 1369, 1370, 1371, 1372, 1373, 1374, 1375] (by decide +kernel) (by decide +kernel)
set_option maxRecDepth 20000 in
theorem gL_law_X12_share : GoodIn wsL_law (wsV RL 132 RX12 yX12_share wsX12_share) := goodIn_app (goodIn_of _ (by decide +kernel)) ggL_law_X12_share
set_option maxRecDepth 20000 in
theorem ggL_law_X11_worst : GoodIn wsL_law wsX11_worst := goodIn_r _ [1195, 27, 1045, 1125, 836, 355, 356, 357, 26, 358, 268, 1196, 1131, 1132, 1133, 269, 560, 561, 262, 562, 1197, 1198, 1199, 76, 1200, 1201, 1202, 1203, 1204, 1205, 1179, 1180, 1181, 1182, 92, 1158, 1135, 1136, 1137, 1175, 1176, 1177, 1178, 581, 2, 582, 583, 1337, 1338, 1339, 1340, 1341, 1342, 1343, 1344, 1345, 1346, 1347, 1348, 1383, 1384, 1385, 1386, 1387, 1388, 1389, 1390, 1391, 1392, 1407] (by decide +kernel) (by decide +kernel)
set_option maxRecDepth 20000 in
theorem gL_law_X11_worst : GoodIn wsL_law (wsV RL 133 RX11 yX11_worst wsX11_worst) := goodIn_app (goodIn_of _ (by decide +kernel)) ggL_law_X11_worst
set_option maxRecDepth 20000 in
theorem ggL_law_X12_worst : GoodIn wsL_law wsX12_worst := goodIn_r _ [1209, 180, 1058, 128, 476, 435, 436, 437, 5, 438, 184, 185, 186, 1187, 1188, 1189, 1190, 1191, 1349, 1350, 1351, 1352, 1353, 1354, 1355, 1356, 1357, 1358, 1359, 1360, 1361, 1362, 1363, 1364, 1365, 1366, 1367, 1368, 1369, 1370, 1371, 1372, 1373, 1374, 1375] (by decide +kernel) (by decide +kernel)
set_option maxRecDepth 20000 in
theorem gL_law_X12_worst : GoodIn wsL_law (wsV RL 136 RX12 yX12_worst wsX12_worst) := goodIn_app (goodIn_of _ (by decide +kernel)) ggL_law_X12_worst
set_option maxRecDepth 20000 in
theorem ggL_law_X11_ahead : GoodIn wsL_law wsX11_ahead := goodIn_r _ [1213, 28, 27, 32, 1214, 1215, 1216, 2, 1217, 836, 1008, 265, 266, 26, 267, 268, 73, 77, 269, 270, 83, 84, 271, 272, 273, 87, 274, 101, 275, 276, 277, 278, 279, 103, 280, 281, 282, 283, 284, 285, 286, 287, 288, 289, 290, 291, 292, 61, 293, 67, 294, 295, 296, 297, 298, 299, 300, 301, 302, 303, 304, 80, 305, 306, 307, 308, 309, 310, 76, 311, 92, 312, 837, 838, 839, 840, 841, 842, 843, 844, 845, 846, 847, 848, 371, 372, 716, 707, 714, 849, 360, 361, 362, 850, 364, 365, 366, 367, 368, 369, 370, 708, 374, 375, 376, 377, 85, 378, 82, 81, 379, 380, 381, 382, 383, 384, 385, 386, 387, 326, 327, 328, 329, 388, 389, 390, 391, 392, 393, 394, 395, 396, 397, 398, 399, 400, 325, 401, 402, 403, 404, 405, 406, 407, 408, 409, 410, 411, 412, 413, 414, 415, 416, 417, 418, 419, 420, 421, 422, 423, 424, 425, 426, 427, 428, 429, 710, 711, 712, 713, 715, 717, 718, 719, 720, 721, 722, 723, 724, 725, 726, 727, 728, 729, 490, 491, 492, 493, 494, 495, 496, 497, 498, 730, 517, 518, 519, 520, 486, 487, 488, 731, 522, 523, 524, 732, 539, 540, 541, 542, 261, 262, 263, 733, 734, 735, 736, 737, 738, 739, 322, 323, 324, 851, 852, 853, 31, 854, 855, 109, 856, 857, 858, 859, 860, 861, 862, 863, 864, 865, 866, 867, 868, 869, 870, 871, 356, 357, 358, 872, 873, 874, 875, 104, 876, 578, 579, 580, 581, 582, 583, 877, 878, 879, 880, 881, 882, 883, 884, 885, 886, 887, 888, 889, 890, 891, 892, 893, 894, 895, 896, 897, 898, 899, 900, 901, 902, 903, 904, 905, 906, 907, 908, 909, 910, 911, 912, 913, 914, 915, 916, 917, 918, 919, 920, 561, 562, 921, 922, 923, 924, 925, 926, 927, 928, 929, 930, 931, 932, 791, 792, 793, 933, 934, 935, 936, 1337, 1338, 1339, 1340, 1341, 1342, 1343, 1344, 1345, 1346, 1347, 1348, 1383, 1384, 1385, 1386, 1387, 1388, 1389, 1390, 1391, 1392, 1410, 1411, 1412, 1413, 1414, 1415, 1416, 1417, 1418, 1419, 1420, 1421, 1422, 1423, 1424, 1425, 1426, 1427, 1402, 1403, 1404, 1405, 1406, 1408, 1409, 1407, 1376, 1377, 1378, 1393, 1394, 1395] (by decide +kernel) (by decide +kernel)
set_option maxRecDepth 20000 in
theorem gL_law_X11_ahead : GoodIn wsL_law (wsV RL 137 RX11 yX11_ahead wsX11_ahead) := goodIn_app (goodIn_of _ (by decide +kernel)) ggL_law_X11_ahead
set_option maxRecDepth 20000 in
theorem ggL_law_X12_ahead : GoodIn wsL_law wsX12_ahead := goodIn_r _ [1221, 180, 603, 128, 941, 184, 185, 5, 186, 1222, 1223, 1224, 1225, 130, 942, 943, 944, 945, 182, 181, 345, 346, 347, 439, 440, 441, 442, 443, 444, 445, 446, 447, 448, 449, 450, 451, 452, 453, 454, 455, 456, 457, 458, 459, 460, 461, 462, 463, 464, 465, 466, 467, 468, 469, 470, 471, 472, 473, 474, 475, 476, 127, 477, 478, 479, 946, 947, 948, 949, 777, 778, 779, 780, 504, 505, 506, 507, 145, 508, 509, 510, 511, 781, 782, 783, 784, 785, 529, 530, 531, 532, 547, 548, 549, 550, 950, 951, 952, 953, 954, 955, 956, 957, 958, 959, 960, 961, 962, 963, 964, 965, 588, 589, 590, 591, 966, 967, 968, 969, 970, 971, 972, 973, 974, 975, 976, 977, 978, 979, 980, 981, 982, 983, 984, 985, 986, 987, 1226, 1227, 1228, 1229, 1349, 1350, 1351, 1352, 1353, 1354, 1355, 1356, 1357, 1358, 1359, 1360, 1361, 1362, 1363, 1364, 1365, 1366, 1367, 1368, 1369, 1370, 1371, 1372, 1373, 1374, 1375] (by decide +kernel) (by decide +kernel)
set_option maxRecDepth 20000 in
theorem gL_law_X12_ahead : GoodIn wsL_law (wsV RL 140 RX12 yX12_ahead wsX12_ahead) := goodIn_app (goodIn_of _ (by decide +kernel)) ggL_law_X12_ahead
set_option maxRecDepth 20000 in
theorem ggL_law_X11_finish : GoodIn wsL_law wsX11_finish := goodIn_r _ [1233, 27, 352, 484, 28, 836, 32, 355, 356, 357, 26, 358, 268, 790, 791, 792, 61, 793, 298, 1008, 265, 266, 267, 73, 77, 269, 270, 83, 84, 271, 272, 273, 87, 274, 101, 275, 276, 277, 278, 279, 103, 280, 281, 282, 283, 284, 285, 286, 287, 288, 289, 290, 291, 292, 293, 67, 294, 295, 296, 297, 299, 300, 301, 302, 303, 304, 80, 305, 306, 307, 308, 309, 310, 76, 311, 92, 312, 837, 838, 839, 840, 841, 842, 843, 844, 845, 846, 847, 848, 371, 372, 716, 707, 714, 849, 360, 361, 362, 850, 364, 365, 366, 367, 368, 369, 370, 708, 374, 375, 376, 377, 85, 378, 82, 81, 379, 380, 381, 382, 383, 384, 385, 386, 387, 326, 327, 328, 329, 388, 389, 390, 391, 392, 393, 394, 395, 396, 397, 398, 399, 400, 325, 401, 402, 403, 404, 405, 406, 407, 408, 409, 410, 411, 412, 413, 414, 415, 416, 417, 418, 419, 420, 421, 422, 423, 424, 425, 426, 427, 428, 429, 710, 711, 712, 713, 715, 717, 718, 719, 720, 721, 722, 723, 724, 725, 726, 727, 728, 729, 490, 491, 492, 493, 494, 495, 496, 497, 498, 730, 517, 518, 519, 520, 486, 487, 488, 731, 522, 523, 524, 732, 539, 540, 541, 542, 261, 262, 263, 733, 734, 735, 736, 737, 738, 739, 322, 323, 324, 851, 852, 853, 31, 854, 855, 109, 856, 857, 858, 859, 860, 861, 862, 863, 864, 865, 866, 867, 868, 869, 870, 871, 872, 873, 874, 875, 104, 876, 578, 579, 580, 581, 2, 582, 583, 877, 878, 879, 880, 881, 882, 883, 884, 885, 886, 887, 888, 889, 890, 891, 892, 893, 894, 895, 896, 897, 898, 899, 900, 901, 902, 903, 904, 905, 906, 907, 908, 909, 910, 911, 912, 913, 914, 915, 916, 917, 918, 919, 920, 561, 562, 921, 922, 923, 924, 925, 926, 927, 928, 929, 930, 931, 932, 933, 934, 935, 936, 1337, 1338, 1339, 1340, 1341, 1342, 1343, 1344, 1345, 1346, 1347, 1348, 1383, 1384, 1385, 1386, 1387, 1388, 1389, 1390, 1391, 1392, 1410, 1411, 1412, 1413, 1414, 1415, 1416, 1417, 1418, 1419, 1420, 1421, 1422, 1423, 1424, 1425, 1426, 1427, 1402, 1403, 1404, 1405, 1406, 1408, 1409, 1407, 1376, 1377, 1378, 1393, 1394, 1395] (by decide +kernel) (by decide +kernel)
set_option maxRecDepth 20000 in
theorem gL_law_X11_finish : GoodIn wsL_law (wsV RL 141 RX11 yX11_finish wsX11_finish) := goodIn_app (goodIn_of _ (by decide +kernel)) ggL_law_X11_finish
set_option maxRecDepth 20000 in
theorem ggL_law_X12_finish : GoodIn wsL_law wsX12_finish := goodIn_r _ [1237, 180, 128, 941, 435, 436, 437, 5, 438, 184, 185, 186, 345, 346, 347, 1222, 1223, 1224, 1225, 130, 942, 943, 944, 945, 182, 181, 439, 440, 441, 442, 443, 444, 445, 446, 447, 448, 449, 450, 451, 452, 453, 454, 455, 456, 457, 458, 459, 460, 461, 462, 463, 464, 465, 466, 467, 468, 469, 470, 471, 472, 473, 474, 475, 476, 127, 477, 478, 479, 946, 947, 948, 949, 777, 778, 779, 780, 504, 505, 506, 507, 145, 508, 509, 510, 511, 781, 782, 783, 784, 785, 529, 530, 531, 532, 547, 548, 549, 550, 950, 951, 952, 953, 954, 955, 956, 957, 958, 959, 960, 961, 962, 963, 964, 965, 588, 589, 590, 591, 966, 967, 968, 969, 970, 971, 972, 973, 974, 975, 976, 977, 978, 979, 980, 981, 982, 983, 984, 985, 986, 987, 1226, 1227, 1228, 1229, 1349, 1350, 1351, 1352, 1353, 1354, 1355, 1356, 1357, 1358, 1359, 1360, 1361, 1362, 1363, 1364, 1365, 1366, 1367, 1368, 1369, 1370, 1371, 1372, 1373, 1374, 1375] (by decide +kernel) (by decide +kernel)
set_option maxRecDepth 20000 in
theorem gL_law_X12_finish : GoodIn wsL_law (wsV RL 144 RX12 yX12_finish wsX12_finish) := goodIn_app (goodIn_of _ (by decide +kernel)) ggL_law_X12_finish
set_option maxRecDepth 20000 in
theorem ggL_law_X11_due : GoodIn wsL_law wsX11_due := goodIn_r _ [1241, 27, 28, 352, 1242, 836, 32, 355, 356, 357, 26, 358, 268, 1008, 265, 266, 267, 73, 77, 269, 270, 83, 84, 271, 272, 273, 87, 274, 101, 275, 276, 277, 278, 279, 103, 280, 281, 282, 283, 284, 285, 286, 287, 288, 289, 290, 291, 292, 61, 293, 67, 294, 295, 296, 297, 298, 299, 300, 301, 302, 303, 304, 80, 305, 306, 307, 308, 309, 310, 76, 311, 92, 312, 837, 838, 839, 840, 841, 842, 843, 844, 845, 846, 847, 848, 371, 372, 716, 707, 714, 849, 360, 361, 362, 850, 364, 365, 366, 367, 368, 369, 370, 708, 374, 375, 376, 377, 85, 378, 82, 81, 379, 380, 381, 382, 383, 384, 385, 386, 387, 326, 327, 328, 329, 388, 389, 390, 391, 392, 393, 394, 395, 396, 397, 398, 399, 400, 325, 401, 402, 403, 404, 405, 406, 407, 408, 409, 410, 411, 412, 413, 414, 415, 416, 417, 418, 419, 420, 421, 422, 423, 424, 425, 426, 427, 428, 429, 710, 711, 712, 713, 715, 717, 718, 719, 720, 721, 722, 723, 724, 725, 726, 727, 728, 729, 490, 491, 492, 493, 494, 495, 496, 497, 498, 730, 517, 518, 519, 520, 486, 487, 488, 731, 522, 523, 524, 732, 539, 540, 541, 542, 261, 262, 263, 733, 734, 735, 736, 737, 738, 739, 322, 323, 324, 851, 852, 853, 31, 854, 855, 109, 856, 857, 858, 859, 860, 861, 862, 863, 864, 865, 866, 867, 868, 869, 870, 871, 872, 873, 874, 875, 104, 876, 578, 579, 580, 581, 2, 582, 583, 877, 878, 879, 880, 881, 882, 883, 884, 885, 886, 887, 888, 889, 890, 891, 892, 893, 894, 895, 896, 897, 898, 899, 900, 901, 902, 903, 904, 905, 906, 907, 908, 909, 910, 911, 912, 913, 914, 915, 916, 917, 918, 919, 920, 561, 562, 921, 922, 923, 924, 925, 926, 927, 928, 929, 930, 931, 932, 791, 792, 793, 933, 934, 935, 936, 1337, 1338, 1339, 1340, 1341, 1342, 1343, 1344, 1345, 1346, 1347, 1348, 1383, 1384, 1385, 1386, 1387, 1388, 1389, 1390, 1391, 1392, 1410, 1411, 1412, 1413, 1414, 1415, 1416, 1417, 1418, 1419, 1420, 1421, 1422, 1423, 1424, 1425, 1426, 1427, 1402, 1403, 1404, 1405, 1406, 1408, 1409, 1407, 1376, 1377, 1378, 1393, 1394, 1395] (by decide +kernel) (by decide +kernel)
set_option maxRecDepth 20000 in
theorem gL_law_X11_due : GoodIn wsL_law (wsV RL 145 RX11 yX11_due wsX11_due) := goodIn_app (goodIn_of _ (by decide +kernel)) ggL_law_X11_due
set_option maxRecDepth 20000 in
theorem ggL_law_X12_due : GoodIn wsL_law wsX12_due := goodIn_r _ [1246, 180, 128, 941, 435, 436, 437, 5, 438, 184, 185, 186, 1222, 1223, 1224, 1225, 130, 345, 346, 347, 942, 943, 944, 945, 182, 181, 439, 440, 441, 442, 443, 444, 445, 446, 447, 448, 449, 450, 451, 452, 453, 454, 455, 456, 457, 458, 459, 460, 461, 462, 463, 464, 465, 466, 467, 468, 469, 470, 471, 472, 473, 474, 475, 476, 127, 477, 478, 479, 946, 947, 948, 949, 777, 778, 779, 780, 504, 505, 506, 507, 145, 508, 509, 510, 511, 781, 782, 783, 784, 785, 529, 530, 531, 532, 547, 548, 549, 550, 950, 951, 952, 953, 954, 955, 956, 957, 958, 959, 960, 961, 962, 963, 964, 965, 588, 589, 590, 591, 966, 967, 968, 969, 970, 971, 972, 973, 974, 975, 976, 977, 978, 979, 980, 981, 982, 983, 984, 985, 986, 987, 1226, 1227, 1228, 1229, 1349, 1350, 1351, 1352, 1353, 1354, 1355, 1356, 1357, 1358, 1359, 1360, 1361, 1362, 1363, 1364, 1365, 1366, 1367, 1368, 1369, 1370, 1371, 1372, 1373, 1374, 1375] (by decide +kernel) (by decide +kernel)
set_option maxRecDepth 20000 in
theorem gL_law_X12_due : GoodIn wsL_law (wsV RL 148 RX12 yX12_due wsX12_due) := goodIn_app (goodIn_of _ (by decide +kernel)) ggL_law_X12_due
set_option maxRecDepth 20000 in
theorem ggL_law_X11_least : GoodIn wsL_law wsX11_least := goodIn_r _ [1250, 27, 352, 355, 356, 357, 26, 358, 268, 1214, 1215, 1216, 2, 1217, 836, 516, 517, 518, 519, 372, 520, 486, 487, 87, 488, 277, 367, 368, 369, 370, 73, 371, 1251, 1252, 1253, 1254, 28, 354, 32, 1008, 265, 266, 267, 77, 269, 270, 83, 84, 271, 272, 273, 274, 101, 275, 276, 278, 279, 103, 280, 281, 282, 283, 284, 285, 286, 287, 288, 289, 290, 291, 292, 61, 293, 67, 294, 295, 296, 297, 298, 299, 300, 301, 302, 303, 304, 80, 305, 306, 307, 308, 309, 310, 76, 311, 92, 312, 521, 522, 523, 524, 81, 379, 383, 384, 385, 386, 387, 326, 327, 328, 329, 388, 389, 390, 391, 407, 408, 409, 410, 415, 416, 417, 418, 419, 420, 421, 422, 423, 424, 425, 426, 427, 428, 429, 837, 838, 839, 840, 841, 842, 843, 844, 845, 846, 847, 848, 716, 707, 714, 849, 360, 361, 362, 850, 364, 365, 366, 708, 374, 375, 376, 377, 85, 378, 82, 380, 381, 382, 392, 393, 394, 395, 396, 397, 398, 399, 400, 325, 401, 402, 403, 404, 405, 406, 411, 412, 413, 414, 710, 711, 712, 713, 715, 717, 718, 719, 720, 721, 722, 723, 724, 725, 726, 727, 728, 729, 490, 491, 492, 493, 494, 495, 496, 497, 498, 730, 731, 732, 539, 540, 541, 542, 261, 262, 263, 733, 734, 735, 736, 737, 738, 739, 322, 323, 324, 851, 852, 853, 31, 854, 855, 109, 856, 857, 858, 859, 860, 861, 862, 863, 864, 865, 866, 867, 868, 869, 870, 871, 872, 873, 874, 875, 104, 876, 578, 579, 580, 581, 582, 583, 877, 878, 879, 880, 881, 882, 883, 884, 885, 886, 887, 888, 889, 890, 891, 892, 893, 894, 895, 896, 897, 898, 899, 900, 901, 902, 903, 904, 905, 906, 907, 908, 909, 910, 911, 912, 913, 914, 915, 916, 917, 918, 919, 920, 561, 562, 921, 922, 923, 924, 925, 926, 927, 928, 929, 930, 931, 932, 791, 792, 793, 933, 934, 935, 936, 1337, 1338, 1339, 1340, 1341, 1342, 1343, 1344, 1345, 1346, 1347, 1348, 1383, 1384, 1385, 1386, 1387, 1388, 1389, 1390, 1391, 1392, 1410, 1411, 1412, 1413, 1414, 1415, 1416, 1417, 1418, 1419, 1420, 1421, 1422, 1423, 1424, 1425, 1426, 1427, 1402, 1403, 1404, 1405, 1406, 1408, 1409, 1407, 1376, 1377, 1378, 1393, 1394, 1395] (by decide +kernel) (by decide +kernel)
set_option maxRecDepth 20000 in
theorem gL_law_X11_least : GoodIn wsL_law (wsV RL 149 RX11 yX11_least wsX11_least) := goodIn_app (goodIn_of _ (by decide +kernel)) ggL_law_X11_least
set_option maxRecDepth 20000 in
theorem ggL_law_X12_least : GoodIn wsL_law wsX12_least := goodIn_r _ [1258, 180, 603, 128, 941, 435, 436, 437, 5, 438, 184, 185, 186, 1259, 1260, 1261, 1262, 1222, 1223, 1224, 1225, 130, 456, 457, 458, 459, 345, 346, 347, 529, 530, 531, 532, 447, 452, 453, 454, 455, 448, 449, 450, 451, 464, 465, 466, 467, 468, 469, 470, 471, 508, 509, 510, 511, 477, 478, 479, 942, 943, 944, 945, 182, 181, 439, 440, 441, 442, 443, 444, 445, 446, 460, 461, 462, 463, 472, 473, 474, 475, 476, 127, 946, 947, 948, 949, 777, 778, 779, 780, 504, 505, 506, 507, 145, 781, 782, 783, 784, 785, 547, 548, 549, 550, 950, 951, 952, 953, 954, 955, 956, 957, 958, 959, 960, 961, 962, 963, 964, 965, 588, 589, 590, 591, 966, 967, 968, 969, 970, 971, 972, 973, 974, 975, 976, 977, 978, 979, 980, 981, 982, 983, 984, 985, 986, 987, 1226, 1227, 1228, 1229, 1349, 1350, 1351, 1352, 1353, 1354, 1355, 1356, 1357, 1358, 1359, 1360, 1361, 1362, 1363, 1364, 1365, 1366, 1367, 1368, 1369, 1370, 1371, 1372, 1373, 1374, 1375] (by decide +kernel) (by decide +kernel)
set_option maxRecDepth 20000 in
theorem gL_law_X12_least : GoodIn wsL_law (wsV RL 152 RX12 yX12_least wsX12_least) := goodIn_app (goodIn_of _ (by decide +kernel)) ggL_law_X12_least
set_option maxRecDepth 20000 in
theorem ggL_law_X11_would : GoodIn wsL_law wsX11_would := goodIn_r _ [1266, 1267, 28, 27, 33, 1268, 1214, 1215, 1216, 2, 1217, 836, 1008, 265, 266, 26, 267, 268, 73, 77, 269, 270, 83, 84, 271, 272, 273, 87, 274, 101, 275, 276, 277, 278, 279, 103, 280, 281, 282, 283, 284, 285, 286, 287, 288, 289, 290, 291, 292, 61, 293, 67, 294, 295, 296, 297, 298, 299, 300, 301, 302, 303, 304, 80, 305, 306, 307, 308, 309, 310, 76, 311, 92, 312, 1269, 1270, 1271, 31, 1272, 855, 109, 1273, 886, 837, 838, 839, 840, 841, 842, 843, 844, 845, 846, 847, 848, 371, 372, 716, 707, 714, 849, 360, 361, 362, 850, 364, 365, 366, 367, 368, 369, 370, 708, 374, 375, 376, 377, 85, 378, 82, 81, 379, 380, 381, 382, 383, 384, 385, 386, 387, 326, 327, 328, 329, 388, 389, 390, 391, 392, 393, 394, 395, 396, 397, 398, 399, 400, 325, 401, 402, 403, 404, 405, 406, 407, 408, 409, 410, 411, 412, 413, 414, 415, 416, 417, 418, 419, 420, 421, 422, 423, 424, 425, 426, 427, 428, 429, 710, 711, 712, 713, 715, 717, 718, 719, 720, 721, 722, 723, 724, 725, 726, 727, 728, 729, 490, 491, 492, 493, 494, 495, 496, 497, 498, 730, 517, 518, 519, 520, 486, 487, 488, 731, 522, 523, 524, 732, 539, 540, 541, 542, 261, 262, 263, 733, 734, 735, 736, 737, 738, 739, 322, 323, 324, 851, 852, 853, 854, 856, 857, 858, 859, 860, 861, 862, 863, 864, 865, 866, 867, 868, 869, 870, 871, 356, 357, 358, 872, 873, 874, 875, 104, 876, 578, 579, 580, 581, 582, 583, 877, 878, 879, 880, 881, 882, 883, 884, 885, 887, 888, 889, 890, 891, 892, 893, 894, 895, 896, 897, 898, 899, 900, 901, 902, 903, 904, 905, 906, 907, 908, 909, 910, 911, 912, 913, 914, 915, 916, 917, 918, 919, 920, 561, 562, 921, 922, 923, 924, 925, 926, 927, 928, 929, 930, 931, 932, 791, 792, 793, 933, 934, 935, 936, 1274, 1275, 1276, 1277, 1278, 1279, 1280, 1203, 1204, 1281, 1282, 1283, 1337, 1338, 1339, 1340, 1341, 1342, 1343, 1344, 1345, 1346, 1347, 1348, 1383, 1384, 1385, 1386, 1387, 1388, 1389, 1390, 1391, 1392, 1410, 1411, 1412, 1413, 1414, 1415, 1416, 1417, 1418, 1419, 1420, 1421, 1422, 1423, 1424, 1425, 1426, 1427, 1402, 1403, 1404, 1405, 1406, 1408, 1409, 1407, 1393, 1394, 1395, 1376, 1377, 1378] (by decide +kernel) (by decide +kernel)
set_option maxRecDepth 20000 in
theorem gL_law_X11_would : GoodIn wsL_law (wsV RL 153 RX11 yX11_would wsX11_would) := goodIn_app (goodIn_of _ (by decide +kernel)) ggL_law_X11_would
set_option maxRecDepth 20000 in
theorem ggL_law_X12_would : GoodIn wsL_law wsX12_would := goodIn_r _ [1287, 180, 785, 603, 182, 128, 941, 1288, 127, 975, 1289, 1290, 184, 185, 5, 186, 1222, 1223, 1224, 1225, 130, 942, 943, 944, 945, 181, 345, 346, 347, 439, 440, 441, 442, 443, 444, 445, 446, 447, 448, 449, 450, 451, 452, 453, 454, 455, 456, 457, 458, 459, 460, 461, 462, 463, 464, 465, 466, 467, 468, 469, 470, 471, 472, 473, 474, 475, 476, 477, 478, 479, 946, 947, 948, 949, 777, 778, 779, 780, 504, 505, 506, 507, 145, 508, 509, 510, 511, 781, 782, 783, 784, 529, 530, 531, 532, 547, 548, 549, 550, 950, 951, 952, 953, 954, 955, 956, 957, 958, 959, 960, 961, 962, 963, 964, 965, 588, 589, 590, 591, 966, 967, 968, 969, 970, 971, 972, 973, 974, 976, 977, 978, 979, 980, 981, 982, 983, 984, 985, 986, 987, 1291, 1292, 1293, 1294, 1295, 1226, 1227, 1228, 1229, 1349, 1350, 1351, 1352, 1353, 1354, 1355, 1356, 1357, 1358, 1359, 1360, 1361, 1362, 1363, 1364, 1365, 1366, 1367, 1368, 1369, 1370, 1371, 1372, 1373, 1374, 1375] (by decide +kernel) (by decide +kernel)
set_option maxRecDepth 20000 in
theorem gL_law_X12_would : GoodIn wsL_law (wsV RL 156 RX12 yX12_would wsX12_would) := goodIn_app (goodIn_of _ (by decide +kernel)) ggL_law_X12_would
set_option maxRecDepth 20000 in
theorem ggL_law_X11_count : GoodIn wsL_law wsX11_count := goodIn_r _ [1299, 27, 247, 1268, 836, 40, 992, 19, 200, 44, 15, 1300, 1301, 1302, 1303, 1304, 1305, 26, 1306, 268, 73, 371, 1307, 1308, 1309, 1310, 707, 932, 791, 792, 61, 793, 298, 1196, 1131, 1132, 1133, 269, 560, 561, 262, 562, 1311, 1312, 1313, 43, 1314, 121, 160, 161, 162, 1337, 1338, 1339, 1340, 1341, 1342, 1343, 1344, 1345, 1346, 1347, 1348, 1383, 1384, 1385, 1386, 1387, 1388, 1389, 1390, 1391, 1392, 1396, 1397, 1398, 1399, 1379, 1380, 1376, 1377, 1378, 1410, 1411, 1412, 1413, 1414, 1415, 1416, 1417, 1418, 1419, 1420, 1421, 1422, 1423, 1424, 1425, 1426, 1427, 1402, 1403, 1404, 1405, 1406, 1400, 1401] (by decide +kernel) (by decide +kernel)
set_option maxRecDepth 20000 in
theorem gL_law_X11_count : GoodIn wsL_law (wsV RL 157 RX11 yX11_count wsX11_count) := goodIn_app (goodIn_of _ (by decide +kernel)) ggL_law_X11_count
set_option maxRecDepth 20000 in
theorem ggL_law_X12_count : GoodIn wsL_law wsX12_count := goodIn_r _ [1318, 180, 128, 344, 218, 126, 1319, 1191, 127, 1320, 1321, 1322, 5, 1323, 345, 346, 347, 1324, 1325, 1326, 1327, 184, 185, 186, 1349, 1350, 1351, 1352, 1353, 1354, 1355, 1356, 1357, 1358, 1359, 1360, 1361, 1362, 1363, 1364, 1365, 1366, 1367, 1368, 1369, 1370, 1371, 1372, 1373, 1374, 1375] (by decide +kernel) (by decide +kernel)
set_option maxRecDepth 20000 in
theorem gL_law_X12_count : GoodIn wsL_law (wsV RL 160 RX12 yX12_count wsX12_count) := goodIn_app (goodIn_of _ (by decide +kernel)) ggL_law_X12_count
set_option maxRecDepth 20000 in
theorem ggL_law_X11_status : GoodIn wsL_law wsX11_status := goodIn_r _ [1331, 44, 1332, 1337, 1338, 1339, 1340, 1341, 1342, 1343, 1344, 1345, 1346, 1347, 1348, 1400, 1401] (by decide +kernel) (by decide +kernel)
set_option maxRecDepth 20000 in
theorem gL_law_X11_status : GoodIn wsL_law (wsV RL 161 RX11 yX11_status wsX11_status) := goodIn_app (goodIn_of _ (by decide +kernel)) ggL_law_X11_status
set_option maxRecDepth 20000 in
theorem ggL_law_X12_status : GoodIn wsL_law wsX12_status := goodIn_r _ [1336, 180, 191, 1349, 1350, 1351, 1352, 1353, 1354, 1355, 1356, 1357, 1358, 1359, 1360, 1361, 1362, 1363, 1364, 1365, 1366, 1367, 1368, 1369, 1370, 1371, 1372, 1373, 1374, 1375] (by decide +kernel) (by decide +kernel)
set_option maxRecDepth 20000 in
theorem gL_law_X12_status : GoodIn wsL_law (wsV RL 164 RX12 yX12_status wsX12_status) := goodIn_app (goodIn_of _ (by decide +kernel)) ggL_law_X12_status
