set_option maxRecDepth 20000 in
theorem ggX0_pick_X6_leastV : GoodIn wsX0_pick wsX6_leastV := goodIn_r _ [9, 10, 11, 12, 13, 14, 15, 16, 17, 18, 111, 112, 113, 114, 115, 116, 117, 118, 119, 120, 121, 122, 123, 124, 125, 126, 127, 128, 129, 130, 131, 132, 133, 134, 135, 136, 137, 138] (by decide +kernel) (by decide +kernel)
set_option maxRecDepth 20000 in
theorem gX0_pick_X6_leastV : GoodIn wsX0_pick (wsV RX0 28 RX6 yX6_leastV wsX6_leastV) := goodIn_app (goodIn_of _ (by decide +kernel)) ggX0_pick_X6_leastV
set_option maxRecDepth 20000 in
theorem ggX0_pick_X6_firstDeadline : GoodIn wsX0_pick wsX6_firstDeadline := goodIn_r _ [22, 23, 10, 11, 12, 24, 25, 26, 8, 27, 28, 29, 30, 31, 32, 33, 34, 35, 36, 37, 38, 39, 40, 41, 42, 43, 44, 45, 46, 47, 48, 49, 50, 51, 52, 53, 54, 55, 56, 57, 58, 59, 60, 61, 62, 13, 14, 15, 16, 17, 18, 63, 64, 65, 66, 67, 68, 69, 70, 71, 72, 73, 74, 75, 76, 77, 78, 79, 80, 81, 82, 111, 112, 113, 114, 115, 116, 117, 118, 119, 120, 121, 122, 123, 124, 125, 126, 127, 128, 129, 130, 131, 132, 133, 134, 135, 136, 137, 138, 139, 140] (by decide +kernel) (by decide +kernel)
set_option maxRecDepth 20000 in
theorem gX0_pick_X6_firstDeadline : GoodIn wsX0_pick (wsV RX0 34 RX6 yX6_firstDeadline wsX6_firstDeadline) := goodIn_app (goodIn_of _ (by decide +kernel)) ggX0_pick_X6_firstDeadline
set_option maxRecDepth 20000 in
theorem ggX0_pick_X6_nextInTurn : GoodIn wsX0_pick wsX6_nextInTurn := goodIn_r _ [86, 10, 87, 11, 63, 64, 65, 8, 66, 13, 14, 15, 16, 17, 18, 111, 112, 113, 114, 115, 116, 117, 118, 119, 120, 121, 122, 123, 124, 125, 126, 127, 128, 129, 130, 131, 132, 133, 134, 135, 136, 137, 138] (by decide +kernel) (by decide +kernel)
set_option maxRecDepth 20000 in
theorem gX0_pick_X6_nextInTurn : GoodIn wsX0_pick (wsV RX0 38 RX6 yX6_nextInTurn wsX6_nextInTurn) := goodIn_app (goodIn_of _ (by decide +kernel)) ggX0_pick_X6_nextInTurn
set_option maxRecDepth 20000 in
theorem ggX0_pick_X0_byDraw : GoodIn wsX0_pick wsX0_byDraw := goodIn_r _ [92, 93, 94, 95, 96, 97, 98, 99, 8, 100, 10, 11, 33, 34, 101, 102, 103, 104, 13, 14, 15, 16, 17, 18, 105, 106, 107, 111, 112, 113, 114, 115, 116, 117, 118, 119, 120, 121, 122, 123, 124, 125, 126, 127, 128, 129, 130, 131, 132, 133, 134, 135, 136, 137, 138] (by decide +kernel) (by decide +kernel)
set_option maxRecDepth 20000 in
theorem gX0_pick_X0_byDraw : GoodIn wsX0_pick (wsV RX0 41 RX0 yX0_byDraw wsX0_byDraw) := goodIn_app (goodIn_of _ (by decide +kernel)) ggX0_pick_X0_byDraw
set_option maxRecDepth 20000 in
theorem ggX0_byDraw_X6_weightOfAll : GoodIn wsX0_byDraw wsX6_weightOfAll := goodIn_r _ [9, 10, 11, 12, 13, 27, 28, 29, 30, 31, 32, 33, 34, 35, 36, 37, 38, 39, 40, 41, 42, 43, 44, 45, 46, 47, 48, 49, 50, 51, 52, 53, 54] (by decide +kernel) (by decide +kernel)
set_option maxRecDepth 20000 in
theorem gX0_byDraw_X6_weightOfAll : GoodIn wsX0_byDraw (wsV RX0 51 RX6 yX6_weightOfAll wsX6_weightOfAll) := goodIn_app (goodIn_of _ (by decide +kernel)) ggX0_byDraw_X6_weightOfAll
set_option maxRecDepth 20000 in
theorem ggX1_init_X6_init : GoodIn wsX1_init wsX6_init := goodIn_r _ [12, 13, 2, 3, 14, 15, 16, 17, 18, 19, 20, 21, 22, 23, 24, 25, 26, 27, 28, 29, 30, 31, 32, 33, 34, 35, 36, 37, 38, 39, 40, 41, 42, 43, 44, 45, 46, 47, 48, 49, 50, 51, 6, 52, 57, 58, 59, 60, 61, 62, 63, 64, 65, 66, 67, 68, 69, 70, 71, 72, 73, 74, 75, 76, 77, 78, 79, 80, 81, 82, 83, 84, 85, 86, 87, 88, 89, 90, 91, 92] (by decide +kernel) (by decide +kernel)
set_option maxRecDepth 20000 in
theorem gX1_init_X6_init : GoodIn wsX1_init (wsX6_init) := ggX1_init_X6_init
set_option maxRecDepth 20000 in
theorem ggX1_keep_X6_copy : GoodIn wsX1_keep wsX6_copy := goodIn_r _ [13, 14, 15, 16, 17, 18, 19, 20, 21, 22, 23, 24, 25, 26, 27, 28, 29, 30, 31, 32, 33, 34, 35, 36, 37, 38, 39, 40, 41, 42, 43, 44, 45, 46, 47, 48, 49, 50, 51, 52, 53, 54, 55, 56, 57, 58, 59, 60, 61, 62, 63, 64, 65, 66, 67, 68, 69, 70, 75, 76, 77, 78, 79, 80, 81, 82, 83, 84, 85, 86, 87, 88, 89, 90, 91, 92, 93, 94, 95, 96, 97, 98, 99, 100, 101, 102, 103, 104, 105, 106, 107, 108, 109, 110] (by decide +kernel) (by decide +kernel)
set_option maxRecDepth 20000 in
theorem gX1_keep_X6_copy : GoodIn wsX1_keep (wsV RX1 28 RX6 yX6_copy wsX6_copy) := goodIn_app (goodIn_of _ (by decide +kernel)) ggX1_keep_X6_copy
set_option maxRecDepth 20000 in
theorem ggX3_init_X5_init : GoodIn wsX3_init wsX5_init := goodIn_r _ [9, 10, 2, 3, 11, 12, 13, 14, 15, 16, 17] (by decide +kernel) (by decide +kernel)
set_option maxRecDepth 20000 in
theorem gX3_init_X5_init_n11 : GoodIn wsX3_init (wsX5_init) := ggX3_init_X5_init
set_option maxRecDepth 20000 in
theorem ggX4_add_X4_placeOf : GoodIn wsX4_add wsX4_placeOf := goodIn_r _ [6] (by decide +kernel) (by decide +kernel)
set_option maxRecDepth 20000 in
theorem gX4_add_X4_placeOf : GoodIn wsX4_add (va_wsS RX4 19 yX4_placeOf wsX4_placeOf) := goodIn_app (goodIn_of _ (by decide +kernel)) ggX4_add_X4_placeOf
set_option maxRecDepth 20000 in
theorem ggX4_countOf_X4_placeOf : GoodIn wsX4_countOf wsX4_placeOf := goodIn_r _ [5] (by decide +kernel) (by decide +kernel)
set_option maxRecDepth 20000 in
theorem gX4_countOf_X4_placeOf : GoodIn wsX4_countOf (va_wsS RX4 19 yX4_placeOf wsX4_placeOf) := goodIn_app (goodIn_of _ (by decide +kernel)) ggX4_countOf_X4_placeOf
set_option maxRecDepth 20000 in
theorem ggX6_init_X2_init : GoodIn wsX6_init wsX2_init := goodIn_r _ [21, 22, 2, 3, 23, 24, 54] (by decide +kernel) (by decide +kernel)
set_option maxRecDepth 20000 in
theorem gX6_init_X2_init_n19 : GoodIn wsX6_init (wsX2_init) := ggX6_init_X2_init
set_option maxRecDepth 20000 in
theorem ggX6_init_X10_init : GoodIn wsX6_init wsX10_init := goodIn_r _ [26, 27, 2, 3] (by decide +kernel) (by decide +kernel)
set_option maxRecDepth 20000 in
theorem gX6_init_X10_init_n26 : GoodIn wsX6_init (wsX10_init) := ggX6_init_X10_init
set_option maxRecDepth 20000 in
theorem ggX6_init_X8_init : GoodIn wsX6_init wsX8_init := goodIn_r _ [30, 31, 2, 3, 32, 33, 34, 35, 36, 11, 12, 37, 38, 39, 40, 41, 42, 43, 25, 26, 27, 75, 76, 77, 78, 79, 57, 58, 59, 60, 61, 62, 63, 64, 65, 66, 67, 68, 69, 70, 71, 72, 73, 74, 55, 56] (by decide +kernel) (by decide +kernel)
set_option maxRecDepth 20000 in
theorem gX6_init_X8_init : GoodIn wsX6_init (wsX8_init) := ggX6_init_X8_init
set_option maxRecDepth 20000 in
theorem ggX6_copy_X2_copy : GoodIn wsX6_copy wsX2_copy := goodIn_r _ [55, 56, 57, 37, 38, 39, 93] (by decide +kernel) (by decide +kernel)
set_option maxRecDepth 20000 in
theorem gX6_copy_X2_copy : GoodIn wsX6_copy (wsV RX6 55 RX2 yX2_copy wsX2_copy) := goodIn_app (goodIn_of _ (by decide +kernel)) ggX6_copy_X2_copy
set_option maxRecDepth 20000 in
theorem ggX6_addTask_X8_startAnew : GoodIn wsX6_addTask wsX8_startAnew := goodIn_r _ [7, 8, 9, 10, 11, 12, 13, 14, 15, 16, 17, 18, 19, 20, 21, 22, 23, 24, 25, 26, 27, 28, 29, 30, 31, 32, 33, 34, 35, 36, 37, 38, 39, 40, 41, 6, 42, 43, 44, 45, 56, 57, 58, 59, 60, 61, 62, 63, 64, 65, 66, 67, 68, 69, 70, 71, 72, 73, 74, 75, 76, 77, 78, 79, 80] (by decide +kernel) (by decide +kernel)
set_option maxRecDepth 20000 in
theorem gX6_addTask_X8_startAnew : GoodIn wsX6_addTask (wsV RX6 65 RX8 yX8_startAnew wsX8_startAnew) := goodIn_app (goodIn_of _ (by decide +kernel)) ggX6_addTask_X8_startAnew
set_option maxRecDepth 20000 in
theorem ggX6_sumUp_X10_set : GoodIn wsX6_sumUp wsX10_set := goodIn_r _ [12, 13, 14, 15, 48, 49] (by decide +kernel) (by decide +kernel)
set_option maxRecDepth 20000 in
theorem gX6_sumUp_X10_set : GoodIn wsX6_sumUp (wsV RX6 75 RX10 yX10_set wsX10_set) := goodIn_app (goodIn_of _ (by decide +kernel)) ggX6_sumUp_X10_set
set_option maxRecDepth 20000 in
theorem ggX6_wholeV_X6_sumUp : GoodIn wsX6_wholeV wsX6_sumUp := goodIn_r _ [6, 1, 7, 8, 9, 10, 11, 12, 13, 14, 15, 16, 17, 18, 19, 20, 21, 22, 23, 24, 40, 41, 42, 43, 44, 45, 46, 47, 48, 49, 50, 51, 52, 53, 54, 55, 56, 57, 58, 59, 60, 61, 62, 63, 64, 65, 66, 67, 68, 69] (by decide +kernel) (by decide +kernel)
set_option maxRecDepth 20000 in
theorem gX6_wholeV_X6_sumUp : GoodIn wsX6_wholeV (wsV RX6 86 RX6 yX6_sumUp wsX6_sumUp) := goodIn_app (goodIn_of _ (by decide +kernel)) ggX6_wholeV_X6_sumUp
set_option maxRecDepth 20000 in
theorem ggX6_wholeV_X10_divide : GoodIn wsX6_wholeV wsX10_divide := goodIn_r _ [28, 18, 20, 29, 30, 31, 32, 33, 34, 35, 68, 69] (by decide +kernel) (by decide +kernel)
set_option maxRecDepth 20000 in
theorem gX6_wholeV_X10_divide : GoodIn wsX6_wholeV (wsV RX6 90 RX10 yX10_divide wsX10_divide) := goodIn_app (goodIn_of _ (by decide +kernel)) ggX6_wholeV_X10_divide
set_option maxRecDepth 20000 in
theorem ggX6_wholeV_X10_asLong : GoodIn wsX6_wholeV wsX10_asLong := goodIn_r _ [39, 18, 20, 68, 69] (by decide +kernel) (by decide +kernel)
set_option maxRecDepth 20000 in
theorem gX6_wholeV_X10_asLong : GoodIn wsX6_wholeV (wsV RX6 93 RX10 yX10_asLong wsX10_asLong) := goodIn_app (goodIn_of _ (by decide +kernel)) ggX6_wholeV_X10_asLong
set_option maxRecDepth 20000 in
theorem ggX6_restOfV_X6_sumUp : GoodIn wsX6_restOfV wsX6_sumUp := goodIn_r _ [6, 1, 7, 8, 9, 10, 11, 12, 13, 14, 15, 16, 17, 18, 19, 20, 21, 22, 23, 24, 33, 34, 35, 36, 37, 38, 39, 40, 41, 42, 43, 44, 45, 46, 47, 48, 49, 50, 51, 52, 53, 54, 55, 56, 57, 58, 59, 60, 61, 62] (by decide +kernel) (by decide +kernel)
set_option maxRecDepth 20000 in
theorem gX6_restOfV_X6_sumUp : GoodIn wsX6_restOfV (wsV RX6 86 RX6 yX6_sumUp wsX6_sumUp) := goodIn_app (goodIn_of _ (by decide +kernel)) ggX6_restOfV_X6_sumUp
set_option maxRecDepth 20000 in
theorem ggX6_restOfV_X10_modulo : GoodIn wsX6_restOfV wsX10_modulo := goodIn_r _ [28, 18, 20, 29, 30, 31, 32, 61, 62] (by decide +kernel) (by decide +kernel)
set_option maxRecDepth 20000 in
theorem gX6_restOfV_X10_modulo : GoodIn wsX6_restOfV (wsV RX6 97 RX10 yX10_modulo wsX10_modulo) := goodIn_app (goodIn_of _ (by decide +kernel)) ggX6_restOfV_X10_modulo
set_option maxRecDepth 20000 in
theorem ggX6_lagEdge_X6_weightOfAll : GoodIn wsX6_lagEdge wsX6_weightOfAll := goodIn_r _ [17, 1, 2, 18, 19, 62, 63, 64, 65, 66, 67, 68, 69, 70, 71, 72, 73, 74, 75, 76, 77, 78, 79, 80, 81, 82, 83, 84, 85, 86, 87, 88, 89] (by decide +kernel) (by decide +kernel)
set_option maxRecDepth 20000 in
theorem gX6_lagEdge_X6_weightOfAll : GoodIn wsX6_lagEdge (wsV RX6 108 RX6 yX6_weightOfAll wsX6_weightOfAll) := goodIn_app (goodIn_of _ (by decide +kernel)) ggX6_lagEdge_X6_weightOfAll
set_option maxRecDepth 20000 in
theorem ggX6_eligibleBits_X6_wholeV : GoodIn wsX6_eligibleBits wsX6_wholeV := goodIn_r _ [8, 9, 10, 11, 12, 7, 13, 1, 2, 14, 15, 3, 16, 17, 18, 19, 20, 21, 22, 23, 24, 25, 26, 27, 28, 29, 30, 31, 32, 33, 34, 35, 36, 37, 38, 39, 40, 41, 42, 43, 50, 51, 52, 53, 54, 55, 56, 57, 58, 59, 60, 61, 62, 63, 64, 65, 66, 67, 68, 69, 70, 71, 72, 73, 74, 75, 76, 77, 78, 79] (by decide +kernel) (by decide +kernel)
set_option maxRecDepth 20000 in
theorem gX6_eligibleBits_X6_wholeV : GoodIn wsX6_eligibleBits (wsV RX6 176 RX6 yX6_wholeV wsX6_wholeV) := goodIn_app (goodIn_of _ (by decide +kernel)) ggX6_eligibleBits_X6_wholeV
set_option maxRecDepth 20000 in
theorem ggX6_eligibleAt_X6_eligibleBits : GoodIn wsX6_eligibleAt wsX6_eligibleBits := goodIn_r _ [7, 1, 2, 8, 9, 10, 11, 6, 12, 13, 14, 15, 16, 17, 18, 19, 20, 21, 22, 23, 24, 25, 26, 27, 28, 29, 30, 31, 32, 33, 34, 35, 36, 37, 38, 39, 40, 41, 42, 43, 44, 45, 46, 47, 48, 49, 50, 51, 52, 53, 74, 75, 76, 77, 78, 79, 80, 81, 82, 83, 84, 85, 86, 87, 88, 89, 90, 91, 92, 93, 94, 95, 96, 97, 98, 99, 100, 101, 102, 103] (by decide +kernel) (by decide +kernel)
set_option maxRecDepth 20000 in
theorem gX6_eligibleAt_X6_eligibleBits : GoodIn wsX6_eligibleAt (wsV RX6 179 RX6 yX6_eligibleBits wsX6_eligibleBits) := goodIn_app (goodIn_of _ (by decide +kernel)) ggX6_eligibleAt_X6_eligibleBits
set_option maxRecDepth 20000 in
theorem ggX6_firstDeadline_X6_wholeV : GoodIn wsX6_firstDeadline wsX6_wholeV := goodIn_r _ [9, 10, 11, 12, 13, 8, 14, 2, 3, 15, 16, 4, 17, 18, 19, 20, 21, 22, 23, 24, 25, 26, 27, 28, 29, 30, 31, 32, 33, 34, 35, 36, 37, 38, 39, 40, 41, 42, 43, 44, 71, 72, 73, 74, 75, 76, 77, 78, 79, 80, 81, 82, 83, 84, 85, 86, 87, 88, 89, 90, 91, 92, 93, 94, 95, 96, 97, 98, 99, 100] (by decide +kernel) (by decide +kernel)
set_option maxRecDepth 20000 in
theorem gX6_firstDeadline_X6_wholeV : GoodIn wsX6_firstDeadline (wsV RX6 176 RX6 yX6_wholeV wsX6_wholeV) := goodIn_app (goodIn_of _ (by decide +kernel)) ggX6_firstDeadline_X6_wholeV
set_option maxRecDepth 20000 in
theorem ggX6_tick_X0_pick : GoodIn wsX6_tick wsX0_pick := goodIn_r _ [181, 182, 183, 184, 185, 186, 187, 188, 17, 189, 1, 2, 45, 147, 148, 149, 9, 150, 151, 190, 191, 192, 193, 194, 195, 196, 197, 198, 44, 49, 50, 51, 52, 19, 20, 53, 54, 55, 56, 57, 58, 59, 60, 61, 62, 63, 64, 65, 97, 98, 99, 100, 101, 102, 103, 104, 105, 106, 107, 108, 109, 110, 111, 199, 200, 201, 202, 203, 204, 205, 206, 207, 208, 209, 210, 211, 212, 160, 213, 214, 215, 216, 217, 218, 219, 220, 221, 222, 223, 224, 225, 180, 226, 227, 228, 229, 230, 231, 33, 34, 35, 232, 233, 234, 235, 326, 327, 328, 321, 322, 323, 288, 289, 290, 291, 292, 293, 294, 295, 296, 297, 298, 299, 300, 301, 302, 303, 304, 305, 306, 307, 308, 309, 310, 311, 312, 313, 314, 315, 324, 325] (by decide +kernel) (by decide +kernel)
set_option maxRecDepth 20000 in
theorem gX6_tick_X0_pick : GoodIn wsX6_tick (wsV RX6 204 RX0 yX0_pick wsX0_pick) := goodIn_app (goodIn_of _ (by decide +kernel)) ggX6_tick_X0_pick
set_option maxRecDepth 20000 in
theorem ggX6_tick_X6_weightOfAll : GoodIn wsX6_tick wsX6_weightOfAll := goodIn_r _ [35, 1, 2, 19, 20, 288, 289, 290, 291, 292, 293, 294, 295, 296, 297, 298, 299, 300, 301, 302, 303, 304, 305, 306, 307, 308, 309, 310, 311, 312, 313, 314, 315] (by decide +kernel) (by decide +kernel)
set_option maxRecDepth 20000 in
theorem gX6_tick_X6_weightOfAll : GoodIn wsX6_tick (wsV RX6 108 RX6 yX6_weightOfAll wsX6_weightOfAll) := goodIn_app (goodIn_of _ (by decide +kernel)) ggX6_tick_X6_weightOfAll
set_option maxRecDepth 20000 in
theorem ggX6_tick_X6_weightsAsBits : GoodIn wsX6_tick wsX6_weightsAsBits := goodIn_r _ [239, 1, 2, 20, 147, 148, 149, 9, 150, 151, 240, 241, 242, 243, 288, 289, 290, 291, 292, 293, 294, 295, 296, 297, 298, 299, 300, 301, 302, 303, 304, 305, 306, 307, 308, 309, 310, 311, 312, 313, 314, 315] (by decide +kernel) (by decide +kernel)
set_option maxRecDepth 20000 in
theorem gX6_tick_X6_weightsAsBits : GoodIn wsX6_tick (wsV RX6 210 RX6 yX6_weightsAsBits wsX6_weightsAsBits) := goodIn_app (goodIn_of _ (by decide +kernel)) ggX6_tick_X6_weightsAsBits
set_option maxRecDepth 20000 in
theorem ggX6_tick_X2_put : GoodIn wsX6_tick wsX2_put := goodIn_r _ [247, 248, 329] (by decide +kernel) (by decide +kernel)
set_option maxRecDepth 20000 in
theorem gX6_tick_X2_put : GoodIn wsX6_tick (wsV RX6 213 RX2 yX2_put wsX2_put) := goodIn_app (goodIn_of _ (by decide +kernel)) ggX6_tick_X2_put
set_option maxRecDepth 20000 in
theorem ggX6_tick_X6_has : GoodIn wsX6_tick wsX6_has := goodIn_r _ [202, 1, 288, 289, 290, 291, 292, 293, 294, 295, 296, 297] (by decide +kernel) (by decide +kernel)
set_option maxRecDepth 20000 in
theorem gX6_tick_X6_has : GoodIn wsX6_tick (wsV RX6 194 RX6 yX6_has wsX6_has) := goodIn_app (goodIn_of _ (by decide +kernel)) ggX6_tick_X6_has
set_option maxRecDepth 20000 in
theorem ggX6_logHolds_X6_firstInLog : GoodIn wsX6_logHolds wsX6_firstInLog := goodIn_r _ [6, 1, 7, 8, 9, 10, 11, 12, 13, 14, 15, 16, 17, 18, 19, 20] (by decide +kernel) (by decide +kernel)
set_option maxRecDepth 20000 in
theorem gX6_logHolds_X6_firstInLog : GoodIn wsX6_logHolds (wsV RX6 316 RX6 yX6_firstInLog wsX6_firstInLog) := goodIn_app (goodIn_of _ (by decide +kernel)) ggX6_logHolds_X6_firstInLog
set_option maxRecDepth 20000 in
theorem ggX7_addFour_X7_add : GoodIn wsX7_addFour wsX7_add := goodIn_r _ [5, 6, 7, 8, 9] (by decide +kernel) (by decide +kernel)
set_option maxRecDepth 20000 in
theorem gX7_addFour_X7_add : GoodIn wsX7_addFour (wsV RX7 19 RX7 yX7_add wsX7_add) := goodIn_app (goodIn_of _ (by decide +kernel)) ggX7_addFour_X7_add
set_option maxRecDepth 20000 in
theorem ggX8_init_X5_init : GoodIn wsX8_init wsX5_init := goodIn_r _ [14, 15, 2, 3, 16, 17, 21, 22, 23, 24, 25] (by decide +kernel) (by decide +kernel)
set_option maxRecDepth 20000 in
theorem gX8_init_X5_init_n11 : GoodIn wsX8_init (wsX5_init) := ggX8_init_X5_init
set_option maxRecDepth 20000 in
theorem ggX8_init_X10_init : GoodIn wsX8_init wsX10_init := goodIn_r _ [19, 20, 2, 3] (by decide +kernel) (by decide +kernel)
set_option maxRecDepth 20000 in
theorem gX8_init_X10_init_n20 : GoodIn wsX8_init (wsX10_init) := ggX8_init_X10_init
set_option maxRecDepth 20000 in
theorem ggX8_startAnew_X5_drop : GoodIn wsX8_startAnew wsX5_drop := goodIn_r _ [19, 20, 21, 22, 23, 58, 59, 60, 61, 62] (by decide +kernel) (by decide +kernel)
set_option maxRecDepth 20000 in
theorem gX8_startAnew_X5_drop : GoodIn wsX8_startAnew (wsV RX8 29 RX5 yX5_drop wsX5_drop) := goodIn_app (goodIn_of _ (by decide +kernel)) ggX8_startAnew_X5_drop
set_option maxRecDepth 20000 in
theorem ggX8_startAnew_X10_set : GoodIn wsX8_startAnew wsX10_set := goodIn_r _ [28, 29, 30, 31, 63, 64] (by decide +kernel) (by decide +kernel)
set_option maxRecDepth 20000 in
theorem gX8_startAnew_X10_set : GoodIn wsX8_startAnew (wsV RX8 48 RX10 yX10_set wsX10_set) := goodIn_app (goodIn_of _ (by decide +kernel)) ggX8_startAnew_X10_set
set_option maxRecDepth 20000 in
theorem ggX8_startAnew_X8_takeQuota : GoodIn wsX8_startAnew wsX8_takeQuota := goodIn_r _ [36, 37, 38, 39, 40, 41, 42, 43, 44, 45, 46, 47, 48, 49, 50, 51, 52, 53, 54, 55, 56, 57] (by decide +kernel) (by decide +kernel)
set_option maxRecDepth 20000 in
theorem gX8_startAnew_X8_takeQuota : GoodIn wsX8_startAnew (wsV RX8 73 RX8 yX8_takeQuota wsX8_takeQuota) := goodIn_app (goodIn_of _ (by decide +kernel)) ggX8_startAnew_X8_takeQuota
set_option maxRecDepth 20000 in
theorem ggX10_divide_J9_floorMod_f86c9 : GoodIn wsX10_divide wsJ9_floorMod_f86c9 := goodIn_r _ [6] (by decide +kernel) (by decide +kernel)
set_option maxRecDepth 20000 in
theorem gX10_divide_J9_floorMod_f86c9 : GoodIn wsX10_divide (va_wsS RX10 18 yJ9_floorMod_f86c9 wsJ9_floorMod_f86c9) := goodIn_app (goodIn_of _ (by decide +kernel)) ggX10_divide_J9_floorMod_f86c9
set_option maxRecDepth 20000 in
theorem ggX10_divide_J9_floorDiv_f86c9 : GoodIn wsX10_divide wsJ9_floorDiv_f86c9 := goodIn_r _ [9] (by decide +kernel) (by decide +kernel)
set_option maxRecDepth 20000 in
theorem gX10_divide_J9_floorDiv_f86c9 : GoodIn wsX10_divide (va_wsS RX10 24 yJ9_floorDiv_f86c9 wsJ9_floorDiv_f86c9) := goodIn_app (goodIn_of _ (by decide +kernel)) ggX10_divide_J9_floorDiv_f86c9
set_option maxRecDepth 20000 in
theorem ggX10_modulo_J9_floorMod_f86c9 : GoodIn wsX10_modulo wsJ9_floorMod_f86c9 := goodIn_r _ [6] (by decide +kernel) (by decide +kernel)
set_option maxRecDepth 20000 in
theorem gX10_modulo_J9_floorMod_f86c9 : GoodIn wsX10_modulo (va_wsS RX10 18 yJ9_floorMod_f86c9 wsJ9_floorMod_f86c9) := goodIn_app (goodIn_of _ (by decide +kernel)) ggX10_modulo_J9_floorMod_f86c9
set_option maxRecDepth 20000 in
theorem ggX11_init_X9_init : GoodIn wsX11_init wsX9_init := goodIn_r _ [39, 40, 2, 3, 41, 42, 114, 115, 116] (by decide +kernel) (by decide +kernel)
set_option maxRecDepth 20000 in
theorem gX11_init_X9_init_n11 : GoodIn wsX11_init (wsX9_init) := ggX11_init_X9_init
set_option maxRecDepth 20000 in
theorem ggX11_init_X7_init : GoodIn wsX11_init wsX7_init := goodIn_r _ [44, 45, 2, 3, 46, 47, 129, 130] (by decide +kernel) (by decide +kernel)
set_option maxRecDepth 20000 in
theorem gX11_init_X7_init_n20 : GoodIn wsX11_init (wsX7_init) := ggX11_init_X7_init
set_option maxRecDepth 20000 in
theorem ggX11_init_X3_init : GoodIn wsX11_init wsX3_init := goodIn_r _ [49, 50, 2, 3, 51, 52, 53, 54, 55, 56, 57, 58, 59, 152, 153, 154, 155, 156, 131, 132] (by decide +kernel) (by decide +kernel)
set_option maxRecDepth 20000 in
theorem gX11_init_X3_init_n27 : GoodIn wsX11_init (wsX3_init) := ggX11_init_X3_init
set_option maxRecDepth 20000 in
theorem ggX11_init_X6_init : GoodIn wsX11_init wsX6_init := goodIn_r _ [62, 63, 2, 3, 64, 65, 66, 67, 68, 69, 70, 71, 72, 73, 74, 75, 76, 77, 78, 79, 80, 81, 82, 83, 84, 85, 86, 87, 88, 89, 90, 91, 92, 52, 53, 93, 94, 95, 96, 55, 56, 57, 58, 59, 133, 134, 135, 136, 137, 138, 139, 140, 141, 142, 157, 158, 159, 160, 161, 162, 163, 164, 165, 166, 167, 168, 169, 170, 171, 172, 173, 174, 175, 176, 177, 152, 153, 154, 155, 156] (by decide +kernel) (by decide +kernel)
set_option maxRecDepth 20000 in
theorem gX11_init_X6_init : GoodIn wsX11_init (wsX6_init) := ggX11_init_X6_init
set_option maxRecDepth 20000 in
theorem ggX11_init_X0_init : GoodIn wsX11_init wsX0_init := goodIn_r _ [99, 100, 2, 3, 101, 143, 144, 145] (by decide +kernel) (by decide +kernel)
set_option maxRecDepth 20000 in
theorem gX11_init_X0_init : GoodIn wsX11_init (wsX0_init) := ggX11_init_X0_init
set_option maxRecDepth 20000 in
theorem ggX11_init_X1_init : GoodIn wsX11_init wsX1_init := goodIn_r _ [104, 105, 2, 3, 106, 107, 58, 108, 17, 18, 109, 61, 62, 63, 64, 65, 66, 67, 68, 69, 70, 71, 72, 73, 74, 75, 76, 77, 78, 79, 80, 81, 82, 83, 84, 85, 86, 87, 88, 89, 90, 91, 92, 52, 53, 93, 94, 95, 96, 55, 56, 57, 59, 146, 147, 148, 149, 133, 134, 135, 136, 137, 138, 139, 140, 141, 142, 157, 158, 159, 160, 161, 162, 163, 164, 165, 166, 167, 168, 169, 170, 171, 172, 173, 174, 175, 176, 177, 152, 153, 154, 155, 156] (by decide +kernel) (by decide +kernel)
set_option maxRecDepth 20000 in
theorem gX11_init_X1_init : GoodIn wsX11_init (wsX1_init) := ggX11_init_X1_init
set_option maxRecDepth 20000 in
theorem ggX11_init_X4_init : GoodIn wsX11_init wsX4_init := goodIn_r _ [111, 112, 2, 3, 58, 113, 150, 151] (by decide +kernel) (by decide +kernel)
set_option maxRecDepth 20000 in
theorem gX11_init_X4_init_n71 : GoodIn wsX11_init (wsX4_init) := ggX11_init_X4_init
set_option maxRecDepth 20000 in
theorem ggX11_terms_X9_allows : GoodIn wsX11_terms wsX9_allows := goodIn_r _ [7, 8] (by decide +kernel) (by decide +kernel)
set_option maxRecDepth 20000 in
theorem gX11_terms_X9_allows : GoodIn wsX11_terms (wsV RX11 80 RX9 yX9_allows wsX9_allows) := goodIn_app (goodIn_of _ (by decide +kernel)) ggX11_terms_X9_allows
set_option maxRecDepth 20000 in
theorem ggX11_terms_X4_add : GoodIn wsX11_terms wsX4_add := goodIn_r _ [13, 14, 15, 16, 17, 12, 18, 46, 47] (by decide +kernel) (by decide +kernel)
set_option maxRecDepth 20000 in
theorem gX11_terms_X4_add : GoodIn wsX11_terms (wsV RX11 84 RX4 yX4_add wsX4_add) := goodIn_app (goodIn_of _ (by decide +kernel)) ggX11_terms_X4_add
set_option maxRecDepth 20000 in
theorem ggX11_terms_X9_get : GoodIn wsX11_terms wsX9_get := goodIn_r _ [22, 23, 24, 25, 48, 49, 50] (by decide +kernel) (by decide +kernel)
set_option maxRecDepth 20000 in
theorem gX11_terms_X9_get : GoodIn wsX11_terms (wsV RX11 88 RX9 yX9_get wsX9_get) := goodIn_app (goodIn_of _ (by decide +kernel)) ggX11_terms_X9_get
set_option maxRecDepth 20000 in
theorem ggX11_terms_X9_set : GoodIn wsX11_terms wsX9_set := goodIn_r _ [29, 23, 24, 25, 48, 49, 50] (by decide +kernel) (by decide +kernel)
set_option maxRecDepth 20000 in
theorem gX11_terms_X9_set : GoodIn wsX11_terms (wsV RX11 91 RX9 yX9_set wsX9_set) := goodIn_app (goodIn_of _ (by decide +kernel)) ggX11_terms_X9_set
set_option maxRecDepth 20000 in
theorem ggX11_terms_X4_none : GoodIn wsX11_terms wsX4_none := goodIn_r _ [33, 14, 46, 47] (by decide +kernel) (by decide +kernel)
set_option maxRecDepth 20000 in
theorem gX11_terms_X4_none : GoodIn wsX11_terms (wsV RX11 95 RX4 yX4_none wsX4_none) := goodIn_app (goodIn_of _ (by decide +kernel)) ggX11_terms_X4_none
set_option maxRecDepth 20000 in
theorem ggX11_feed_X7_hasRoomForFive : GoodIn wsX11_feed wsX7_hasRoomForFive := goodIn_r _ [7, 8, 30, 31] (by decide +kernel) (by decide +kernel)
set_option maxRecDepth 20000 in
theorem gX11_feed_X7_hasRoomForFive : GoodIn wsX11_feed (wsV RX11 98 RX7 yX7_hasRoomForFive wsX7_hasRoomForFive) := goodIn_app (goodIn_of _ (by decide +kernel)) ggX11_feed_X7_hasRoomForFive
set_option maxRecDepth 20000 in
theorem ggX11_feed_X7_addFour : GoodIn wsX11_feed wsX7_addFour := goodIn_r _ [12, 13, 14, 15, 6, 16, 8, 17, 30, 31] (by decide +kernel) (by decide +kernel)
set_option maxRecDepth 20000 in
theorem gX11_feed_X7_addFour : GoodIn wsX11_feed (wsV RX11 102 RX7 yX7_addFour wsX7_addFour) := goodIn_app (goodIn_of _ (by decide +kernel)) ggX11_feed_X7_addFour
set_option maxRecDepth 20000 in
theorem ggX11_tape_X7_byteAt : GoodIn wsX11_tape wsX7_byteAt := goodIn_r _ [6, 7, 8, 21, 22] (by decide +kernel) (by decide +kernel)
set_option maxRecDepth 20000 in
theorem gX11_tape_X7_byteAt : GoodIn wsX11_tape (wsV RX11 109 RX7 yX7_byteAt wsX7_byteAt) := goodIn_app (goodIn_of _ (by decide +kernel)) ggX11_tape_X7_byteAt
set_option maxRecDepth 20000 in
theorem ggX11_task_X11_isWeight : GoodIn wsX11_task wsX11_isWeight := goodIn_r _ [8] (by decide +kernel) (by decide +kernel)
set_option maxRecDepth 20000 in
theorem gX11_task_X11_isWeight : GoodIn wsX11_task (va_wsS RX11 112 yX11_isWeight wsX11_isWeight) := goodIn_app (goodIn_of _ (by decide +kernel)) ggX11_task_X11_isWeight
set_option maxRecDepth 20000 in
theorem ggX11_task_X11_isSlice : GoodIn wsX11_task wsX11_isSlice := goodIn_r _ [11] (by decide +kernel) (by decide +kernel)
set_option maxRecDepth 20000 in
theorem gX11_task_X11_isSlice : GoodIn wsX11_task (va_wsS RX11 116 yX11_isSlice wsX11_isSlice) := goodIn_app (goodIn_of _ (by decide +kernel)) ggX11_task_X11_isSlice
set_option maxRecDepth 20000 in
theorem ggX11_task_X4_add : GoodIn wsX11_task wsX4_add := goodIn_r _ [16, 17, 18, 19, 20, 15, 21, 144, 145] (by decide +kernel) (by decide +kernel)
set_option maxRecDepth 20000 in
theorem gX11_task_X4_add : GoodIn wsX11_task (wsV RX11 84 RX4 yX4_add wsX4_add) := goodIn_app (goodIn_of _ (by decide +kernel)) ggX11_task_X4_add
set_option maxRecDepth 20000 in
theorem ggX11_task_X1_keep : GoodIn wsX11_task wsX1_keep := goodIn_r _ [26, 27, 28, 29, 30, 31, 32, 33, 34, 35, 36, 37, 38, 39, 40, 41, 42, 43, 44, 45, 46, 47, 48, 49, 50, 51, 52, 53, 54, 55, 56, 57, 58, 59, 60, 61, 62, 63, 64, 65, 66, 67, 68, 69, 70, 71, 72, 73, 74, 75, 76, 77, 78, 79, 80, 81, 82, 83, 84, 85, 86, 87, 88, 89, 90, 91, 92, 93, 94, 95, 96, 146, 147, 148, 149, 134, 135, 136, 137, 138, 139, 140, 141, 142, 143, 150, 151, 152, 153, 154, 155, 156, 157, 158, 159, 160, 161, 162, 163, 164, 165, 166, 167, 168, 169, 170, 171, 172, 173, 174, 175] (by decide +kernel) (by decide +kernel)
set_option maxRecDepth 20000 in
theorem gX11_task_X1_keep : GoodIn wsX11_task (wsV RX11 122 RX1 yX1_keep wsX1_keep) := goodIn_app (goodIn_of _ (by decide +kernel)) ggX11_task_X1_keep
set_option maxRecDepth 20000 in
theorem ggX11_task_X6_addTask : GoodIn wsX11_task wsX6_addTask := goodIn_r _ [100, 40, 41, 101, 102, 103, 50, 104, 52, 53, 54, 55, 56, 57, 58, 59, 60, 61, 62, 63, 64, 65, 105, 106, 107, 72, 108, 79, 80, 81, 82, 109, 110, 111, 86, 112, 88, 113, 89, 114, 115, 116, 117, 67, 68, 66, 134, 135, 136, 137, 138, 139, 140, 141, 142, 143, 150, 151, 152, 153, 154, 155, 156, 157, 158, 159, 160, 161, 162, 163, 164, 165, 166, 167, 168, 169, 170, 171, 172, 173, 174] (by decide +kernel) (by decide +kernel)
set_option maxRecDepth 20000 in
theorem gX11_task_X6_addTask : GoodIn wsX11_task (wsV RX11 126 RX6 yX6_addTask wsX6_addTask) := goodIn_app (goodIn_of _ (by decide +kernel)) ggX11_task_X6_addTask
set_option maxRecDepth 20000 in
theorem ggX11_task_X4_none : GoodIn wsX11_task wsX4_none := goodIn_r _ [121, 17, 144, 145] (by decide +kernel) (by decide +kernel)
set_option maxRecDepth 20000 in
theorem gX11_task_X4_none : GoodIn wsX11_task (wsV RX11 95 RX4 yX4_none wsX4_none) := goodIn_app (goodIn_of _ (by decide +kernel)) ggX11_task_X4_none
set_option maxRecDepth 20000 in
theorem ggX11_join_X6_has : GoodIn wsX11_join wsX6_has := goodIn_r _ [11, 12, 192, 193, 194, 195, 196, 197, 198, 199, 200, 201] (by decide +kernel) (by decide +kernel)
set_option maxRecDepth 20000 in
theorem gX11_join_X6_has : GoodIn wsX11_join (wsV RX11 130 RX6 yX6_has wsX6_has) := goodIn_app (goodIn_of _ (by decide +kernel)) ggX11_join_X6_has
set_option maxRecDepth 20000 in
theorem ggX11_join_X4_add : GoodIn wsX11_join wsX4_add := goodIn_r _ [17, 18, 19, 20, 21, 16, 22, 220, 221] (by decide +kernel) (by decide +kernel)
set_option maxRecDepth 20000 in
theorem gX11_join_X4_add : GoodIn wsX11_join (wsV RX11 84 RX4 yX4_add wsX4_add) := goodIn_app (goodIn_of _ (by decide +kernel)) ggX11_join_X4_add
set_option maxRecDepth 20000 in
theorem ggX11_leave_X6_has : GoodIn wsX11_leave wsX6_has := goodIn_r _ [11, 12, 152, 153, 154, 155, 156, 157, 158, 159, 160, 161] (by decide +kernel) (by decide +kernel)
set_option maxRecDepth 20000 in
theorem gX11_leave_X6_has : GoodIn wsX11_leave (wsV RX11 130 RX6 yX6_has wsX6_has) := goodIn_app (goodIn_of _ (by decide +kernel)) ggX11_leave_X6_has
set_option maxRecDepth 20000 in
theorem ggX11_leave_X4_add : GoodIn wsX11_leave wsX4_add := goodIn_r _ [17, 18, 19, 20, 21, 16, 22, 180, 181] (by decide +kernel) (by decide +kernel)
set_option maxRecDepth 20000 in
theorem gX11_leave_X4_add : GoodIn wsX11_leave (wsV RX11 84 RX4 yX4_add wsX4_add) := goodIn_app (goodIn_of _ (by decide +kernel)) ggX11_leave_X4_add
set_option maxRecDepth 20000 in
theorem ggX11_weigh_X11_isWeight : GoodIn wsX11_weigh wsX11_isWeight := goodIn_r _ [9] (by decide +kernel) (by decide +kernel)
set_option maxRecDepth 20000 in
theorem gX11_weigh_X11_isWeight : GoodIn wsX11_weigh (va_wsS RX11 112 yX11_isWeight wsX11_isWeight) := goodIn_app (goodIn_of _ (by decide +kernel)) ggX11_weigh_X11_isWeight
set_option maxRecDepth 20000 in
theorem ggX11_weigh_X4_add : GoodIn wsX11_weigh wsX4_add := goodIn_r _ [14, 15, 16, 17, 18, 13, 19, 195, 196] (by decide +kernel) (by decide +kernel)
set_option maxRecDepth 20000 in
theorem gX11_weigh_X4_add : GoodIn wsX11_weigh (wsV RX11 84 RX4 yX4_add wsX4_add) := goodIn_app (goodIn_of _ (by decide +kernel)) ggX11_weigh_X4_add
set_option maxRecDepth 20000 in
theorem ggX11_weigh_X6_has : GoodIn wsX11_weigh wsX6_has := goodIn_r _ [24, 25, 167, 168, 169, 170, 171, 172, 173, 174, 175, 176] (by decide +kernel) (by decide +kernel)
set_option maxRecDepth 20000 in
theorem gX11_weigh_X6_has : GoodIn wsX11_weigh (wsV RX11 130 RX6 yX6_has wsX6_has) := goodIn_app (goodIn_of _ (by decide +kernel)) ggX11_weigh_X6_has
set_option maxRecDepth 20000 in
theorem ggX11_slice_X11_isSlice : GoodIn wsX11_slice wsX11_isSlice := goodIn_r _ [9] (by decide +kernel) (by decide +kernel)
set_option maxRecDepth 20000 in
theorem gX11_slice_X11_isSlice : GoodIn wsX11_slice (va_wsS RX11 116 yX11_isSlice wsX11_isSlice) := goodIn_app (goodIn_of _ (by decide +kernel)) ggX11_slice_X11_isSlice
set_option maxRecDepth 20000 in
theorem ggX11_slice_X4_add : GoodIn wsX11_slice wsX4_add := goodIn_r _ [14, 15, 16, 17, 18, 13, 19, 148, 149] (by decide +kernel) (by decide +kernel)
set_option maxRecDepth 20000 in
theorem gX11_slice_X4_add : GoodIn wsX11_slice (wsV RX11 84 RX4 yX4_add wsX4_add) := goodIn_app (goodIn_of _ (by decide +kernel)) ggX11_slice_X4_add
set_option maxRecDepth 20000 in
theorem ggX11_slice_X6_has : GoodIn wsX11_slice wsX6_has := goodIn_r _ [24, 25, 120, 121, 122, 123, 124, 125, 126, 127, 128, 129] (by decide +kernel) (by decide +kernel)
set_option maxRecDepth 20000 in
theorem gX11_slice_X6_has : GoodIn wsX11_slice (wsV RX11 130 RX6 yX6_has wsX6_has) := goodIn_app (goodIn_of _ (by decide +kernel)) ggX11_slice_X6_has
set_option maxRecDepth 20000 in
theorem ggX11_wish_X4_add : GoodIn wsX11_wish wsX4_add := goodIn_r _ [10, 11, 12, 13, 14, 9, 15, 162, 163] (by decide +kernel) (by decide +kernel)
set_option maxRecDepth 20000 in
theorem gX11_wish_X4_add : GoodIn wsX11_wish (wsV RX11 84 RX4 yX4_add wsX4_add) := goodIn_app (goodIn_of _ (by decide +kernel)) ggX11_wish_X4_add
set_option maxRecDepth 20000 in
theorem ggX11_wish_X6_has : GoodIn wsX11_wish wsX6_has := goodIn_r _ [20, 21, 134, 135, 136, 137, 138, 139, 140, 141, 142, 143] (by decide +kernel) (by decide +kernel)
set_option maxRecDepth 20000 in
theorem gX11_wish_X6_has : GoodIn wsX11_wish (wsV RX11 130 RX6 yX6_has wsX6_has) := goodIn_app (goodIn_of _ (by decide +kernel)) ggX11_wish_X6_has
set_option maxRecDepth 20000 in
theorem ggX11_yields_X6_has : GoodIn wsX11_yields wsX6_has := goodIn_r _ [10, 11, 131, 132, 133, 134, 135, 136, 137, 138, 139, 140] (by decide +kernel) (by decide +kernel)
set_option maxRecDepth 20000 in
theorem gX11_yields_X6_has : GoodIn wsX11_yields (wsV RX11 130 RX6 yX6_has wsX6_has) := goodIn_app (goodIn_of _ (by decide +kernel)) ggX11_yields_X6_has
set_option maxRecDepth 20000 in
theorem ggX11_yields_X4_add : GoodIn wsX11_yields wsX4_add := goodIn_r _ [16, 17, 18, 19, 20, 15, 21, 159, 160] (by decide +kernel) (by decide +kernel)
set_option maxRecDepth 20000 in
theorem gX11_yields_X4_add : GoodIn wsX11_yields (wsV RX11 84 RX4 yX4_add wsX4_add) := goodIn_app (goodIn_of _ (by decide +kernel)) ggX11_yields_X4_add
set_option maxRecDepth 20000 in
theorem ggX11_quota_X4_add : GoodIn wsX11_quota wsX4_add := goodIn_r _ [10, 11, 12, 13, 14, 9, 15, 143, 144] (by decide +kernel) (by decide +kernel)
set_option maxRecDepth 20000 in
theorem gX11_quota_X4_add : GoodIn wsX11_quota (wsV RX11 84 RX4 yX4_add wsX4_add) := goodIn_app (goodIn_of _ (by decide +kernel)) ggX11_quota_X4_add
set_option maxRecDepth 20000 in
theorem ggX11_quota_X6_has : GoodIn wsX11_quota wsX6_has := goodIn_r _ [20, 21, 115, 116, 117, 118, 119, 120, 121, 122, 123, 124] (by decide +kernel) (by decide +kernel)
set_option maxRecDepth 20000 in
theorem gX11_quota_X6_has : GoodIn wsX11_quota (wsV RX11 130 RX6 yX6_has wsX6_has) := goodIn_app (goodIn_of _ (by decide +kernel)) ggX11_quota_X6_has
set_option maxRecDepth 20000 in
theorem ggX11_script_X6_has : GoodIn wsX11_script wsX6_has := goodIn_r _ [17, 18, 361, 362, 363, 364, 365, 366, 367, 368, 369, 370] (by decide +kernel) (by decide +kernel)
set_option maxRecDepth 20000 in
theorem gX11_script_X6_has : GoodIn wsX11_script (wsV RX11 130 RX6 yX6_has wsX6_has) := goodIn_app (goodIn_of _ (by decide +kernel)) ggX11_script_X6_has
set_option maxRecDepth 20000 in
theorem ggX11_script_X4_add : GoodIn wsX11_script wsX4_add := goodIn_r _ [23, 24, 25, 26, 27, 22, 28, 398, 399] (by decide +kernel) (by decide +kernel)
set_option maxRecDepth 20000 in
theorem gX11_script_X4_add : GoodIn wsX11_script (wsV RX11 84 RX4 yX4_add wsX4_add) := goodIn_app (goodIn_of _ (by decide +kernel)) ggX11_script_X4_add
set_option maxRecDepth 20000 in
theorem ggX11_listing_X6_has : GoodIn wsX11_listing wsX6_has := goodIn_r _ [11, 12, 126, 127, 128, 129, 130, 131, 132, 133, 134, 135] (by decide +kernel) (by decide +kernel)
set_option maxRecDepth 20000 in
theorem gX11_listing_X6_has : GoodIn wsX11_listing (wsV RX11 130 RX6 yX6_has wsX6_has) := goodIn_app (goodIn_of _ (by decide +kernel)) ggX11_listing_X6_has
set_option maxRecDepth 20000 in
theorem ggX11_listing_X4_add : GoodIn wsX11_listing wsX4_add := goodIn_r _ [17, 18, 19, 20, 21, 16, 22, 156, 157] (by decide +kernel) (by decide +kernel)
set_option maxRecDepth 20000 in
theorem gX11_listing_X4_add : GoodIn wsX11_listing (wsV RX11 84 RX4 yX4_add wsX4_add) := goodIn_app (goodIn_of _ (by decide +kernel)) ggX11_listing_X4_add
set_option maxRecDepth 20000 in
theorem ggX11_ticks_X4_add : GoodIn wsX11_ticks wsX4_add := goodIn_r _ [10, 11, 12, 13, 14, 9, 15, 369, 370] (by decide +kernel) (by decide +kernel)
set_option maxRecDepth 20000 in
theorem gX11_ticks_X4_add : GoodIn wsX11_ticks (wsV RX11 84 RX4 yX4_add wsX4_add) := goodIn_app (goodIn_of _ (by decide +kernel)) ggX11_ticks_X4_add
set_option maxRecDepth 20000 in
theorem ggX11_ticks_X1_keep : GoodIn wsX11_ticks wsX1_keep := goodIn_r _ [20, 21, 22, 23, 24, 25, 26, 27, 28, 29, 30, 31, 32, 33, 34, 35, 36, 37, 38, 39, 40, 41, 42, 43, 44, 45, 46, 47, 48, 49, 50, 51, 52, 53, 54, 55, 56, 57, 58, 59, 60, 61, 62, 63, 64, 65, 66, 67, 68, 69, 70, 71, 72, 73, 74, 75, 76, 77, 78, 79, 80, 81, 82, 83, 84, 85, 86, 87, 88, 89, 90, 371, 372, 373, 374, 359, 360, 361, 362, 363, 364, 365, 366, 367, 368, 375, 376, 377, 378, 379, 380, 381, 382, 383, 384, 385, 386, 387, 388, 389, 390, 391, 392, 393, 394, 395, 396, 397, 398, 399, 400] (by decide +kernel) (by decide +kernel)
set_option maxRecDepth 20000 in
theorem gX11_ticks_X1_keep : GoodIn wsX11_ticks (wsV RX11 122 RX1 yX1_keep wsX1_keep) := goodIn_app (goodIn_of _ (by decide +kernel)) ggX11_ticks_X1_keep
set_option maxRecDepth 20000 in
theorem ggX11_ticks_X6_tick : GoodIn wsX11_ticks wsX6_tick := goodIn_r _ [94, 34, 35, 37, 36, 40, 95, 96, 97, 44, 98, 61, 62, 60, 99, 100, 101, 32, 102, 103, 104, 105, 106, 107, 108, 109, 110, 111, 112, 113, 114, 115, 116, 117, 118, 119, 120, 121, 122, 123, 124, 125, 126, 127, 128, 129, 130, 131, 132, 133, 134, 135, 136, 38, 137, 138, 139, 80, 140, 82, 141, 83, 142, 143, 144, 145, 146, 147, 148, 149, 52, 48, 150, 53, 77, 78, 79, 81, 151, 152, 153, 154, 155, 156, 157, 158, 159, 160, 161, 162, 163, 164, 165, 166, 167, 168, 169, 170, 171, 172, 173, 174, 175, 176, 177, 178, 179, 180, 181, 182, 183, 184, 185, 186, 187, 188, 189, 190, 191, 192, 66, 193, 74, 73, 194, 195, 196, 197, 68, 198, 199, 200, 201, 202, 203, 204, 205, 206, 207, 208, 209, 210, 211, 212, 213, 214, 215, 216, 217, 218, 219, 49, 220, 221, 222, 223, 224, 225, 226, 227, 51, 228, 26, 27, 28, 229, 230, 231, 232, 76, 233, 234, 235, 236, 237, 238, 75, 239, 240, 241, 242, 243, 244, 245, 246, 247, 248, 249, 250, 251, 252, 253, 254, 255, 256, 257, 258, 259, 260, 261, 262, 263, 264, 265, 266, 267, 268, 50, 269, 270, 271, 272, 273, 47, 274, 275, 276, 277, 278, 279, 280, 281, 39, 282, 283, 284, 285, 286, 287, 288, 289, 290, 291, 292, 293, 294, 295, 296, 297, 298, 299, 300, 87, 301, 302, 303, 304, 305, 89, 306, 307, 308, 309, 310, 311, 312, 313, 314, 315, 316, 317, 318, 319, 320, 57, 58, 321, 322, 323, 324, 325, 326, 327, 328, 329, 330, 331, 332, 333, 334, 335, 336, 337, 338, 339, 340, 341, 342, 359, 360, 361, 362, 363, 364, 365, 366, 367, 368, 375, 376, 377, 378, 379, 380, 381, 382, 383, 384, 385, 386, 387, 388, 389, 390, 391, 392, 393, 394, 395, 396, 397, 401, 402, 403, 398, 399, 404, 405, 406, 400] (by decide +kernel) (by decide +kernel)
set_option maxRecDepth 20000 in
theorem gX11_ticks_X6_tick : GoodIn wsX11_ticks (wsV RX11 226 RX6 yX6_tick wsX6_tick) := goodIn_app (goodIn_of _ (by decide +kernel)) ggX11_ticks_X6_tick
set_option maxRecDepth 20000 in
theorem ggX11_ticks_X4_none : GoodIn wsX11_ticks wsX4_none := goodIn_r _ [346, 11, 369, 370] (by decide +kernel) (by decide +kernel)
set_option maxRecDepth 20000 in
theorem gX11_ticks_X4_none : GoodIn wsX11_ticks (wsV RX11 95 RX4 yX4_none wsX4_none) := goodIn_app (goodIn_of _ (by decide +kernel)) ggX11_ticks_X4_none
set_option maxRecDepth 20000 in
theorem ggX11_undo_X4_add : GoodIn wsX11_undo wsX4_add := goodIn_r _ [9, 10, 11, 12, 13, 8, 14, 106, 107] (by decide +kernel) (by decide +kernel)
set_option maxRecDepth 20000 in
theorem gX11_undo_X4_add : GoodIn wsX11_undo (wsV RX11 84 RX4 yX4_add wsX4_add) := goodIn_app (goodIn_of _ (by decide +kernel)) ggX11_undo_X4_add
set_option maxRecDepth 20000 in
theorem ggX11_image_X11_isImage : GoodIn wsX11_image wsX11_isImage := goodIn_r _ [9] (by decide +kernel) (by decide +kernel)
set_option maxRecDepth 20000 in
theorem gX11_image_X11_isImage : GoodIn wsX11_image (va_wsS RX11 235 yX11_isImage wsX11_isImage) := goodIn_app (goodIn_of _ (by decide +kernel)) ggX11_image_X11_isImage
set_option maxRecDepth 20000 in
theorem ggX11_image_X4_add : GoodIn wsX11_image wsX4_add := goodIn_r _ [14, 15, 16, 17, 18, 13, 19, 108, 109] (by decide +kernel) (by decide +kernel)
set_option maxRecDepth 20000 in
theorem gX11_image_X4_add : GoodIn wsX11_image (wsV RX11 84 RX4 yX4_add wsX4_add) := goodIn_app (goodIn_of _ (by decide +kernel)) ggX11_image_X4_add
set_option maxRecDepth 20000 in
theorem ggX11_image_X6_copy : GoodIn wsX11_image wsX6_copy := goodIn_r _ [24, 25, 26, 27, 28, 29, 30, 31, 32, 33, 34, 35, 36, 37, 38, 39, 40, 41, 42, 43, 44, 45, 46, 47, 48, 49, 50, 51, 52, 53, 54, 55, 56, 57, 58, 59, 60, 61, 62, 63, 64, 65, 66, 67, 68, 69, 70, 71, 72, 73, 74, 75, 76, 77, 78, 79, 80, 81, 98, 99, 100, 101, 102, 103, 104, 105, 106, 107, 110, 111, 112, 113, 114, 115, 116, 117, 118, 119, 120, 121, 122, 123, 124, 125, 126, 127, 128, 129, 130, 131, 132, 133, 134, 135] (by decide +kernel) (by decide +kernel)
set_option maxRecDepth 20000 in
theorem gX11_image_X6_copy : GoodIn wsX11_image (wsV RX11 238 RX6 yX6_copy wsX6_copy) := goodIn_app (goodIn_of _ (by decide +kernel)) ggX11_image_X6_copy
set_option maxRecDepth 20000 in
theorem ggX11_image_X4_none : GoodIn wsX11_image wsX4_none := goodIn_r _ [85, 15, 108, 109] (by decide +kernel) (by decide +kernel)
set_option maxRecDepth 20000 in
theorem gX11_image_X4_none : GoodIn wsX11_image (wsV RX11 95 RX4 yX4_none wsX4_none) := goodIn_app (goodIn_of _ (by decide +kernel)) ggX11_image_X4_none
set_option maxRecDepth 20000 in
theorem ggX11_back_X11_isImage : GoodIn wsX11_back wsX11_isImage := goodIn_r _ [11] (by decide +kernel) (by decide +kernel)
set_option maxRecDepth 20000 in
theorem gX11_back_X11_isImage : GoodIn wsX11_back (va_wsS RX11 235 yX11_isImage wsX11_isImage) := goodIn_app (goodIn_of _ (by decide +kernel)) ggX11_back_X11_isImage
set_option maxRecDepth 20000 in
theorem ggX11_back_X4_add : GoodIn wsX11_back wsX4_add := goodIn_r _ [16, 17, 18, 19, 20, 15, 21, 114, 115] (by decide +kernel) (by decide +kernel)
set_option maxRecDepth 20000 in
theorem gX11_back_X4_add : GoodIn wsX11_back (wsV RX11 84 RX4 yX4_add wsX4_add) := goodIn_app (goodIn_of _ (by decide +kernel)) ggX11_back_X4_add
set_option maxRecDepth 20000 in
theorem ggX11_of_X6_has : GoodIn wsX11_of wsX6_has := goodIn_r _ [7, 8, 62, 63, 64, 65, 66, 67, 68, 69, 70, 71] (by decide +kernel) (by decide +kernel)
set_option maxRecDepth 20000 in
theorem gX11_of_X6_has : GoodIn wsX11_of (wsV RX11 130 RX6 yX6_has wsX6_has) := goodIn_app (goodIn_of _ (by decide +kernel)) ggX11_of_X6_has
set_option maxRecDepth 20000 in
theorem ggX11_exact_X6_has : GoodIn wsX11_exact wsX6_has := goodIn_r _ [10, 11, 75, 76, 77, 78, 79, 80, 81, 82, 83, 84] (by decide +kernel) (by decide +kernel)
set_option maxRecDepth 20000 in
theorem gX11_exact_X6_has : GoodIn wsX11_exact (wsV RX11 130 RX6 yX6_has wsX6_has) := goodIn_app (goodIn_of _ (by decide +kernel)) ggX11_exact_X6_has
set_option maxRecDepth 20000 in
theorem ggX11_time_X6_wholeV : GoodIn wsX11_time wsX6_wholeV := goodIn_r _ [8, 9, 10, 11, 12, 7, 13, 14, 15, 16, 17, 18, 19, 20, 21, 22, 23, 24, 25, 26, 27, 28, 29, 30, 31, 32, 33, 34, 35, 36, 37, 38, 39, 40, 41, 42, 43, 44, 45, 46, 71, 72, 73, 74, 75, 76, 77, 78, 79, 80, 81, 82, 83, 84, 85, 86, 87, 88, 89, 90, 91, 92, 93, 94, 95, 96, 97, 98, 99, 100] (by decide +kernel) (by decide +kernel)
set_option maxRecDepth 20000 in
theorem gX11_time_X6_wholeV : GoodIn wsX11_time (wsV RX11 268 RX6 yX6_wholeV wsX6_wholeV) := goodIn_app (goodIn_of _ (by decide +kernel)) ggX11_time_X6_wholeV
set_option maxRecDepth 20000 in
theorem ggX11_time_X6_restOfV : GoodIn wsX11_time wsX6_restOfV := goodIn_r _ [50, 9, 10, 11, 12, 7, 13, 14, 15, 16, 17, 18, 19, 20, 21, 22, 23, 24, 25, 26, 27, 28, 29, 30, 31, 51, 52, 53, 54, 36, 37, 38, 39, 71, 72, 73, 74, 75, 76, 77, 78, 79, 80, 81, 82, 83, 84, 85, 86, 87, 88, 89, 90, 91, 92, 93, 94, 95, 96, 97, 98, 99, 100] (by decide +kernel) (by decide +kernel)
set_option maxRecDepth 20000 in
theorem gX11_time_X6_restOfV : GoodIn wsX11_time (wsV RX11 271 RX6 yX6_restOfV wsX6_restOfV) := goodIn_app (goodIn_of _ (by decide +kernel)) ggX11_time_X6_restOfV
set_option maxRecDepth 20000 in
theorem ggX11_time_X6_weightOfAll : GoodIn wsX11_time wsX6_weightOfAll := goodIn_r _ [58, 14, 15, 16, 17, 71, 72, 73, 74, 75, 76, 77, 78, 79, 80, 81, 82, 83, 84, 85, 86, 87, 88, 89, 90, 91, 92, 93, 94, 95, 96, 97, 98] (by decide +kernel) (by decide +kernel)
set_option maxRecDepth 20000 in
theorem gX11_time_X6_weightOfAll : GoodIn wsX11_time (wsV RX11 155 RX6 yX6_weightOfAll wsX6_weightOfAll) := goodIn_app (goodIn_of _ (by decide +kernel)) ggX11_time_X6_weightOfAll
set_option maxRecDepth 20000 in
theorem ggX11_eligible_X6_eligibleBits : GoodIn wsX11_eligible wsX6_eligibleBits := goodIn_r _ [6, 7, 8, 9, 10, 11, 12, 5, 13, 14, 15, 16, 17, 18, 19, 20, 21, 22, 23, 24, 25, 26, 27, 28, 29, 30, 31, 32, 33, 34, 35, 36, 37, 38, 39, 40, 41, 42, 43, 44, 45, 46, 47, 48, 49, 50, 51, 52, 53, 54, 67, 68, 69, 70, 71, 72, 73, 74, 75, 76, 77, 78, 79, 80, 81, 82, 83, 84, 85, 86, 87, 88, 89, 90, 91, 92, 93, 94, 95, 96] (by decide +kernel) (by decide +kernel)
set_option maxRecDepth 20000 in
theorem gX11_eligible_X6_eligibleBits : GoodIn wsX11_eligible (wsV RX11 274 RX6 yX6_eligibleBits wsX6_eligibleBits) := goodIn_app (goodIn_of _ (by decide +kernel)) ggX11_eligible_X6_eligibleBits
set_option maxRecDepth 20000 in
theorem ggX11_earliest_X6_eligibleAt : GoodIn wsX11_earliest wsX6_eligibleAt := goodIn_r _ [6, 7, 8, 9, 10, 11, 5, 12, 13, 14, 15, 16, 17, 18, 19, 20, 21, 22, 23, 24, 25, 26, 27, 28, 29, 30, 31, 32, 33, 34, 35, 36, 37, 38, 39, 40, 41, 42, 43, 44, 45, 46, 47, 48, 49, 50, 51, 52, 53, 54, 55, 56, 57, 58, 59, 60, 61, 62, 63, 64, 65, 66, 67, 68, 69, 70, 71, 72, 73, 74, 75, 76, 77, 78, 91, 92, 93, 94, 95, 96, 97, 98, 99, 100, 101, 102, 103, 104, 105, 106, 107, 108, 109, 110, 111, 112, 113, 114, 115, 116, 117, 118, 119, 120] (by decide +kernel) (by decide +kernel)
set_option maxRecDepth 20000 in
theorem gX11_earliest_X6_eligibleAt : GoodIn wsX11_earliest (wsV RX11 277 RX6 yX6_eligibleAt wsX6_eligibleAt) := goodIn_app (goodIn_of _ (by decide +kernel)) ggX11_earliest_X6_eligibleAt
set_option maxRecDepth 20000 in
theorem ggX11_rank_X6_has : GoodIn wsX11_rank wsX6_has := goodIn_r _ [7, 8, 35, 36, 37, 38, 39, 40, 41, 42, 43, 44] (by decide +kernel) (by decide +kernel)
set_option maxRecDepth 20000 in
theorem gX11_rank_X6_has : GoodIn wsX11_rank (wsV RX11 130 RX6 yX6_has wsX6_has) := goodIn_app (goodIn_of _ (by decide +kernel)) ggX11_rank_X6_has
set_option maxRecDepth 20000 in
theorem ggX11_ran_X6_logHolds : GoodIn wsX11_ran wsX6_logHolds := goodIn_r _ [7, 8, 9, 10, 11, 6, 12, 13, 14, 15, 16, 35, 36, 37, 38, 39, 40, 41, 42, 43, 44] (by decide +kernel) (by decide +kernel)
set_option maxRecDepth 20000 in
theorem gX11_ran_X6_logHolds : GoodIn wsX11_ran (wsV RX11 284 RX6 yX6_logHolds wsX6_logHolds) := goodIn_app (goodIn_of _ (by decide +kernel)) ggX11_ran_X6_logHolds
set_option maxRecDepth 20000 in
theorem ggX11_service_X6_has : GoodIn wsX11_service wsX6_has := goodIn_r _ [7, 8, 44, 45, 46, 47, 48, 49, 50, 51, 52, 53] (by decide +kernel) (by decide +kernel)
set_option maxRecDepth 20000 in
theorem gX11_service_X6_has : GoodIn wsX11_service (wsV RX11 130 RX6 yX6_has wsX6_has) := goodIn_app (goodIn_of _ (by decide +kernel)) ggX11_service_X6_has
set_option maxRecDepth 20000 in
theorem ggX11_share_X6_has : GoodIn wsX11_share wsX6_has := goodIn_r _ [8, 9, 53, 54, 55, 56, 57, 58, 59, 60, 61, 62] (by decide +kernel) (by decide +kernel)
set_option maxRecDepth 20000 in
theorem gX11_share_X6_has : GoodIn wsX11_share (wsV RX11 130 RX6 yX6_has wsX6_has) := goodIn_app (goodIn_of _ (by decide +kernel)) ggX11_share_X6_has
set_option maxRecDepth 20000 in
theorem ggX11_worst_X6_has : GoodIn wsX11_worst wsX6_has := goodIn_r _ [9, 10, 59, 60, 61, 62, 63, 64, 65, 66, 67, 68] (by decide +kernel) (by decide +kernel)
set_option maxRecDepth 20000 in
theorem gX11_worst_X6_has : GoodIn wsX11_worst (wsV RX11 130 RX6 yX6_has wsX6_has) := goodIn_app (goodIn_of _ (by decide +kernel)) ggX11_worst_X6_has
set_option maxRecDepth 20000 in
theorem ggX11_ahead_X11_canTick : GoodIn wsX11_ahead wsX11_canTick := goodIn_r _ [8, 2, 9, 326, 327, 328, 329, 330, 331, 332, 333, 334, 335, 336, 337, 338, 339, 340, 341, 342, 343, 344, 345, 346, 347] (by decide +kernel) (by decide +kernel)
set_option maxRecDepth 20000 in
theorem gX11_ahead_X11_canTick : GoodIn wsX11_ahead (wsV RX11 314 RX11 yX11_canTick wsX11_canTick) := goodIn_app (goodIn_of _ (by decide +kernel)) ggX11_ahead_X11_canTick
set_option maxRecDepth 20000 in
theorem ggX11_ahead_X6_copy : GoodIn wsX11_ahead wsX6_copy := goodIn_r _ [14, 15, 16, 17, 18, 19, 20, 21, 22, 23, 24, 25, 26, 27, 28, 29, 30, 31, 32, 33, 34, 35, 36, 37, 38, 39, 40, 41, 42, 43, 44, 45, 46, 47, 48, 49, 50, 51, 52, 53, 54, 55, 56, 57, 58, 59, 60, 61, 62, 63, 64, 65, 66, 67, 68, 69, 70, 71, 338, 339, 340, 341, 342, 343, 344, 345, 346, 347, 348, 349, 350, 351, 352, 353, 354, 355, 356, 357, 358, 359, 360, 361, 362, 363, 364, 365, 366, 367, 368, 369, 370, 371, 372, 373] (by decide +kernel) (by decide +kernel)
set_option maxRecDepth 20000 in
theorem gX11_ahead_X6_copy : GoodIn wsX11_ahead (wsV RX11 238 RX6 yX6_copy wsX6_copy) := goodIn_app (goodIn_of _ (by decide +kernel)) ggX11_ahead_X6_copy
set_option maxRecDepth 20000 in
theorem ggX11_ahead_X6_tick : GoodIn wsX11_ahead wsX6_tick := goodIn_r _ [75, 15, 16, 18, 17, 21, 76, 77, 78, 25, 79, 42, 43, 41, 80, 81, 82, 13, 83, 84, 85, 86, 87, 88, 89, 90, 91, 92, 93, 94, 95, 96, 97, 98, 99, 100, 101, 102, 103, 104, 105, 106, 107, 108, 109, 110, 111, 112, 113, 114, 115, 116, 117, 19, 118, 119, 120, 61, 121, 63, 122, 64, 123, 124, 125, 126, 127, 128, 129, 130, 33, 29, 131, 34, 58, 59, 60, 62, 132, 133, 134, 135, 136, 137, 138, 139, 140, 141, 142, 143, 144, 145, 146, 147, 148, 149, 150, 151, 152, 153, 154, 155, 156, 157, 158, 159, 160, 161, 162, 163, 164, 165, 166, 167, 168, 169, 170, 171, 172, 173, 47, 174, 55, 54, 175, 176, 177, 178, 49, 179, 180, 181, 182, 183, 184, 185, 186, 187, 188, 189, 190, 191, 192, 193, 194, 195, 196, 197, 198, 199, 200, 30, 201, 202, 203, 204, 205, 206, 207, 208, 32, 209, 210, 211, 212, 213, 214, 215, 216, 57, 217, 218, 219, 220, 221, 222, 56, 223, 224, 225, 226, 227, 228, 229, 230, 231, 232, 233, 234, 235, 236, 237, 238, 239, 240, 241, 242, 243, 244, 245, 246, 247, 248, 249, 250, 251, 252, 31, 253, 254, 255, 256, 257, 28, 258, 7, 259, 260, 261, 262, 263, 264, 20, 265, 266, 267, 268, 269, 270, 271, 272, 273, 274, 275, 276, 277, 278, 279, 280, 281, 282, 283, 68, 284, 285, 286, 287, 288, 70, 289, 290, 291, 292, 293, 294, 295, 296, 297, 298, 299, 300, 301, 302, 303, 38, 39, 304, 305, 306, 307, 308, 309, 310, 311, 312, 313, 314, 315, 316, 317, 318, 319, 320, 321, 322, 323, 324, 325, 338, 339, 340, 341, 342, 343, 344, 345, 346, 347, 348, 349, 350, 351, 352, 353, 354, 355, 356, 357, 358, 359, 360, 361, 362, 363, 364, 365, 366, 367, 368, 369, 370, 374, 375, 376, 371, 372, 377, 378, 379, 373] (by decide +kernel) (by decide +kernel)
set_option maxRecDepth 20000 in
theorem gX11_ahead_X6_tick : GoodIn wsX11_ahead (wsV RX11 226 RX6 yX6_tick wsX6_tick) := goodIn_app (goodIn_of _ (by decide +kernel)) ggX11_ahead_X6_tick
set_option maxRecDepth 20000 in
theorem ggX11_finish_X6_has : GoodIn wsX11_finish wsX6_has := goodIn_r _ [11, 12, 338, 339, 340, 341, 342, 343, 344, 345, 346, 347] (by decide +kernel) (by decide +kernel)
set_option maxRecDepth 20000 in
theorem gX11_finish_X6_has : GoodIn wsX11_finish (wsV RX11 130 RX6 yX6_has wsX6_has) := goodIn_app (goodIn_of _ (by decide +kernel)) ggX11_finish_X6_has
set_option maxRecDepth 20000 in
theorem ggX11_due_X6_has : GoodIn wsX11_due wsX6_has := goodIn_r _ [11, 12, 337, 338, 339, 340, 341, 342, 343, 344, 345, 346] (by decide +kernel) (by decide +kernel)
set_option maxRecDepth 20000 in
theorem gX11_due_X6_has : GoodIn wsX11_due (wsV RX11 130 RX6 yX6_has wsX6_has) := goodIn_app (goodIn_of _ (by decide +kernel)) ggX11_due_X6_has
set_option maxRecDepth 20000 in
theorem ggX11_least_X6_has : GoodIn wsX11_least wsX6_has := goodIn_r _ [7, 8, 347, 348, 349, 350, 351, 352, 353, 354, 355, 356] (by decide +kernel) (by decide +kernel)
set_option maxRecDepth 20000 in
theorem gX11_least_X6_has : GoodIn wsX11_least (wsV RX11 130 RX6 yX6_has wsX6_has) := goodIn_app (goodIn_of _ (by decide +kernel)) ggX11_least_X6_has
set_option maxRecDepth 20000 in
theorem ggX11_would_X11_canTick : GoodIn wsX11_would wsX11_canTick := goodIn_r _ [10, 3, 11, 345, 346, 347, 348, 349, 350, 351, 352, 353, 354, 355, 356, 357, 358, 359, 360, 361, 362, 363, 364, 365, 366] (by decide +kernel) (by decide +kernel)
set_option maxRecDepth 20000 in
theorem gX11_would_X11_canTick : GoodIn wsX11_would (wsV RX11 314 RX11 yX11_canTick wsX11_canTick) := goodIn_app (goodIn_of _ (by decide +kernel)) ggX11_would_X11_canTick
set_option maxRecDepth 20000 in
theorem ggX11_would_X6_copy : GoodIn wsX11_would wsX6_copy := goodIn_r _ [16, 17, 18, 19, 20, 21, 22, 23, 24, 25, 26, 27, 28, 29, 30, 31, 32, 33, 34, 35, 36, 37, 38, 39, 40, 41, 42, 43, 44, 45, 46, 47, 48, 49, 50, 51, 52, 53, 54, 55, 56, 57, 58, 59, 60, 61, 62, 63, 64, 65, 66, 67, 68, 69, 70, 71, 72, 73, 357, 358, 359, 360, 361, 362, 363, 364, 365, 366, 367, 368, 369, 370, 371, 372, 373, 374, 375, 376, 377, 378, 379, 380, 381, 382, 383, 384, 385, 386, 387, 388, 389, 390, 391, 392] (by decide +kernel) (by decide +kernel)
set_option maxRecDepth 20000 in
theorem gX11_would_X6_copy : GoodIn wsX11_would (wsV RX11 238 RX6 yX6_copy wsX6_copy) := goodIn_app (goodIn_of _ (by decide +kernel)) ggX11_would_X6_copy
set_option maxRecDepth 20000 in
theorem ggX11_would_X0_start : GoodIn wsX11_would wsX0_start := goodIn_r _ [78, 79, 80, 81, 82, 393, 394, 395, 396, 397, 398] (by decide +kernel) (by decide +kernel)
set_option maxRecDepth 20000 in
theorem gX11_would_X0_start : GoodIn wsX11_would (wsV RX11 326 RX0 yX0_start wsX0_start) := goodIn_app (goodIn_of _ (by decide +kernel)) ggX11_would_X0_start
set_option maxRecDepth 20000 in
theorem ggX11_would_X6_tick : GoodIn wsX11_would wsX6_tick := goodIn_r _ [86, 17, 18, 20, 19, 23, 87, 88, 89, 27, 90, 44, 45, 43, 91, 92, 93, 15, 94, 95, 96, 97, 98, 99, 100, 101, 102, 103, 104, 105, 106, 107, 108, 109, 110, 111, 112, 113, 114, 115, 116, 117, 118, 119, 120, 121, 122, 123, 124, 125, 126, 127, 128, 21, 129, 130, 131, 63, 132, 65, 133, 66, 134, 135, 136, 137, 138, 139, 140, 141, 35, 31, 142, 36, 60, 61, 62, 64, 143, 144, 145, 146, 147, 148, 149, 150, 151, 152, 153, 154, 155, 156, 157, 158, 159, 160, 161, 162, 163, 164, 165, 166, 167, 168, 169, 170, 171, 172, 173, 174, 175, 176, 177, 178, 179, 180, 181, 182, 183, 184, 49, 185, 57, 56, 186, 187, 188, 189, 51, 190, 191, 192, 193, 194, 195, 196, 197, 198, 199, 200, 201, 202, 203, 204, 205, 206, 207, 208, 209, 210, 211, 32, 212, 213, 214, 215, 216, 217, 218, 219, 34, 220, 221, 222, 223, 224, 225, 226, 227, 59, 228, 229, 230, 231, 232, 233, 58, 234, 235, 236, 77, 237, 79, 80, 238, 239, 240, 241, 242, 243, 244, 245, 246, 247, 248, 249, 250, 251, 252, 253, 254, 255, 256, 257, 258, 259, 260, 33, 261, 262, 263, 264, 265, 30, 266, 9, 267, 268, 269, 270, 271, 272, 22, 273, 274, 275, 276, 277, 82, 278, 279, 280, 281, 282, 283, 284, 285, 286, 287, 288, 289, 290, 70, 291, 292, 293, 294, 295, 72, 296, 297, 298, 299, 300, 301, 302, 303, 304, 305, 306, 307, 308, 309, 310, 40, 41, 311, 312, 313, 314, 315, 316, 317, 318, 319, 320, 321, 322, 323, 324, 325, 326, 327, 328, 329, 330, 331, 332, 357, 358, 359, 360, 361, 362, 363, 364, 365, 366, 367, 368, 369, 370, 371, 372, 373, 374, 375, 376, 377, 378, 379, 380, 381, 382, 383, 384, 385, 386, 387, 388, 389, 396, 397, 398, 390, 391, 393, 394, 395, 392] (by decide +kernel) (by decide +kernel)
set_option maxRecDepth 20000 in
theorem gX11_would_X6_tick : GoodIn wsX11_would (wsV RX11 226 RX6 yX6_tick wsX6_tick) := goodIn_app (goodIn_of _ (by decide +kernel)) ggX11_would_X6_tick
set_option maxRecDepth 20000 in
theorem ggX11_would_X6_lagEdge : GoodIn wsX11_would wsX6_lagEdge := goodIn_r _ [336, 17, 18, 119, 337, 338, 339, 340, 222, 341, 342, 343, 344, 108, 109, 110, 15, 111, 95, 96, 208, 209, 210, 27, 211, 32, 200, 201, 202, 203, 121, 129, 130, 131, 63, 132, 65, 133, 66, 134, 135, 136, 137, 154, 155, 156, 157, 162, 163, 164, 165, 166, 167, 168, 169, 170, 171, 172, 173, 174, 175, 176, 357, 358, 359, 360, 361, 362, 363, 364, 365, 366, 367, 368, 369, 370, 371, 372, 373, 374, 375, 376, 377, 378, 379, 380, 381, 382, 383, 384, 390, 391] (by decide +kernel) (by decide +kernel)
set_option maxRecDepth 20000 in
theorem gX11_would_X6_lagEdge : GoodIn wsX11_would (wsV RX11 332 RX6 yX6_lagEdge wsX6_lagEdge) := goodIn_app (goodIn_of _ (by decide +kernel)) ggX11_would_X6_lagEdge
set_option maxRecDepth 20000 in
theorem ggX11_count_X6_howManyAre : GoodIn wsX11_count wsX6_howManyAre := goodIn_r _ [18, 19, 20, 21, 63, 64, 65, 66, 67, 68, 69, 70, 71, 72, 82, 83, 84, 85, 86, 87, 88, 89, 90, 91, 92, 93, 94, 95, 96, 97, 98, 99] (by decide +kernel) (by decide +kernel)
set_option maxRecDepth 20000 in
theorem gX11_count_X6_howManyAre : GoodIn wsX11_count (wsV RX11 336 RX6 yX6_howManyAre wsX6_howManyAre) := goodIn_app (goodIn_of _ (by decide +kernel)) ggX11_count_X6_howManyAre
set_option maxRecDepth 20000 in
theorem ggX11_count_X6_howManyHaveScripts : GoodIn wsX11_count wsX6_howManyHaveScripts := goodIn_r _ [25, 19, 20, 26, 27, 28, 29, 30, 31, 32, 63, 64, 65, 66, 67, 68, 69, 70, 71, 72, 82, 83, 84, 85, 86, 87, 88, 89, 90, 91, 92, 93, 94, 95, 96, 97, 98, 99, 100, 101, 102, 103, 104] (by decide +kernel) (by decide +kernel)
set_option maxRecDepth 20000 in
theorem gX11_count_X6_howManyHaveScripts : GoodIn wsX11_count (wsV RX11 339 RX6 yX6_howManyHaveScripts wsX6_howManyHaveScripts) := goodIn_app (goodIn_of _ (by decide +kernel)) ggX11_count_X6_howManyHaveScripts
set_option maxRecDepth 20000 in
theorem ggX11_count_X6_firstInLog : GoodIn wsX11_count wsX6_firstInLog := goodIn_r _ [36, 37, 38, 39, 40, 41, 63, 64, 65, 66, 67, 68, 69, 70, 71, 72] (by decide +kernel) (by decide +kernel)
set_option maxRecDepth 20000 in
theorem gX11_count_X6_firstInLog : GoodIn wsX11_count (wsV RX11 307 RX6 yX6_firstInLog wsX6_firstInLog) := goodIn_app (goodIn_of _ (by decide +kernel)) ggX11_count_X6_firstInLog
set_option maxRecDepth 20000 in
theorem ggX11_count_X4_countOf : GoodIn wsX11_count wsX4_countOf := goodIn_r _ [46, 47, 48, 49, 45, 50, 105, 106] (by decide +kernel) (by decide +kernel)
set_option maxRecDepth 20000 in
theorem gX11_count_X4_countOf : GoodIn wsX11_count (wsV RX11 342 RX4 yX4_countOf wsX4_countOf) := goodIn_app (goodIn_of _ (by decide +kernel)) ggX11_count_X4_countOf
set_option maxRecDepth 20000 in
theorem ggX12_isTask_X12_in : GoodIn wsX12_isTask wsX12_in := goodIn_r _ [5] (by decide +kernel) (by decide +kernel)
set_option maxRecDepth 20000 in
theorem gX12_isTask_X12_in : GoodIn wsX12_isTask (va_wsS RX12 83 yX12_in wsX12_in) := goodIn_app (goodIn_of _ (by decide +kernel)) ggX12_isTask_X12_in
