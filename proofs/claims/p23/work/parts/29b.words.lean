set_option maxRecDepth 20000 in
theorem zg_L_build : GoodIn lw_tbl wsL_build := (goodIn_ca (goodIn_ca (goodIn_r _ [492, 493, 494, 29, 515, 502, 128, 505, 496, 497, 498, 45, 46, 499, 501, 503, 504, 486, 487, 26, 488, 489, 482, 483, 484, 485, 516, 517, 518, 27, 519, 309, 33, 324, 34, 132, 131, 47, 520, 35, 178, 179, 180, 521, 522, 523, 524, 525, 528, 531, 534, 536, 538, 540, 542, 561, 562, 563, 564, 133, 134, 135, 136, 506, 508, 510, 512, 145, 147, 149, 151, 153, 155, 157, 159, 161, 163, 165, 167, 169, 171, 544, 546, 548, 550, 552, 554, 556, 558] (by decide +kernel) (by decide +kernel)) (goodIn_sub wsL_law_x0 (by decide +kernel))) (goodIn_sub wsL_law_x1 (by decide +kernel)))
set_option maxRecDepth 20000 in
theorem zgS_L_build : GoodIn lw_tbl (va_wsS RL 42 yL_build wsL_build) := goodIn_app (goodIn_r [.methodLink RL 42 yL_build, .static yL_build, .initialized RL] [490, 491, 26] (by decide +kernel) (by decide +kernel)) zg_L_build
set_option maxRecDepth 20000 in
theorem zg_X3_addLine : GoodIn lw_tbl wsX3_addLine := (goodIn_ca (goodIn_ca (goodIn_ca (goodIn_r _ [304, 181, 36, 309, 33, 324, 34, 144, 143, 129, 339, 37, 305, 307, 6, 27, 308, 132, 131, 178, 179, 180, 340, 341, 342, 343, 45, 46, 348, 344, 346, 145, 147, 149, 151, 153, 155, 157, 159, 161, 163, 165, 167, 169, 171, 350, 352, 354] (by decide +kernel) (by decide +kernel)) (goodIn_sub wsL_law_x2 (by decide +kernel))) (goodIn_sub wsL_law_x0 (by decide +kernel))) (goodIn_sub wsL_law_x1 (by decide +kernel)))
set_option maxRecDepth 20000 in
theorem zgV_X3_addLine : GoodIn lw_tbl (wsV RL 46 RX3 yX3_addLine wsX3_addLine) := goodIn_app (goodIn_r [.methodLink RL 46 yX3_addLine, .instanceMethod yX3_addLine, .selects RX3 yX3_addLine yX3_addLine, .initialized RX3] [301, 302, 303, 27] (by decide +kernel) (by decide +kernel)) zg_X3_addLine
set_option maxRecDepth 20000 in
theorem zg_X3_line : GoodIn lw_tbl wsX3_line := (goodIn_ca (goodIn_r _ [457, 181, 36, 347, 345, 527, 361, 363, 7, 27, 364, 144, 143, 178, 179, 180, 350, 352, 354, 544, 546, 548, 550, 552, 554, 556, 558, 145, 147, 149, 151, 153, 155, 157, 159, 161, 163, 165, 167, 169, 171] (by decide +kernel) (by decide +kernel)) (goodIn_sub wsL_law_x2 (by decide +kernel)))
set_option maxRecDepth 20000 in
theorem zgV_X3_line : GoodIn lw_tbl (wsV RL 53 RX3 yX3_line wsX3_line) := goodIn_app (goodIn_r [.methodLink RL 53 yX3_line, .instanceMethod yX3_line, .selects RX3 yX3_line yX3_line, .initialized RX3] [454, 455, 456, 27] (by decide +kernel) (by decide +kernel)) zg_X3_line
set_option maxRecDepth 20000 in
theorem zg_X3_count : GoodIn lw_tbl wsX3_count := (goodIn_ca (goodIn_r _ [177, 181, 36, 178, 179, 27, 180, 244, 246, 1, 247, 132, 139, 138, 144, 145, 147, 149, 151, 153, 155, 157, 159, 161, 163, 165, 167, 169, 171] (by decide +kernel) (by decide +kernel)) (goodIn_sub wsL_law_x2 (by decide +kernel)))
set_option maxRecDepth 20000 in
theorem zgV_X3_count : GoodIn lw_tbl (wsV RL 57 RX3 yX3_count wsX3_count) := goodIn_app (goodIn_r [.methodLink RL 57 yX3_count, .instanceMethod yX3_count, .selects RX3 yX3_count yX3_count, .initialized RX3] [174, 175, 176, 27] (by decide +kernel) (by decide +kernel)) zg_X3_count
set_option maxRecDepth 20000 in
theorem zg_X3_sum : GoodIn lw_tbl wsX3_sum := (goodIn_ca (goodIn_r _ [461, 181, 36, 178, 179, 27, 180, 462, 464, 22, 465, 140, 466, 468, 23, 469, 138, 76, 252, 254, 2, 255, 137, 84, 470, 472, 24, 473, 80, 474, 476, 25, 477, 74, 409, 410, 411, 28, 412, 65, 67, 145, 147, 149, 151, 153, 155, 157, 159, 161, 163, 165, 167, 169, 171, 91, 93, 95, 97, 99, 101, 103, 105, 107, 109, 111, 113, 115, 117, 119, 121, 123, 125] (by decide +kernel) (by decide +kernel)) (goodIn_sub wsL_law_x2 (by decide +kernel)))
set_option maxRecDepth 20000 in
theorem zgV_X3_sum : GoodIn lw_tbl (wsV RL 61 RX3 yX3_sum wsX3_sum) := goodIn_app (goodIn_r [.methodLink RL 61 yX3_sum, .instanceMethod yX3_sum, .selects RX3 yX3_sum yX3_sum, .initialized RX3] [458, 459, 460, 27] (by decide +kernel) (by decide +kernel)) zg_X3_sum
