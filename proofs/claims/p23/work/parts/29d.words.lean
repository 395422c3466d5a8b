set_option maxRecDepth 20000 in
theorem zg_X3_item : GoodIn lw_tbl wsX3_item := (goodIn_ca (goodIn_r _ [251, 181, 36, 252, 254, 2, 27, 255, 138, 137, 84, 178, 179, 180, 256, 258, 3, 259, 58, 70, 72, 74, 76, 64, 80, 88, 78, 260, 262, 4, 263, 264, 265, 266, 28, 267, 73, 75, 268, 269, 270, 271, 69, 65, 272, 273, 38, 274, 275, 276, 277, 71, 67, 145, 147, 149, 151, 153, 155, 157, 159, 161, 163, 165, 167, 169, 171, 91, 93, 95, 97, 99, 101, 103, 105, 107, 109, 111, 113, 115, 117, 119, 121, 123, 125] (by decide +kernel) (by decide +kernel)) (goodIn_sub wsL_law_x2 (by decide +kernel)))
set_option maxRecDepth 20000 in
theorem zgV_X3_item : GoodIn lw_tbl (wsV RL 64 RX3 yX3_item wsX3_item) := goodIn_app (goodIn_r [.methodLink RL 64 yX3_item, .instanceMethod yX3_item, .selects RX3 yX3_item yX3_item, .initialized RX3] [248, 249, 250, 27] (by decide +kernel) (by decide +kernel)) zg_X3_item
set_option maxRecDepth 20000 in
theorem zg_X3_at : GoodIn lw_tbl wsX3_at := (goodIn_ca (goodIn_r _ [281, 181, 36, 138, 74, 76, 282, 283, 27, 284, 178, 179, 180, 252, 254, 2, 255, 137, 84, 285, 286, 287, 28, 288, 69, 65, 71, 67, 145, 147, 149, 151, 153, 155, 157, 159, 161, 163, 165, 167, 169, 171, 91, 93, 95, 97, 99, 101, 103, 105, 107, 109, 111, 113, 115, 117, 119, 121, 123, 125] (by decide +kernel) (by decide +kernel)) (goodIn_sub wsL_law_x2 (by decide +kernel)))
set_option maxRecDepth 20000 in
theorem zgV_X3_at : GoodIn lw_tbl (wsV RL 67 RX3 yX3_at wsX3_at) := goodIn_app (goodIn_r [.methodLink RL 67 yX3_at, .instanceMethod yX3_at, .selects RX3 yX3_at yX3_at, .initialized RX3] [278, 279, 280, 27] (by decide +kernel) (by decide +kernel)) zg_X3_at
set_option maxRecDepth 20000 in
theorem zg_X3_restsOn : GoodIn lw_tbl wsX3_restsOn := (goodIn_ca (goodIn_r _ [292, 181, 36, 252, 254, 2, 27, 255, 138, 137, 84, 293, 295, 5, 296, 86, 297, 298, 299, 28, 300, 87, 89, 85, 145, 147, 149, 151, 153, 155, 157, 159, 161, 163, 165, 167, 169, 171, 91, 93, 95, 97, 99, 101, 103, 105, 107, 109, 111, 113, 115, 117, 119, 121, 123, 125] (by decide +kernel) (by decide +kernel)) (goodIn_sub wsL_law_x2 (by decide +kernel)))
set_option maxRecDepth 20000 in
theorem zgV_X3_restsOn : GoodIn lw_tbl (wsV RL 71 RX3 yX3_restsOn wsX3_restsOn) := goodIn_app (goodIn_r [.methodLink RL 71 yX3_restsOn, .instanceMethod yX3_restsOn, .selects RX3 yX3_restsOn yX3_restsOn, .initialized RX3] [289, 290, 291, 27] (by decide +kernel) (by decide +kernel)) zg_X3_restsOn
set_option maxRecDepth 20000 in
theorem zg_X3_filled : GoodIn lw_tbl wsX3_filled := (goodIn_r _ [481, 138, 76, 74, 252, 254, 2, 27, 255, 137, 84, 409, 410, 411, 28, 412, 65, 67, 466, 468, 23, 469, 145, 147, 149, 151, 153, 155, 157, 159, 161, 163, 165, 167, 169, 171, 91, 93, 95, 97, 99, 101, 103, 105, 107, 109, 111, 113, 115, 117, 119, 121, 123, 125] (by decide +kernel) (by decide +kernel))
set_option maxRecDepth 20000 in
theorem zgV_X3_filled : GoodIn lw_tbl (wsV RL 75 RX3 yX3_filled wsX3_filled) := goodIn_app (goodIn_r [.methodLink RL 75 yX3_filled, .instanceMethod yX3_filled, .selects RX3 yX3_filled yX3_filled, .initialized RX3] [478, 479, 480, 27] (by decide +kernel) (by decide +kernel)) zg_X3_filled
