set_option maxRecDepth 20000 in
theorem inT_X0 : ∀ w ∈ wsX00, w ∈ lw_tbl := fun w h => ((goodIn_r wsX00 [91, 93, 95, 97, 99, 101, 103, 105, 107, 109, 111, 113, 115, 117, 119, 121, 123, 125] (by decide +kernel) (by decide +kernel)) w h).1
set_option maxRecDepth 20000 in
theorem inT_X1 : ∀ w ∈ wsX10, w ∈ lw_tbl := fun w h => ((goodIn_r wsX10 [544, 546, 548, 550, 552, 554, 556, 558] (by decide +kernel) (by decide +kernel)) w h).1
set_option maxRecDepth 20000 in
theorem inT_X2 : ∀ w ∈ wsX20, w ∈ lw_tbl := fun w h => ((goodIn_r wsX20 [350, 352, 354] (by decide +kernel) (by decide +kernel)) w h).1
set_option maxRecDepth 20000 in
theorem inT_X3 : ∀ w ∈ wsX30, w ∈ lw_tbl := fun w h => ((goodIn_r wsX30 [145, 147, 149, 151, 153, 155, 157, 159, 161, 163, 165, 167, 169, 171] (by decide +kernel) (by decide +kernel)) w h).1
set_option maxRecDepth 20000 in
theorem inT_X4 : ∀ w ∈ wsX40, w ∈ lw_tbl := fun w h => ((goodIn_r wsX40 [506, 508, 510, 512] (by decide +kernel) (by decide +kernel)) w h).1
set_option maxRecDepth 20000 in
theorem zg_X3_init : GoodIn lw_tbl wsX3_init := (goodIn_r _ [43, 44, 45, 46, 47, 131, 132, 133, 134, 135, 136, 49, 137, 138, 139, 140, 128, 141, 51, 28, 142, 129, 143, 144, 53, 54, 55, 57, 59, 61, 63, 65, 67, 69, 71, 73, 75, 77, 79, 81, 83, 85, 87, 56, 89, 90, 145, 147, 149, 151, 153, 155, 157, 159, 161, 163, 165, 167, 169, 171, 91, 93, 95, 97, 99, 101, 103, 105, 107, 109, 111, 113, 115, 117, 119, 121, 123, 125] (by decide +kernel) (by decide +kernel))
set_option maxRecDepth 20000 in
theorem zg_L_cell : GoodIn lw_tbl wsL_cell := (goodIn_r _ [488, 489] (by decide +kernel) (by decide +kernel))
set_option maxRecDepth 20000 in
theorem zgS_L_cell : GoodIn lw_tbl (va_wsS RL 12 yL_cell wsL_cell) := goodIn_app (goodIn_r [.methodLink RL 12 yL_cell, .static yL_cell, .initialized RL] [486, 487, 26] (by decide +kernel) (by decide +kernel)) zg_L_cell
set_option maxRecDepth 20000 in
theorem zg_L_below : GoodIn lw_tbl wsL_below := (goodIn_r _ [484, 485] (by decide +kernel) (by decide +kernel))
set_option maxRecDepth 20000 in
theorem zgS_L_below : GoodIn lw_tbl (va_wsS RL 18 yL_below wsL_below) := goodIn_app (goodIn_r [.methodLink RL 18 yL_below, .static yL_below, .initialized RL] [482, 483, 26] (by decide +kernel) (by decide +kernel)) zg_L_below
