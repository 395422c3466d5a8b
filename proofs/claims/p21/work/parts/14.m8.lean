set_option maxRecDepth 20000 in
theorem inT_X0 : ∀ w ∈ wsX00, w ∈ lw_tbl := fun w h => ((goodIn_r wsX00 [128, 130, 132, 134, 136, 138, 140, 142, 144, 146, 148, 150, 152, 154, 156, 158, 160, 162] (by decide +kernel) (by decide +kernel)) w h).1
set_option maxRecDepth 20000 in
theorem inT_X1 : ∀ w ∈ wsX10, w ∈ lw_tbl := fun w h => ((goodIn_r wsX10 [497, 499, 501, 503, 505, 507, 509, 511] (by decide +kernel) (by decide +kernel)) w h).1
set_option maxRecDepth 20000 in
theorem inT_X2 : ∀ w ∈ wsX20, w ∈ lw_tbl := fun w h => ((goodIn_r wsX20 [645, 647, 649] (by decide +kernel) (by decide +kernel)) w h).1
set_option maxRecDepth 20000 in
theorem inT_X3 : ∀ w ∈ wsX30, w ∈ lw_tbl := fun w h => ((goodIn_r wsX30 [182, 184, 186, 188, 190, 192, 194, 196, 198, 200, 202, 204, 206, 208] (by decide +kernel) (by decide +kernel)) w h).1
set_option maxRecDepth 20000 in
theorem inT_X4 : ∀ w ∈ wsX40, w ∈ lw_tbl := fun w h => ((goodIn_r wsX40 [686, 688, 690, 692, 694, 696, 698, 700, 702, 704, 706, 708, 710, 712] (by decide +kernel) (by decide +kernel)) w h).1
set_option maxRecDepth 20000 in
theorem zg_X3_init : GoodIn lw_tbl wsX3_init := goodIn_r _ [80, 81, 82, 83, 84, 168, 169, 170, 171, 172, 173, 86, 174, 175, 176, 177, 165, 178, 88, 64, 179, 166, 180, 181, 90, 91, 92, 94, 96, 98, 100, 102, 104, 106, 108, 110, 112, 114, 116, 118, 120, 122, 124, 93, 126, 127, 182, 184, 186, 188, 190, 192, 194, 196, 198, 200, 202, 204, 206, 208, 128, 130, 132, 134, 136, 138, 140, 142, 144, 146, 148, 150, 152, 154, 156, 158, 160, 162] (by decide +kernel) (by decide +kernel)
set_option maxRecDepth 20000 in
theorem zg_X4_init : GoodIn lw_tbl wsX4_init := goodIn_r _ [670, 671, 82, 83, 165, 674, 675, 676, 677, 680, 681, 683, 684, 686, 688, 690, 692, 694, 696, 698, 700, 702, 704, 706, 708, 710, 712] (by decide +kernel) (by decide +kernel)
set_option maxRecDepth 20000 in
theorem zg_L_addKind : GoodIn lw_tbl wsL_addKind := (goodIn_ca (goodIn_ca (goodIn_r _ [388, 389, 390, 391, 392, 393, 63, 394, 395, 69, 458, 70, 169, 168, 84, 473, 71, 219, 220, 221, 474, 475, 476, 477, 82, 83, 478, 481, 484, 487, 489, 491, 493, 495, 182, 184, 186, 188, 190, 192, 194, 196, 198, 200, 202, 204, 206, 208, 497, 499, 501, 503, 505, 507, 509, 511] (by decide +kernel) (by decide +kernel)) (goodIn_sub wsL_law_x0 (by decide +kernel))) (goodIn_sub wsL_law_x1 (by decide +kernel)))
set_option maxRecDepth 20000 in
theorem zg_L_setRules : GoodIn lw_tbl wsL_setRules := (goodIn_ca (goodIn_r _ [516, 389, 517, 518, 519, 63, 520, 395, 69, 170, 171, 172, 173, 219, 220, 221, 182, 184, 186, 188, 190, 192, 194, 196, 198, 200, 202, 204, 206, 208] (by decide +kernel) (by decide +kernel)) (goodIn_sub wsL_law_x0 (by decide +kernel)))
set_option maxRecDepth 20000 in
theorem zg_L_addLine : GoodIn lw_tbl wsL_addLine := (goodIn_ca (goodIn_ca (goodIn_ca (goodIn_r _ [629, 524, 389, 390, 630, 631, 632, 63, 633, 529, 73, 395, 69, 458, 70, 181, 180, 166, 634, 75, 551, 553, 26, 554, 169, 168, 219, 220, 221, 635, 636, 637, 638, 82, 83, 643, 639, 641, 182, 184, 186, 188, 190, 192, 194, 196, 198, 200, 202, 204, 206, 208, 645, 647, 649] (by decide +kernel) (by decide +kernel)) (goodIn_sub wsL_law_x2 (by decide +kernel))) (goodIn_sub wsL_law_x0 (by decide +kernel))) (goodIn_sub wsL_law_x1 (by decide +kernel)))
set_option maxRecDepth 20000 in
theorem zg_X4_addKind : GoodIn lw_tbl wsX4_addKind := goodIn_r _ [718, 672, 673, 165, 674, 726, 728, 727, 72, 719, 720, 65, 721, 722, 724, 29, 725, 686, 688, 690, 692, 694, 696, 698, 700, 702, 704, 706, 708, 710, 712] (by decide +kernel) (by decide +kernel)
set_option maxRecDepth 20000 in
theorem zg_X4_setRules : GoodIn lw_tbl wsX4_setRules := goodIn_r _ [732, 672, 675, 676, 677, 678, 719, 720, 65, 721, 722, 724, 29, 725, 686, 688, 690, 692, 694, 696, 698, 700, 702, 704, 706, 708, 710, 712] (by decide +kernel) (by decide +kernel)
set_option maxRecDepth 20000 in
theorem zg_X4_addLine : GoodIn lw_tbl wsX4_addLine := goodIn_r _ [911, 672, 682, 683, 684, 753, 755, 33, 65, 756, 673, 719, 720, 721, 722, 724, 29, 725, 686, 688, 690, 692, 694, 696, 698, 700, 702, 704, 706, 708, 710, 712] (by decide +kernel) (by decide +kernel)
set_option maxRecDepth 20000 in
theorem zg_X3_stack : GoodIn lw_tbl wsX3_stack := goodIn_r _ [214, 181, 644, 640, 642, 215, 217, 0, 63, 218, 180, 219, 220, 221, 222, 224, 1, 225, 226, 227, 228, 71, 229, 495, 491, 489, 230, 232, 2, 233, 175, 234, 236, 3, 237, 179, 111, 115, 238, 239, 240, 241, 242, 243, 244, 245, 246, 247, 248, 249, 494, 486, 483, 250, 252, 4, 253, 107, 109, 105, 103, 488, 113, 254, 255, 256, 64, 257, 479, 94, 490, 96, 492, 98, 100, 485, 482, 102, 104, 258, 260, 5, 261, 178, 262, 264, 6, 265, 170, 496, 171, 173, 177, 97, 172, 266, 267, 268, 269, 270, 272, 7, 273, 274, 276, 8, 277, 278, 280, 9, 281, 125, 282, 284, 10, 285, 174, 121, 286, 287, 288, 289, 106, 290, 291, 74, 292, 293, 294, 295, 108, 296, 297, 298, 299, 124, 126, 127, 300, 302, 11, 303, 119, 99, 304, 306, 12, 307, 308, 309, 310, 311, 114, 118, 312, 314, 13, 315, 176, 316, 318, 14, 319, 320, 321, 322, 323, 325, 15, 326, 117, 182, 184, 186, 188, 190, 192, 194, 196, 198, 200, 202, 204, 206, 208, 645, 647, 649, 497, 499, 501, 503, 505, 507, 509, 511, 128, 130, 132, 134, 136, 138, 140, 142, 144, 146, 148, 150, 152, 154, 156, 158, 160, 162] (by decide +kernel) (by decide +kernel)
set_option maxRecDepth 20000 in
theorem zg_X4_stack : GoodIn lw_tbl wsX4_stack := goodIn_r _ [915, 672, 891, 682, 684, 683, 916, 918, 60, 65, 919, 761, 763, 35, 764, 674, 797, 798, 799, 904, 906, 59, 907, 679, 896, 898, 58, 899, 685, 757, 759, 34, 760, 675, 680, 676, 678, 677, 765, 766, 767, 719, 720, 721, 768, 770, 36, 771, 165, 726, 728, 727, 72, 788, 294, 74, 295, 745, 747, 32, 748, 772, 774, 37, 775, 776, 778, 38, 779, 780, 782, 39, 783, 784, 785, 786, 787, 291, 292, 789, 791, 40, 792, 793, 795, 41, 796, 800, 802, 42, 803, 804, 806, 43, 807, 808, 810, 44, 811, 812, 814, 45, 815, 816, 818, 46, 819, 820, 822, 47, 823, 824, 826, 48, 827, 681, 828, 830, 49, 831, 832, 834, 50, 835, 836, 838, 51, 839, 844, 846, 52, 847, 686, 688, 690, 692, 694, 696, 698, 700, 702, 704, 706, 708, 710, 712] (by decide +kernel) (by decide +kernel)
set_option maxRecDepth 20000 in
theorem zgS_L_addKind : GoodIn lw_tbl (va_wsS RL 71 yL_addKind wsL_addKind) := goodIn_app (goodIn_r [.methodLink RL 71 yL_addKind, .static yL_addKind, .initialized RL] [386, 387, 62] (by decide +kernel) (by decide +kernel)) zg_L_addKind
set_option maxRecDepth 20000 in
theorem zgS_L_setRules : GoodIn lw_tbl (va_wsS RL 77 yL_setRules wsL_setRules) := goodIn_app (goodIn_r [.methodLink RL 77 yL_setRules, .static yL_setRules, .initialized RL] [514, 515, 62] (by decide +kernel) (by decide +kernel)) zg_L_setRules
set_option maxRecDepth 20000 in
theorem zgS_L_addLine : GoodIn lw_tbl (va_wsS RL 114 yL_addLine wsL_addLine) := goodIn_app (goodIn_r [.methodLink RL 114 yL_addLine, .static yL_addLine, .initialized RL] [627, 628, 62] (by decide +kernel) (by decide +kernel)) zg_L_addLine
set_option maxRecDepth 20000 in
theorem zgV_X4_addKind : GoodIn lw_tbl (wsV RL 76 RX4 yX4_addKind wsX4_addKind) := goodIn_app (goodIn_r [.methodLink RL 76 yX4_addKind, .instanceMethod yX4_addKind, .selects RX4 yX4_addKind yX4_addKind, .initialized RX4] [715, 716, 717, 65] (by decide +kernel) (by decide +kernel)) zg_X4_addKind
set_option maxRecDepth 20000 in
theorem zgV_X4_setRules : GoodIn lw_tbl (wsV RL 80 RX4 yX4_setRules wsX4_setRules) := goodIn_app (goodIn_r [.methodLink RL 80 yX4_setRules, .instanceMethod yX4_setRules, .selects RX4 yX4_setRules yX4_setRules, .initialized RX4] [729, 730, 731, 65] (by decide +kernel) (by decide +kernel)) zg_X4_setRules
set_option maxRecDepth 20000 in
theorem zgV_X4_addLine : GoodIn lw_tbl (wsV RL 116 RX4 yX4_addLine wsX4_addLine) := goodIn_app (goodIn_r [.methodLink RL 116 yX4_addLine, .instanceMethod yX4_addLine, .selects RX4 yX4_addLine yX4_addLine, .initialized RX4] [908, 909, 910, 65] (by decide +kernel) (by decide +kernel)) zg_X4_addLine
set_option maxRecDepth 20000 in
theorem zgV_X3_stack : GoodIn lw_tbl (wsV RL 117 RX3 yX3_stack wsX3_stack) := goodIn_app (goodIn_r [.methodLink RL 117 yX3_stack, .instanceMethod yX3_stack, .selects RX3 yX3_stack yX3_stack, .initialized RX3] [211, 212, 213, 63] (by decide +kernel) (by decide +kernel)) zg_X3_stack
set_option maxRecDepth 20000 in
theorem zgV_X4_stack : GoodIn lw_tbl (wsV RL 121 RX4 yX4_stack wsX4_stack) := goodIn_app (goodIn_r [.methodLink RL 121 yX4_stack, .instanceMethod yX4_stack, .selects RX4 yX4_stack yX4_stack, .initialized RX4] [912, 913, 914, 65] (by decide +kernel) (by decide +kernel)) zg_X4_stack
