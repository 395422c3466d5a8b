theorem dX4_init_0 : decode cX4_init 0 = .ok (.aload_n 0, 1) := by decide +kernel
theorem dX4_init_1 : decode cX4_init 1 = .ok (.invokespecial 1, 3) := by decide +kernel
theorem dX4_init_4 : decode cX4_init 4 = .ok (.aload_n 0, 1) := by decide +kernel
theorem dX4_init_5 : decode cX4_init 5 = .ok (.bipush 60, 2) := by decide +kernel
theorem dX4_init_7 : decode cX4_init 7 = .ok (.newarray .int, 2) := by decide +kernel
theorem dX4_init_9 : decode cX4_init 9 = .ok (.putfield 9, 3) := by decide +kernel
theorem dX4_init_12 : decode cX4_init 12 = .ok (.aload_n 0, 1) := by decide +kernel
theorem dX4_init_13 : decode cX4_init 13 = .ok (.bipush 20, 2) := by decide +kernel
theorem dX4_init_15 : decode cX4_init 15 = .ok (.putfield 13, 3) := by decide +kernel
theorem dX4_init_18 : decode cX4_init 18 = .ok (.aload_n 0, 1) := by decide +kernel
theorem dX4_init_19 : decode cX4_init 19 = .ok (.bipush 60, 2) := by decide +kernel
theorem dX4_init_21 : decode cX4_init 21 = .ok (.putfield 17, 3) := by decide +kernel
theorem dX4_init_24 : decode cX4_init 24 = .ok (.aload_n 0, 1) := by decide +kernel
theorem dX4_init_25 : decode cX4_init 25 = .ok (.sipush 2000, 3) := by decide +kernel
theorem dX4_init_28 : decode cX4_init 28 = .ok (.putfield 20, 3) := by decide +kernel
theorem dX4_init_31 : decode cX4_init 31 = .ok (.aload_n 0, 1) := by decide +kernel
theorem dX4_init_32 : decode cX4_init 32 = .ok (.sipush 366, 3) := by decide +kernel
theorem dX4_init_35 : decode cX4_init 35 = .ok (.newarray .int, 2) := by decide +kernel
theorem dX4_init_37 : decode cX4_init 37 = .ok (.putfield 23, 3) := by decide +kernel
theorem dX4_init_40 : decode cX4_init 40 = .ok (.aload_n 0, 1) := by decide +kernel
theorem dX4_init_41 : decode cX4_init 41 = .ok (.bipush 61, 2) := by decide +kernel
theorem dX4_init_43 : decode cX4_init 43 = .ok (.newarray .int, 2) := by decide +kernel
theorem dX4_init_45 : decode cX4_init 45 = .ok (.putfield 26, 3) := by decide +kernel
theorem dX4_init_48 : decode cX4_init 48 = .ok (.aload_n 0, 1) := by decide +kernel
theorem dX4_init_49 : decode cX4_init 49 = .ok (.bipush 20, 2) := by decide +kernel
theorem dX4_init_51 : decode cX4_init 51 = .ok (.newarray .int, 2) := by decide +kernel
theorem dX4_init_53 : decode cX4_init 53 = .ok (.putfield 29, 3) := by decide +kernel
theorem dX4_init_56 : decode cX4_init 56 = .ok (.aload_n 0, 1) := by decide +kernel
theorem dX4_init_57 : decode cX4_init 57 = .ok (.bipush 20, 2) := by decide +kernel
theorem dX4_init_59 : decode cX4_init 59 = .ok (.newarray .int, 2) := by decide +kernel
theorem dX4_init_61 : decode cX4_init 61 = .ok (.putfield 32, 3) := by decide +kernel
theorem dX4_init_64 : decode cX4_init 64 = .ok (.return_, 1) := by decide +kernel
theorem dX4_thrown_0 : decode cX4_thrown 0 = .ok (.aload_n 0, 1) := by decide +kernel
theorem dX4_thrown_1 : decode cX4_thrown 1 = .ok (.getfield 35, 3) := by decide +kernel
theorem dX4_thrown_4 : decode cX4_thrown 4 = .ok (.ireturn, 1) := by decide +kernel
theorem dX4_fail_0 : decode cX4_fail 0 = .ok (.aload_n 0, 1) := by decide +kernel
theorem dX4_fail_1 : decode cX4_fail 1 = .ok (.iload_n 1, 1) := by decide +kernel
theorem dX4_fail_2 : decode cX4_fail 2 = .ok (.putfield 35, 3) := by decide +kernel
theorem dX4_fail_5 : decode cX4_fail 5 = .ok (.iconst 0, 1) := by decide +kernel
theorem dX4_fail_6 : decode cX4_fail 6 = .ok (.ireturn, 1) := by decide +kernel
theorem dX4_isIn_0 : decode cX4_isIn 0 = .ok (.iload_n 0, 1) := by decide +kernel
theorem dX4_isIn_1 : decode cX4_isIn 1 = .ok (.iload_n 1, 1) := by decide +kernel
theorem dX4_isIn_2 : decode cX4_isIn 2 = .ok (.if_icmp .lt 12, 3) := by decide +kernel
theorem dX4_isIn_5 : decode cX4_isIn 5 = .ok (.iload_n 0, 1) := by decide +kernel
theorem dX4_isIn_6 : decode cX4_isIn 6 = .ok (.iload_n 2, 1) := by decide +kernel
theorem dX4_isIn_7 : decode cX4_isIn 7 = .ok (.if_icmp .gt 7, 3) := by decide +kernel
theorem dX4_isIn_10 : decode cX4_isIn 10 = .ok (.iconst 1, 1) := by decide +kernel
theorem dX4_isIn_11 : decode cX4_isIn 11 = .ok (.goto 4, 3) := by decide +kernel
theorem dX4_isIn_14 : decode cX4_isIn 14 = .ok (.iconst 0, 1) := by decide +kernel
theorem dX4_isIn_15 : decode cX4_isIn 15 = .ok (.ireturn, 1) := by decide +kernel
set_option maxRecDepth 20000 in
theorem ggX4_isKind_X4_isIn : GoodIn wsX4_isKind wsX4_isIn := goodIn_r _ [5] (by decide +kernel) (by decide +kernel)
set_option maxRecDepth 20000 in
theorem gX4_isKind_X4_isIn : GoodIn wsX4_isKind (va_wsS RX4 41 yX4_isIn wsX4_isIn) := goodIn_app (goodIn_of _ (by decide +kernel)) ggX4_isKind_X4_isIn
theorem dX4_isKind_0 : decode cX4_isKind 0 = .ok (.iload_n 1, 1) := by decide +kernel
theorem dX4_isKind_1 : decode cX4_isKind 1 = .ok (.iconst 0, 1) := by decide +kernel
theorem dX4_isKind_2 : decode cX4_isKind 2 = .ok (.aload_n 0, 1) := by decide +kernel
theorem dX4_isKind_3 : decode cX4_isKind 3 = .ok (.getfield 38, 3) := by decide +kernel
theorem dX4_isKind_6 : decode cX4_isKind 6 = .ok (.iconst 1, 1) := by decide +kernel
theorem dX4_isKind_7 : decode cX4_isKind 7 = .ok (.isub, 1) := by decide +kernel
theorem dX4_isKind_8 : decode cX4_isKind 8 = .ok (.invokestatic 41, 3) := by decide +kernel
theorem dX4_isKind_11 : decode cX4_isKind 11 = .ok (.ireturn, 1) := by decide +kernel
set_option maxRecDepth 20000 in
theorem ggX4_addKind_X4_isIn : GoodIn wsX4_addKind wsX4_isIn := goodIn_r _ [12] (by decide +kernel) (by decide +kernel)
set_option maxRecDepth 20000 in
theorem gX4_addKind_X4_isIn : GoodIn wsX4_addKind (va_wsS RX4 41 yX4_isIn wsX4_isIn) := goodIn_app (goodIn_of _ (by decide +kernel)) ggX4_addKind_X4_isIn
set_option maxRecDepth 20000 in
theorem ggX4_addKind_X4_fail : GoodIn wsX4_addKind wsX4_fail := goodIn_r _ [16, 1, 17, 18, 19, 20, 21, 22, 23, 24, 25, 26, 27, 28, 29, 30] (by decide +kernel) (by decide +kernel)
set_option maxRecDepth 20000 in
theorem gX4_addKind_X4_fail : GoodIn wsX4_addKind (wsV RX4 45 RX4 yX4_fail wsX4_fail) := goodIn_app (goodIn_of _ (by decide +kernel)) ggX4_addKind_X4_fail
theorem dX4_addKind_0 : decode cX4_addKind 0 = .ok (.aload_n 0, 1) := by decide +kernel
theorem dX4_addKind_1 : decode cX4_addKind 1 = .ok (.iconst 0, 1) := by decide +kernel
theorem dX4_addKind_2 : decode cX4_addKind 2 = .ok (.putfield 35, 3) := by decide +kernel
theorem dX4_addKind_5 : decode cX4_addKind 5 = .ok (.iload_n 1, 1) := by decide +kernel
theorem dX4_addKind_6 : decode cX4_addKind 6 = .ok (.iconst 1, 1) := by decide +kernel
theorem dX4_addKind_7 : decode cX4_addKind 7 = .ok (.bipush 6, 2) := by decide +kernel
theorem dX4_addKind_9 : decode cX4_addKind 9 = .ok (.invokestatic 41, 3) := by decide +kernel
theorem dX4_addKind_12 : decode cX4_addKind 12 = .ok (.ifCond .eq 57, 3) := by decide +kernel
theorem dX4_addKind_15 : decode cX4_addKind 15 = .ok (.iload_n 2, 1) := by decide +kernel
theorem dX4_addKind_16 : decode cX4_addKind 16 = .ok (.iconst 1, 1) := by decide +kernel
theorem dX4_addKind_17 : decode cX4_addKind 17 = .ok (.bipush 6, 2) := by decide +kernel
theorem dX4_addKind_19 : decode cX4_addKind 19 = .ok (.invokestatic 41, 3) := by decide +kernel
theorem dX4_addKind_22 : decode cX4_addKind 22 = .ok (.ifCond .eq 47, 3) := by decide +kernel
theorem dX4_addKind_25 : decode cX4_addKind 25 = .ok (.iload_n 3, 1) := by decide +kernel
theorem dX4_addKind_26 : decode cX4_addKind 26 = .ok (.iconst 1, 1) := by decide +kernel
theorem dX4_addKind_27 : decode cX4_addKind 27 = .ok (.bipush 8, 2) := by decide +kernel
theorem dX4_addKind_29 : decode cX4_addKind 29 = .ok (.invokestatic 41, 3) := by decide +kernel
theorem dX4_addKind_32 : decode cX4_addKind 32 = .ok (.ifCond .eq 37, 3) := by decide +kernel
theorem dX4_addKind_35 : decode cX4_addKind 35 = .ok (.iload 4, 2) := by decide +kernel
theorem dX4_addKind_37 : decode cX4_addKind 37 = .ok (.iconst 1, 1) := by decide +kernel
theorem dX4_addKind_38 : decode cX4_addKind 38 = .ok (.sipush 500, 3) := by decide +kernel
theorem dX4_addKind_41 : decode cX4_addKind 41 = .ok (.invokestatic 41, 3) := by decide +kernel
theorem dX4_addKind_44 : decode cX4_addKind 44 = .ok (.ifCond .eq 25, 3) := by decide +kernel
theorem dX4_addKind_47 : decode cX4_addKind 47 = .ok (.iload 5, 2) := by decide +kernel
theorem dX4_addKind_49 : decode cX4_addKind 49 = .ok (.iconst 0, 1) := by decide +kernel
theorem dX4_addKind_50 : decode cX4_addKind 50 = .ok (.sipush 5000, 3) := by decide +kernel
theorem dX4_addKind_53 : decode cX4_addKind 53 = .ok (.invokestatic 41, 3) := by decide +kernel
theorem dX4_addKind_56 : decode cX4_addKind 56 = .ok (.ifCond .eq 13, 3) := by decide +kernel
theorem dX4_addKind_59 : decode cX4_addKind 59 = .ok (.iload 6, 2) := by decide +kernel
theorem dX4_addKind_61 : decode cX4_addKind 61 = .ok (.iconst 0, 1) := by decide +kernel
theorem dX4_addKind_62 : decode cX4_addKind 62 = .ok (.iconst 3, 1) := by decide +kernel
theorem dX4_addKind_63 : decode cX4_addKind 63 = .ok (.invokestatic 41, 3) := by decide +kernel
theorem dX4_addKind_66 : decode cX4_addKind 66 = .ok (.ifCond .ne 9, 3) := by decide +kernel
theorem dX4_addKind_69 : decode cX4_addKind 69 = .ok (.aload_n 0, 1) := by decide +kernel
theorem dX4_addKind_70 : decode cX4_addKind 70 = .ok (.iconst 1, 1) := by decide +kernel
theorem dX4_addKind_71 : decode cX4_addKind 71 = .ok (.invokevirtual 45, 3) := by decide +kernel
theorem dX4_addKind_74 : decode cX4_addKind 74 = .ok (.ireturn, 1) := by decide +kernel
theorem dX4_addKind_75 : decode cX4_addKind 75 = .ok (.aload_n 0, 1) := by decide +kernel
theorem dX4_addKind_76 : decode cX4_addKind 76 = .ok (.getfield 38, 3) := by decide +kernel
theorem dX4_addKind_79 : decode cX4_addKind 79 = .ok (.bipush 10, 2) := by decide +kernel
theorem dX4_addKind_81 : decode cX4_addKind 81 = .ok (.if_icmp .ne 9, 3) := by decide +kernel
theorem dX4_addKind_84 : decode cX4_addKind 84 = .ok (.aload_n 0, 1) := by decide +kernel
theorem dX4_addKind_85 : decode cX4_addKind 85 = .ok (.iconst 2, 1) := by decide +kernel
theorem dX4_addKind_86 : decode cX4_addKind 86 = .ok (.invokevirtual 45, 3) := by decide +kernel
theorem dX4_addKind_89 : decode cX4_addKind 89 = .ok (.ireturn, 1) := by decide +kernel
theorem dX4_addKind_90 : decode cX4_addKind 90 = .ok (.bipush 6, 2) := by decide +kernel
theorem dX4_addKind_92 : decode cX4_addKind 92 = .ok (.newarray .int, 2) := by decide +kernel
theorem dX4_addKind_94 : decode cX4_addKind 94 = .ok (.dup, 1) := by decide +kernel
theorem dX4_addKind_95 : decode cX4_addKind 95 = .ok (.iconst 0, 1) := by decide +kernel
theorem dX4_addKind_96 : decode cX4_addKind 96 = .ok (.iload_n 1, 1) := by decide +kernel
theorem dX4_addKind_97 : decode cX4_addKind 97 = .ok (.iastore, 1) := by decide +kernel
theorem dX4_addKind_98 : decode cX4_addKind 98 = .ok (.dup, 1) := by decide +kernel
theorem dX4_addKind_99 : decode cX4_addKind 99 = .ok (.iconst 1, 1) := by decide +kernel
theorem dX4_addKind_100 : decode cX4_addKind 100 = .ok (.iload_n 2, 1) := by decide +kernel
theorem dX4_addKind_101 : decode cX4_addKind 101 = .ok (.iastore, 1) := by decide +kernel
theorem dX4_addKind_102 : decode cX4_addKind 102 = .ok (.dup, 1) := by decide +kernel
theorem dX4_addKind_103 : decode cX4_addKind 103 = .ok (.iconst 2, 1) := by decide +kernel
theorem dX4_addKind_104 : decode cX4_addKind 104 = .ok (.iload_n 3, 1) := by decide +kernel
theorem dX4_addKind_105 : decode cX4_addKind 105 = .ok (.iastore, 1) := by decide +kernel
theorem dX4_addKind_106 : decode cX4_addKind 106 = .ok (.dup, 1) := by decide +kernel
theorem dX4_addKind_107 : decode cX4_addKind 107 = .ok (.iconst 3, 1) := by decide +kernel
theorem dX4_addKind_108 : decode cX4_addKind 108 = .ok (.iload 4, 2) := by decide +kernel
theorem dX4_addKind_110 : decode cX4_addKind 110 = .ok (.iastore, 1) := by decide +kernel
theorem dX4_addKind_111 : decode cX4_addKind 111 = .ok (.dup, 1) := by decide +kernel
theorem dX4_addKind_112 : decode cX4_addKind 112 = .ok (.iconst 4, 1) := by decide +kernel
theorem dX4_addKind_113 : decode cX4_addKind 113 = .ok (.iload 5, 2) := by decide +kernel
theorem dX4_addKind_115 : decode cX4_addKind 115 = .ok (.iastore, 1) := by decide +kernel
theorem dX4_addKind_116 : decode cX4_addKind 116 = .ok (.dup, 1) := by decide +kernel
theorem dX4_addKind_117 : decode cX4_addKind 117 = .ok (.iconst 5, 1) := by decide +kernel
theorem dX4_addKind_118 : decode cX4_addKind 118 = .ok (.iload 6, 2) := by decide +kernel
theorem dX4_addKind_120 : decode cX4_addKind 120 = .ok (.iastore, 1) := by decide +kernel
theorem dX4_addKind_121 : decode cX4_addKind 121 = .ok (.astore 7, 2) := by decide +kernel
theorem dX4_addKind_123 : decode cX4_addKind 123 = .ok (.aload 7, 2) := by decide +kernel
theorem dX4_addKind_125 : decode cX4_addKind 125 = .ok (.iconst 0, 1) := by decide +kernel
theorem dX4_addKind_126 : decode cX4_addKind 126 = .ok (.aload_n 0, 1) := by decide +kernel
theorem dX4_addKind_127 : decode cX4_addKind 127 = .ok (.getfield 9, 3) := by decide +kernel
theorem dX4_addKind_130 : decode cX4_addKind 130 = .ok (.bipush 6, 2) := by decide +kernel
theorem dX4_addKind_132 : decode cX4_addKind 132 = .ok (.aload_n 0, 1) := by decide +kernel
theorem dX4_addKind_133 : decode cX4_addKind 133 = .ok (.getfield 38, 3) := by decide +kernel
theorem dX4_addKind_136 : decode cX4_addKind 136 = .ok (.imul, 1) := by decide +kernel
theorem dX4_addKind_137 : decode cX4_addKind 137 = .ok (.bipush 6, 2) := by decide +kernel
theorem dX4_addKind_139 : decode cX4_addKind 139 = .ok (.invokestatic 49, 3) := by decide +kernel
theorem dX4_addKind_142 : decode cX4_addKind 142 = .ok (.aload_n 0, 1) := by decide +kernel
theorem dX4_addKind_143 : decode cX4_addKind 143 = .ok (.dup, 1) := by decide +kernel
theorem dX4_addKind_144 : decode cX4_addKind 144 = .ok (.getfield 38, 3) := by decide +kernel
theorem dX4_addKind_147 : decode cX4_addKind 147 = .ok (.iconst 1, 1) := by decide +kernel
theorem dX4_addKind_148 : decode cX4_addKind 148 = .ok (.iadd, 1) := by decide +kernel
theorem dX4_addKind_149 : decode cX4_addKind 149 = .ok (.putfield 38, 3) := by decide +kernel
theorem dX4_addKind_152 : decode cX4_addKind 152 = .ok (.aload_n 0, 1) := by decide +kernel
theorem dX4_addKind_153 : decode cX4_addKind 153 = .ok (.getfield 38, 3) := by decide +kernel
theorem dX4_addKind_156 : decode cX4_addKind 156 = .ok (.iconst 1, 1) := by decide +kernel
theorem dX4_addKind_157 : decode cX4_addKind 157 = .ok (.isub, 1) := by decide +kernel
theorem dX4_addKind_158 : decode cX4_addKind 158 = .ok (.ireturn, 1) := by decide +kernel
set_option maxRecDepth 20000 in
theorem ggX4_setRules_X4_isIn : GoodIn wsX4_setRules wsX4_isIn := goodIn_r _ [9] (by decide +kernel) (by decide +kernel)
set_option maxRecDepth 20000 in
theorem gX4_setRules_X4_isIn : GoodIn wsX4_setRules (va_wsS RX4 41 yX4_isIn wsX4_isIn) := goodIn_app (goodIn_of _ (by decide +kernel)) ggX4_setRules_X4_isIn
set_option maxRecDepth 20000 in
theorem ggX4_setRules_X4_fail : GoodIn wsX4_setRules wsX4_fail := goodIn_r _ [13, 1, 14, 15, 16, 17, 18, 19, 20, 21, 22, 23, 24, 25, 26, 27] (by decide +kernel) (by decide +kernel)
set_option maxRecDepth 20000 in
theorem gX4_setRules_X4_fail : GoodIn wsX4_setRules (wsV RX4 45 RX4 yX4_fail wsX4_fail) := goodIn_app (goodIn_of _ (by decide +kernel)) ggX4_setRules_X4_fail
theorem dX4_setRules_0 : decode cX4_setRules 0 = .ok (.aload_n 0, 1) := by decide +kernel
theorem dX4_setRules_1 : decode cX4_setRules 1 = .ok (.iconst 0, 1) := by decide +kernel
theorem dX4_setRules_2 : decode cX4_setRules 2 = .ok (.putfield 35, 3) := by decide +kernel
theorem dX4_setRules_5 : decode cX4_setRules 5 = .ok (.iload_n 1, 1) := by decide +kernel
theorem dX4_setRules_6 : decode cX4_setRules 6 = .ok (.iconst 1, 1) := by decide +kernel
theorem dX4_setRules_7 : decode cX4_setRules 7 = .ok (.bipush 40, 2) := by decide +kernel
theorem dX4_setRules_9 : decode cX4_setRules 9 = .ok (.invokestatic 41, 3) := by decide +kernel
theorem dX4_setRules_12 : decode cX4_setRules 12 = .ok (.ifCond .eq 24, 3) := by decide +kernel
theorem dX4_setRules_15 : decode cX4_setRules 15 = .ok (.iload_n 2, 1) := by decide +kernel
theorem dX4_setRules_16 : decode cX4_setRules 16 = .ok (.iconst 0, 1) := by decide +kernel
theorem dX4_setRules_17 : decode cX4_setRules 17 = .ok (.bipush 100, 2) := by decide +kernel
theorem dX4_setRules_19 : decode cX4_setRules 19 = .ok (.invokestatic 41, 3) := by decide +kernel
theorem dX4_setRules_22 : decode cX4_setRules 22 = .ok (.ifCond .eq 14, 3) := by decide +kernel
theorem dX4_setRules_25 : decode cX4_setRules 25 = .ok (.iload_n 3, 1) := by decide +kernel
theorem dX4_setRules_26 : decode cX4_setRules 26 = .ok (.iconst 1, 1) := by decide +kernel
theorem dX4_setRules_27 : decode cX4_setRules 27 = .ok (.sipush 20000, 3) := by decide +kernel
theorem dX4_setRules_30 : decode cX4_setRules 30 = .ok (.invokestatic 41, 3) := by decide +kernel
theorem dX4_setRules_33 : decode cX4_setRules 33 = .ok (.ifCond .ne 9, 3) := by decide +kernel
theorem dX4_setRules_36 : decode cX4_setRules 36 = .ok (.aload_n 0, 1) := by decide +kernel
theorem dX4_setRules_37 : decode cX4_setRules 37 = .ok (.iconst 1, 1) := by decide +kernel
theorem dX4_setRules_38 : decode cX4_setRules 38 = .ok (.invokevirtual 45, 3) := by decide +kernel
theorem dX4_setRules_41 : decode cX4_setRules 41 = .ok (.ireturn, 1) := by decide +kernel
theorem dX4_setRules_42 : decode cX4_setRules 42 = .ok (.aload_n 0, 1) := by decide +kernel
theorem dX4_setRules_43 : decode cX4_setRules 43 = .ok (.getfield 13, 3) := by decide +kernel
theorem dX4_setRules_46 : decode cX4_setRules 46 = .ok (.istore 5, 2) := by decide +kernel
theorem dX4_setRules_48 : decode cX4_setRules 48 = .ok (.aload_n 0, 1) := by decide +kernel
theorem dX4_setRules_49 : decode cX4_setRules 49 = .ok (.iload_n 1, 1) := by decide +kernel
theorem dX4_setRules_50 : decode cX4_setRules 50 = .ok (.putfield 13, 3) := by decide +kernel
theorem dX4_setRules_53 : decode cX4_setRules 53 = .ok (.aload_n 0, 1) := by decide +kernel
theorem dX4_setRules_54 : decode cX4_setRules 54 = .ok (.iload_n 2, 1) := by decide +kernel
theorem dX4_setRules_55 : decode cX4_setRules 55 = .ok (.putfield 17, 3) := by decide +kernel
theorem dX4_setRules_58 : decode cX4_setRules 58 = .ok (.aload_n 0, 1) := by decide +kernel
theorem dX4_setRules_59 : decode cX4_setRules 59 = .ok (.iload_n 3, 1) := by decide +kernel
theorem dX4_setRules_60 : decode cX4_setRules 60 = .ok (.putfield 20, 3) := by decide +kernel
theorem dX4_setRules_63 : decode cX4_setRules 63 = .ok (.aload_n 0, 1) := by decide +kernel
theorem dX4_setRules_64 : decode cX4_setRules 64 = .ok (.iload 4, 2) := by decide +kernel
theorem dX4_setRules_66 : decode cX4_setRules 66 = .ok (.putfield 55, 3) := by decide +kernel
theorem dX4_setRules_69 : decode cX4_setRules 69 = .ok (.iload 5, 2) := by decide +kernel
theorem dX4_setRules_71 : decode cX4_setRules 71 = .ok (.ireturn, 1) := by decide +kernel
set_option maxRecDepth 20000 in
theorem ggX4_present_X4_isHere : GoodIn wsX4_present wsX4_isHere := goodIn_r _ [6, 7, 8, 9, 10, 11, 12, 13, 14, 15, 16, 17, 18, 19, 20, 21] (by decide +kernel) (by decide +kernel)
set_option maxRecDepth 20000 in
theorem gX4_present_X4_isHere : GoodIn wsX4_present (wsV RX4 62 RX4 yX4_isHere wsX4_isHere) := goodIn_app (goodIn_of _ (by decide +kernel)) ggX4_present_X4_isHere
theorem dX4_present_0 : decode cX4_present 0 = .ok (.iconst 0, 1) := by decide +kernel
theorem dX4_present_1 : decode cX4_present 1 = .ok (.istore_n 1, 1) := by decide +kernel
theorem dX4_present_2 : decode cX4_present 2 = .ok (.iconst 0, 1) := by decide +kernel
theorem dX4_present_3 : decode cX4_present 3 = .ok (.istore_n 2, 1) := by decide +kernel
theorem dX4_present_4 : decode cX4_present 4 = .ok (.iload_n 2, 1) := by decide +kernel
theorem dX4_present_5 : decode cX4_present 5 = .ok (.aload_n 0, 1) := by decide +kernel
theorem dX4_present_6 : decode cX4_present 6 = .ok (.getfield 59, 3) := by decide +kernel
theorem dX4_present_9 : decode cX4_present 9 = .ok (.if_icmp .ge 25, 3) := by decide +kernel
theorem dX4_present_12 : decode cX4_present 12 = .ok (.iload_n 1, 1) := by decide +kernel
theorem dX4_present_13 : decode cX4_present 13 = .ok (.aload_n 0, 1) := by decide +kernel
theorem dX4_present_14 : decode cX4_present 14 = .ok (.iload_n 2, 1) := by decide +kernel
theorem dX4_present_15 : decode cX4_present 15 = .ok (.invokevirtual 62, 3) := by decide +kernel
theorem dX4_present_18 : decode cX4_present 18 = .ok (.ifCond .eq 7, 3) := by decide +kernel
theorem dX4_present_21 : decode cX4_present 21 = .ok (.iconst 1, 1) := by decide +kernel
theorem dX4_present_22 : decode cX4_present 22 = .ok (.goto 4, 3) := by decide +kernel
theorem dX4_present_25 : decode cX4_present 25 = .ok (.iconst 0, 1) := by decide +kernel
theorem dX4_present_26 : decode cX4_present 26 = .ok (.iadd, 1) := by decide +kernel
theorem dX4_present_27 : decode cX4_present 27 = .ok (.istore_n 1, 1) := by decide +kernel
theorem dX4_present_28 : decode cX4_present 28 = .ok (.iinc 2 1, 3) := by decide +kernel
theorem dX4_present_31 : decode cX4_present 31 = .ok (.goto (-27), 3) := by decide +kernel
theorem dX4_present_34 : decode cX4_present 34 = .ok (.iload_n 1, 1) := by decide +kernel
theorem dX4_present_35 : decode cX4_present 35 = .ok (.ireturn, 1) := by decide +kernel
set_option maxRecDepth 20000 in
theorem ggX4_counted_X4_present : GoodIn wsX4_counted wsX4_present := goodIn_r _ [8, 2, 9, 10, 11, 7, 12, 13, 14, 15, 16, 17, 18, 19, 20, 21, 22, 23, 24, 25, 26, 27] (by decide +kernel) (by decide +kernel)
set_option maxRecDepth 20000 in
theorem gX4_counted_X4_present : GoodIn wsX4_counted (wsV RX4 66 RX4 yX4_present wsX4_present) := goodIn_app (goodIn_of _ (by decide +kernel)) ggX4_counted_X4_present
theorem dX4_counted_0 : decode cX4_counted 0 = .ok (.iload_n 1, 1) := by decide +kernel
theorem dX4_counted_1 : decode cX4_counted 1 = .ok (.ifCond .ne 10, 3) := by decide +kernel
theorem dX4_counted_4 : decode cX4_counted 4 = .ok (.aload_n 0, 1) := by decide +kernel
theorem dX4_counted_5 : decode cX4_counted 5 = .ok (.getfield 38, 3) := by decide +kernel
theorem dX4_counted_8 : decode cX4_counted 8 = .ok (.goto 31, 3) := by decide +kernel
theorem dX4_counted_11 : decode cX4_counted 11 = .ok (.iload_n 1, 1) := by decide +kernel
theorem dX4_counted_12 : decode cX4_counted 12 = .ok (.iconst 1, 1) := by decide +kernel
theorem dX4_counted_13 : decode cX4_counted 13 = .ok (.if_icmp .ne 10, 3) := by decide +kernel
theorem dX4_counted_16 : decode cX4_counted 16 = .ok (.aload_n 0, 1) := by decide +kernel
theorem dX4_counted_17 : decode cX4_counted 17 = .ok (.invokevirtual 66, 3) := by decide +kernel
theorem dX4_counted_20 : decode cX4_counted 20 = .ok (.goto 19, 3) := by decide +kernel
theorem dX4_counted_23 : decode cX4_counted 23 = .ok (.iload_n 1, 1) := by decide +kernel
theorem dX4_counted_24 : decode cX4_counted 24 = .ok (.iconst 2, 1) := by decide +kernel
theorem dX4_counted_25 : decode cX4_counted 25 = .ok (.if_icmp .ne 10, 3) := by decide +kernel
theorem dX4_counted_28 : decode cX4_counted 28 = .ok (.aload_n 0, 1) := by decide +kernel
theorem dX4_counted_29 : decode cX4_counted 29 = .ok (.getfield 59, 3) := by decide +kernel
theorem dX4_counted_32 : decode cX4_counted 32 = .ok (.goto 7, 3) := by decide +kernel
theorem dX4_counted_35 : decode cX4_counted 35 = .ok (.aload_n 0, 1) := by decide +kernel
theorem dX4_counted_36 : decode cX4_counted 36 = .ok (.getfield 70, 3) := by decide +kernel
theorem dX4_counted_39 : decode cX4_counted 39 = .ok (.ireturn, 1) := by decide +kernel
set_option maxRecDepth 20000 in
theorem ggX4_count_X4_isIn : GoodIn wsX4_count wsX4_isIn := goodIn_r _ [5] (by decide +kernel) (by decide +kernel)
set_option maxRecDepth 20000 in
theorem gX4_count_X4_isIn : GoodIn wsX4_count (va_wsS RX4 41 yX4_isIn wsX4_isIn) := goodIn_app (goodIn_of _ (by decide +kernel)) ggX4_count_X4_isIn
set_option maxRecDepth 20000 in
theorem ggX4_count_X4_counted : GoodIn wsX4_count wsX4_counted := goodIn_r _ [9, 10, 11, 12, 13, 14, 15, 4, 16, 17, 18, 19, 20, 21, 26, 27, 28, 29, 30, 31, 32, 33, 34, 35, 36, 37, 38, 39] (by decide +kernel) (by decide +kernel)
set_option maxRecDepth 20000 in
theorem gX4_count_X4_counted : GoodIn wsX4_count (wsV RX4 73 RX4 yX4_counted wsX4_counted) := goodIn_app (goodIn_of _ (by decide +kernel)) ggX4_count_X4_counted
set_option maxRecDepth 20000 in
theorem ggX4_count_X4_fail : GoodIn wsX4_count wsX4_fail := goodIn_r _ [25, 1, 26, 27, 28, 29, 30, 31, 32, 33, 34, 35, 36, 37, 38, 39] (by decide +kernel) (by decide +kernel)
set_option maxRecDepth 20000 in
theorem gX4_count_X4_fail : GoodIn wsX4_count (wsV RX4 45 RX4 yX4_fail wsX4_fail) := goodIn_app (goodIn_of _ (by decide +kernel)) ggX4_count_X4_fail
theorem dX4_count_0 : decode cX4_count 0 = .ok (.aload_n 0, 1) := by decide +kernel
theorem dX4_count_1 : decode cX4_count 1 = .ok (.iconst 0, 1) := by decide +kernel
theorem dX4_count_2 : decode cX4_count 2 = .ok (.putfield 35, 3) := by decide +kernel
theorem dX4_count_5 : decode cX4_count 5 = .ok (.iload_n 1, 1) := by decide +kernel
theorem dX4_count_6 : decode cX4_count 6 = .ok (.iconst 0, 1) := by decide +kernel
theorem dX4_count_7 : decode cX4_count 7 = .ok (.iconst 3, 1) := by decide +kernel
theorem dX4_count_8 : decode cX4_count 8 = .ok (.invokestatic 41, 3) := by decide +kernel
theorem dX4_count_11 : decode cX4_count 11 = .ok (.ifCond .eq 11, 3) := by decide +kernel
theorem dX4_count_14 : decode cX4_count 14 = .ok (.aload_n 0, 1) := by decide +kernel
theorem dX4_count_15 : decode cX4_count 15 = .ok (.iload_n 1, 1) := by decide +kernel
theorem dX4_count_16 : decode cX4_count 16 = .ok (.invokevirtual 73, 3) := by decide +kernel
theorem dX4_count_19 : decode cX4_count 19 = .ok (.goto 8, 3) := by decide +kernel
theorem dX4_count_22 : decode cX4_count 22 = .ok (.aload_n 0, 1) := by decide +kernel
theorem dX4_count_23 : decode cX4_count 23 = .ok (.iconst 1, 1) := by decide +kernel
theorem dX4_count_24 : decode cX4_count 24 = .ok (.invokevirtual 45, 3) := by decide +kernel
theorem dX4_count_27 : decode cX4_count 27 = .ok (.ireturn, 1) := by decide +kernel
theorem dX4_isHere_0 : decode cX4_isHere 0 = .ok (.aload_n 0, 1) := by decide +kernel
theorem dX4_isHere_1 : decode cX4_isHere 1 = .ok (.getfield 23, 3) := by decide +kernel
theorem dX4_isHere_4 : decode cX4_isHere 4 = .ok (.bipush 6, 2) := by decide +kernel
theorem dX4_isHere_6 : decode cX4_isHere 6 = .ok (.iload_n 1, 1) := by decide +kernel
theorem dX4_isHere_7 : decode cX4_isHere 7 = .ok (.imul, 1) := by decide +kernel
theorem dX4_isHere_8 : decode cX4_isHere 8 = .ok (.iconst 5, 1) := by decide +kernel
theorem dX4_isHere_9 : decode cX4_isHere 9 = .ok (.iadd, 1) := by decide +kernel
theorem dX4_isHere_10 : decode cX4_isHere 10 = .ok (.iaload, 1) := by decide +kernel
theorem dX4_isHere_11 : decode cX4_isHere 11 = .ok (.iconst 1, 1) := by decide +kernel
theorem dX4_isHere_12 : decode cX4_isHere 12 = .ok (.if_icmp .ne 7, 3) := by decide +kernel
theorem dX4_isHere_15 : decode cX4_isHere 15 = .ok (.iconst 1, 1) := by decide +kernel
theorem dX4_isHere_16 : decode cX4_isHere 16 = .ok (.goto 4, 3) := by decide +kernel
theorem dX4_isHere_19 : decode cX4_isHere 19 = .ok (.iconst 0, 1) := by decide +kernel
theorem dX4_isHere_20 : decode cX4_isHere 20 = .ok (.ireturn, 1) := by decide +kernel
set_option maxRecDepth 20000 in
theorem ggX4_isItem_X4_isIn : GoodIn wsX4_isItem wsX4_isIn := goodIn_r _ [5] (by decide +kernel) (by decide +kernel)
set_option maxRecDepth 20000 in
theorem gX4_isItem_X4_isIn : GoodIn wsX4_isItem (va_wsS RX4 41 yX4_isIn wsX4_isIn) := goodIn_app (goodIn_of _ (by decide +kernel)) ggX4_isItem_X4_isIn
set_option maxRecDepth 20000 in
theorem ggX4_isItem_X4_isHere : GoodIn wsX4_isItem wsX4_isHere := goodIn_r _ [9, 10, 11, 12, 13, 14, 15, 16, 17, 18, 19, 20, 21, 22, 23, 24] (by decide +kernel) (by decide +kernel)
set_option maxRecDepth 20000 in
theorem gX4_isItem_X4_isHere : GoodIn wsX4_isItem (wsV RX4 62 RX4 yX4_isHere wsX4_isHere) := goodIn_app (goodIn_of _ (by decide +kernel)) ggX4_isItem_X4_isHere
theorem dX4_isItem_0 : decode cX4_isItem 0 = .ok (.iload_n 1, 1) := by decide +kernel
theorem dX4_isItem_1 : decode cX4_isItem 1 = .ok (.iconst 0, 1) := by decide +kernel
theorem dX4_isItem_2 : decode cX4_isItem 2 = .ok (.aload_n 0, 1) := by decide +kernel
theorem dX4_isItem_3 : decode cX4_isItem 3 = .ok (.getfield 59, 3) := by decide +kernel
theorem dX4_isItem_6 : decode cX4_isItem 6 = .ok (.iconst 1, 1) := by decide +kernel
theorem dX4_isItem_7 : decode cX4_isItem 7 = .ok (.isub, 1) := by decide +kernel
theorem dX4_isItem_8 : decode cX4_isItem 8 = .ok (.invokestatic 41, 3) := by decide +kernel
theorem dX4_isItem_11 : decode cX4_isItem 11 = .ok (.ifCond .eq 15, 3) := by decide +kernel
theorem dX4_isItem_14 : decode cX4_isItem 14 = .ok (.aload_n 0, 1) := by decide +kernel
theorem dX4_isItem_15 : decode cX4_isItem 15 = .ok (.iload_n 1, 1) := by decide +kernel
theorem dX4_isItem_16 : decode cX4_isItem 16 = .ok (.invokevirtual 62, 3) := by decide +kernel
theorem dX4_isItem_19 : decode cX4_isItem 19 = .ok (.ifCond .eq 7, 3) := by decide +kernel
theorem dX4_isItem_22 : decode cX4_isItem 22 = .ok (.iconst 1, 1) := by decide +kernel
theorem dX4_isItem_23 : decode cX4_isItem 23 = .ok (.goto 4, 3) := by decide +kernel
theorem dX4_isItem_26 : decode cX4_isItem 26 = .ok (.iconst 0, 1) := by decide +kernel
theorem dX4_isItem_27 : decode cX4_isItem 27 = .ok (.ireturn, 1) := by decide +kernel
set_option maxRecDepth 20000 in
theorem ggX4_reckonLoads_X4_isHere : GoodIn wsX4_reckonLoads wsX4_isHere := goodIn_r _ [10, 11, 59, 60, 61, 62, 63, 64, 65, 66, 67, 68, 69, 70, 71, 72] (by decide +kernel) (by decide +kernel)
set_option maxRecDepth 20000 in
theorem gX4_reckonLoads_X4_isHere : GoodIn wsX4_reckonLoads (wsV RX4 62 RX4 yX4_isHere wsX4_isHere) := goodIn_app (goodIn_of _ (by decide +kernel)) ggX4_reckonLoads_X4_isHere
theorem dX4_reckonLoads_0 : decode cX4_reckonLoads 0 = .ok (.iconst 0, 1) := by decide +kernel
theorem dX4_reckonLoads_1 : decode cX4_reckonLoads 1 = .ok (.istore_n 1, 1) := by decide +kernel
theorem dX4_reckonLoads_2 : decode cX4_reckonLoads 2 = .ok (.iconst 0, 1) := by decide +kernel
theorem dX4_reckonLoads_3 : decode cX4_reckonLoads 3 = .ok (.istore_n 2, 1) := by decide +kernel
theorem dX4_reckonLoads_4 : decode cX4_reckonLoads 4 = .ok (.iload_n 2, 1) := by decide +kernel
theorem dX4_reckonLoads_5 : decode cX4_reckonLoads 5 = .ok (.bipush 60, 2) := by decide +kernel
theorem dX4_reckonLoads_7 : decode cX4_reckonLoads 7 = .ok (.if_icmp .gt 35, 3) := by decide +kernel
theorem dX4_reckonLoads_10 : decode cX4_reckonLoads 10 = .ok (.aload_n 0, 1) := by decide +kernel
theorem dX4_reckonLoads_11 : decode cX4_reckonLoads 11 = .ok (.getfield 26, 3) := by decide +kernel
theorem dX4_reckonLoads_14 : decode cX4_reckonLoads 14 = .ok (.iload_n 2, 1) := by decide +kernel
theorem dX4_reckonLoads_15 : decode cX4_reckonLoads 15 = .ok (.iconst 0, 1) := by decide +kernel
theorem dX4_reckonLoads_16 : decode cX4_reckonLoads 16 = .ok (.iastore, 1) := by decide +kernel
theorem dX4_reckonLoads_17 : decode cX4_reckonLoads 17 = .ok (.aload_n 0, 1) := by decide +kernel
theorem dX4_reckonLoads_18 : decode cX4_reckonLoads 18 = .ok (.iload_n 2, 1) := by decide +kernel
theorem dX4_reckonLoads_19 : decode cX4_reckonLoads 19 = .ok (.invokevirtual 62, 3) := by decide +kernel
theorem dX4_reckonLoads_22 : decode cX4_reckonLoads 22 = .ok (.ifCond .eq 14, 3) := by decide +kernel
theorem dX4_reckonLoads_25 : decode cX4_reckonLoads 25 = .ok (.iload_n 1, 1) := by decide +kernel
theorem dX4_reckonLoads_26 : decode cX4_reckonLoads 26 = .ok (.aload_n 0, 1) := by decide +kernel
theorem dX4_reckonLoads_27 : decode cX4_reckonLoads 27 = .ok (.iload_n 2, 1) := by decide +kernel
theorem dX4_reckonLoads_28 : decode cX4_reckonLoads 28 = .ok (.iconst 3, 1) := by decide +kernel
theorem dX4_reckonLoads_29 : decode cX4_reckonLoads 29 = .ok (.invokevirtual 76, 3) := by decide +kernel
theorem dX4_reckonLoads_32 : decode cX4_reckonLoads 32 = .ok (.invokestatic 94, 3) := by decide +kernel
theorem dX4_reckonLoads_35 : decode cX4_reckonLoads 35 = .ok (.istore_n 1, 1) := by decide +kernel
theorem dX4_reckonLoads_36 : decode cX4_reckonLoads 36 = .ok (.iinc 2 1, 3) := by decide +kernel
theorem dX4_reckonLoads_39 : decode cX4_reckonLoads 39 = .ok (.goto (-35), 3) := by decide +kernel
theorem dX4_reckonLoads_42 : decode cX4_reckonLoads 42 = .ok (.iload_n 1, 1) := by decide +kernel
theorem dX4_reckonLoads_43 : decode cX4_reckonLoads 43 = .ok (.istore_n 2, 1) := by decide +kernel
theorem dX4_reckonLoads_44 : decode cX4_reckonLoads 44 = .ok (.iload_n 2, 1) := by decide +kernel
theorem dX4_reckonLoads_45 : decode cX4_reckonLoads 45 = .ok (.ifCond .le 118, 3) := by decide +kernel
theorem dX4_reckonLoads_48 : decode cX4_reckonLoads 48 = .ok (.iconst 0, 1) := by decide +kernel
theorem dX4_reckonLoads_49 : decode cX4_reckonLoads 49 = .ok (.istore_n 3, 1) := by decide +kernel
theorem dX4_reckonLoads_50 : decode cX4_reckonLoads 50 = .ok (.iload_n 3, 1) := by decide +kernel
theorem dX4_reckonLoads_51 : decode cX4_reckonLoads 51 = .ok (.bipush 60, 2) := by decide +kernel
theorem dX4_reckonLoads_53 : decode cX4_reckonLoads 53 = .ok (.if_icmp .gt 104, 3) := by decide +kernel
theorem dX4_reckonLoads_56 : decode cX4_reckonLoads 56 = .ok (.aload_n 0, 1) := by decide +kernel
theorem dX4_reckonLoads_57 : decode cX4_reckonLoads 57 = .ok (.iload_n 3, 1) := by decide +kernel
theorem dX4_reckonLoads_58 : decode cX4_reckonLoads 58 = .ok (.invokevirtual 62, 3) := by decide +kernel
theorem dX4_reckonLoads_61 : decode cX4_reckonLoads 61 = .ok (.ifCond .eq 90, 3) := by decide +kernel
theorem dX4_reckonLoads_64 : decode cX4_reckonLoads 64 = .ok (.aload_n 0, 1) := by decide +kernel
theorem dX4_reckonLoads_65 : decode cX4_reckonLoads 65 = .ok (.iload_n 3, 1) := by decide +kernel
theorem dX4_reckonLoads_66 : decode cX4_reckonLoads 66 = .ok (.iconst 3, 1) := by decide +kernel
theorem dX4_reckonLoads_67 : decode cX4_reckonLoads 67 = .ok (.invokevirtual 76, 3) := by decide +kernel
theorem dX4_reckonLoads_70 : decode cX4_reckonLoads 70 = .ok (.iload_n 2, 1) := by decide +kernel
theorem dX4_reckonLoads_71 : decode cX4_reckonLoads 71 = .ok (.if_icmp .eq 6, 3) := by decide +kernel
theorem dX4_reckonLoads_74 : decode cX4_reckonLoads 74 = .ok (.goto 77, 3) := by decide +kernel
theorem dX4_reckonLoads_77 : decode cX4_reckonLoads 77 = .ok (.aload_n 0, 1) := by decide +kernel
theorem dX4_reckonLoads_78 : decode cX4_reckonLoads 78 = .ok (.iload_n 3, 1) := by decide +kernel
theorem dX4_reckonLoads_79 : decode cX4_reckonLoads 79 = .ok (.invokevirtual 120, 3) := by decide +kernel
theorem dX4_reckonLoads_82 : decode cX4_reckonLoads 82 = .ok (.aload_n 0, 1) := by decide +kernel
theorem dX4_reckonLoads_83 : decode cX4_reckonLoads 83 = .ok (.getfield 26, 3) := by decide +kernel
theorem dX4_reckonLoads_86 : decode cX4_reckonLoads 86 = .ok (.iload_n 3, 1) := by decide +kernel
theorem dX4_reckonLoads_87 : decode cX4_reckonLoads 87 = .ok (.iaload, 1) := by decide +kernel
theorem dX4_reckonLoads_88 : decode cX4_reckonLoads 88 = .ok (.iadd, 1) := by decide +kernel
theorem dX4_reckonLoads_89 : decode cX4_reckonLoads 89 = .ok (.istore 4, 2) := by decide +kernel
theorem dX4_reckonLoads_91 : decode cX4_reckonLoads 91 = .ok (.aload_n 0, 1) := by decide +kernel
theorem dX4_reckonLoads_92 : decode cX4_reckonLoads 92 = .ok (.iload_n 3, 1) := by decide +kernel
theorem dX4_reckonLoads_93 : decode cX4_reckonLoads 93 = .ok (.invokevirtual 123, 3) := by decide +kernel
theorem dX4_reckonLoads_96 : decode cX4_reckonLoads 96 = .ok (.istore 5, 2) := by decide +kernel
theorem dX4_reckonLoads_98 : decode cX4_reckonLoads 98 = .ok (.iconst 0, 1) := by decide +kernel
theorem dX4_reckonLoads_99 : decode cX4_reckonLoads 99 = .ok (.istore 6, 2) := by decide +kernel
theorem dX4_reckonLoads_101 : decode cX4_reckonLoads 101 = .ok (.iload 6, 2) := by decide +kernel
theorem dX4_reckonLoads_103 : decode cX4_reckonLoads 103 = .ok (.bipush 60, 2) := by decide +kernel
theorem dX4_reckonLoads_105 : decode cX4_reckonLoads 105 = .ok (.if_icmp .gt 46, 3) := by decide +kernel
theorem dX4_reckonLoads_108 : decode cX4_reckonLoads 108 = .ok (.aload_n 0, 1) := by decide +kernel
theorem dX4_reckonLoads_109 : decode cX4_reckonLoads 109 = .ok (.iload_n 3, 1) := by decide +kernel
theorem dX4_reckonLoads_110 : decode cX4_reckonLoads 110 = .ok (.iload 6, 2) := by decide +kernel
theorem dX4_reckonLoads_112 : decode cX4_reckonLoads 112 = .ok (.invokevirtual 110, 3) := by decide +kernel
theorem dX4_reckonLoads_115 : decode cX4_reckonLoads 115 = .ok (.ifCond .eq 30, 3) := by decide +kernel
theorem dX4_reckonLoads_118 : decode cX4_reckonLoads 118 = .ok (.aload_n 0, 1) := by decide +kernel
theorem dX4_reckonLoads_119 : decode cX4_reckonLoads 119 = .ok (.getfield 26, 3) := by decide +kernel
theorem dX4_reckonLoads_122 : decode cX4_reckonLoads 122 = .ok (.iload 6, 2) := by decide +kernel
theorem dX4_reckonLoads_124 : decode cX4_reckonLoads 124 = .ok (.dup2, 1) := by decide +kernel
theorem dX4_reckonLoads_125 : decode cX4_reckonLoads 125 = .ok (.iaload, 1) := by decide +kernel
theorem dX4_reckonLoads_126 : decode cX4_reckonLoads 126 = .ok (.iload 4, 2) := by decide +kernel
theorem dX4_reckonLoads_128 : decode cX4_reckonLoads 128 = .ok (.i2l, 1) := by decide +kernel
theorem dX4_reckonLoads_129 : decode cX4_reckonLoads 129 = .ok (.aload_n 0, 1) := by decide +kernel
theorem dX4_reckonLoads_130 : decode cX4_reckonLoads 130 = .ok (.iload_n 3, 1) := by decide +kernel
theorem dX4_reckonLoads_131 : decode cX4_reckonLoads 131 = .ok (.iload 6, 2) := by decide +kernel
theorem dX4_reckonLoads_133 : decode cX4_reckonLoads 133 = .ok (.invokevirtual 104, 3) := by decide +kernel
theorem dX4_reckonLoads_136 : decode cX4_reckonLoads 136 = .ok (.i2l, 1) := by decide +kernel
theorem dX4_reckonLoads_137 : decode cX4_reckonLoads 137 = .ok (.lmul, 1) := by decide +kernel
theorem dX4_reckonLoads_138 : decode cX4_reckonLoads 138 = .ok (.iload 5, 2) := by decide +kernel
theorem dX4_reckonLoads_140 : decode cX4_reckonLoads 140 = .ok (.i2l, 1) := by decide +kernel
theorem dX4_reckonLoads_141 : decode cX4_reckonLoads 141 = .ok (.ldiv, 1) := by decide +kernel
theorem dX4_reckonLoads_142 : decode cX4_reckonLoads 142 = .ok (.l2i, 1) := by decide +kernel
theorem dX4_reckonLoads_143 : decode cX4_reckonLoads 143 = .ok (.iadd, 1) := by decide +kernel
theorem dX4_reckonLoads_144 : decode cX4_reckonLoads 144 = .ok (.iastore, 1) := by decide +kernel
theorem dX4_reckonLoads_145 : decode cX4_reckonLoads 145 = .ok (.iinc 6 1, 3) := by decide +kernel
theorem dX4_reckonLoads_148 : decode cX4_reckonLoads 148 = .ok (.goto (-47), 3) := by decide +kernel
theorem dX4_reckonLoads_151 : decode cX4_reckonLoads 151 = .ok (.iinc 3 1, 3) := by decide +kernel
theorem dX4_reckonLoads_154 : decode cX4_reckonLoads 154 = .ok (.goto (-104), 3) := by decide +kernel
theorem dX4_reckonLoads_157 : decode cX4_reckonLoads 157 = .ok (.iinc 2 (-1), 3) := by decide +kernel
theorem dX4_reckonLoads_160 : decode cX4_reckonLoads 160 = .ok (.goto (-116), 3) := by decide +kernel
theorem dX4_reckonLoads_163 : decode cX4_reckonLoads 163 = .ok (.return_, 1) := by decide +kernel
set_option maxRecDepth 20000 in
theorem ggX4_weights_X4_isHere : GoodIn wsX4_weights wsX4_isHere := goodIn_r _ [5, 6, 20, 21, 22, 23, 24, 25, 26, 27, 28, 29, 30, 31, 32, 33] (by decide +kernel) (by decide +kernel)
set_option maxRecDepth 20000 in
theorem gX4_weights_X4_isHere : GoodIn wsX4_weights (wsV RX4 62 RX4 yX4_isHere wsX4_isHere) := goodIn_app (goodIn_of _ (by decide +kernel)) ggX4_weights_X4_isHere
theorem dX4_weights_0 : decode cX4_weights 0 = .ok (.iconst 0, 1) := by decide +kernel
theorem dX4_weights_1 : decode cX4_weights 1 = .ok (.istore_n 1, 1) := by decide +kernel
theorem dX4_weights_2 : decode cX4_weights 2 = .ok (.iconst 0, 1) := by decide +kernel
theorem dX4_weights_3 : decode cX4_weights 3 = .ok (.istore_n 2, 1) := by decide +kernel
theorem dX4_weights_4 : decode cX4_weights 4 = .ok (.iload_n 2, 1) := by decide +kernel
theorem dX4_weights_5 : decode cX4_weights 5 = .ok (.bipush 60, 2) := by decide +kernel
theorem dX4_weights_7 : decode cX4_weights 7 = .ok (.if_icmp .gt 29, 3) := by decide +kernel
theorem dX4_weights_10 : decode cX4_weights 10 = .ok (.iload_n 1, 1) := by decide +kernel
theorem dX4_weights_11 : decode cX4_weights 11 = .ok (.aload_n 0, 1) := by decide +kernel
theorem dX4_weights_12 : decode cX4_weights 12 = .ok (.iload_n 2, 1) := by decide +kernel
theorem dX4_weights_13 : decode cX4_weights 13 = .ok (.invokevirtual 62, 3) := by decide +kernel
theorem dX4_weights_16 : decode cX4_weights 16 = .ok (.ifCond .eq 11, 3) := by decide +kernel
theorem dX4_weights_19 : decode cX4_weights 19 = .ok (.aload_n 0, 1) := by decide +kernel
theorem dX4_weights_20 : decode cX4_weights 20 = .ok (.iload_n 2, 1) := by decide +kernel
theorem dX4_weights_21 : decode cX4_weights 21 = .ok (.invokevirtual 120, 3) := by decide +kernel
theorem dX4_weights_24 : decode cX4_weights 24 = .ok (.goto 4, 3) := by decide +kernel
theorem dX4_weights_27 : decode cX4_weights 27 = .ok (.iconst 0, 1) := by decide +kernel
theorem dX4_weights_28 : decode cX4_weights 28 = .ok (.iadd, 1) := by decide +kernel
theorem dX4_weights_29 : decode cX4_weights 29 = .ok (.istore_n 1, 1) := by decide +kernel
theorem dX4_weights_30 : decode cX4_weights 30 = .ok (.iinc 2 1, 3) := by decide +kernel
theorem dX4_weights_33 : decode cX4_weights 33 = .ok (.goto (-29), 3) := by decide +kernel
theorem dX4_weights_36 : decode cX4_weights 36 = .ok (.iload_n 1, 1) := by decide +kernel
theorem dX4_weights_37 : decode cX4_weights 37 = .ok (.ireturn, 1) := by decide +kernel
set_option maxRecDepth 20000 in
theorem ggX4_reason_X4_isKind : GoodIn wsX4_reason wsX4_isKind := goodIn_r _ [6, 7, 8, 9, 5, 10, 121, 122, 123, 124, 125, 126, 127, 128, 129, 130, 131, 132, 133, 134] (by decide +kernel) (by decide +kernel)
set_option maxRecDepth 20000 in
theorem gX4_reason_X4_isKind : GoodIn wsX4_reason (wsV RX4 152 RX4 yX4_isKind wsX4_isKind) := goodIn_app (goodIn_of _ (by decide +kernel)) ggX4_reason_X4_isKind
set_option maxRecDepth 20000 in
theorem ggX4_reason_X4_fail : GoodIn wsX4_reason wsX4_fail := goodIn_r _ [120, 1, 121, 122, 123, 124, 125, 126, 127, 128, 129, 130, 131, 132, 133, 134] (by decide +kernel) (by decide +kernel)
set_option maxRecDepth 20000 in
theorem gX4_reason_X4_fail : GoodIn wsX4_reason (wsV RX4 45 RX4 yX4_fail wsX4_fail) := goodIn_app (goodIn_of _ (by decide +kernel)) ggX4_reason_X4_fail
theorem dX4_reason_0 : decode cX4_reason 0 = .ok (.aload_n 0, 1) := by decide +kernel
theorem dX4_reason_1 : decode cX4_reason 1 = .ok (.iconst 0, 1) := by decide +kernel
theorem dX4_reason_2 : decode cX4_reason 2 = .ok (.putfield 35, 3) := by decide +kernel
theorem dX4_reason_5 : decode cX4_reason 5 = .ok (.aload_n 0, 1) := by decide +kernel
theorem dX4_reason_6 : decode cX4_reason 6 = .ok (.iload_n 1, 1) := by decide +kernel
theorem dX4_reason_7 : decode cX4_reason 7 = .ok (.invokevirtual 152, 3) := by decide +kernel
theorem dX4_reason_10 : decode cX4_reason 10 = .ok (.ifCond .eq 15, 3) := by decide +kernel
theorem dX4_reason_13 : decode cX4_reason 13 = .ok (.aload_n 0, 1) := by decide +kernel
theorem dX4_reason_14 : decode cX4_reason 14 = .ok (.iload_n 1, 1) := by decide +kernel
theorem dX4_reason_15 : decode cX4_reason 15 = .ok (.iload_n 2, 1) := by decide +kernel
theorem dX4_reason_16 : decode cX4_reason 16 = .ok (.iload_n 3, 1) := by decide +kernel
theorem dX4_reason_17 : decode cX4_reason 17 = .ok (.iload 4, 2) := by decide +kernel
theorem dX4_reason_19 : decode cX4_reason 19 = .ok (.invokevirtual 155, 3) := by decide +kernel
theorem dX4_reason_22 : decode cX4_reason 22 = .ok (.goto 8, 3) := by decide +kernel
theorem dX4_reason_25 : decode cX4_reason 25 = .ok (.aload_n 0, 1) := by decide +kernel
theorem dX4_reason_26 : decode cX4_reason 26 = .ok (.iconst 1, 1) := by decide +kernel
theorem dX4_reason_27 : decode cX4_reason 27 = .ok (.invokevirtual 45, 3) := by decide +kernel
theorem dX4_reason_30 : decode cX4_reason 30 = .ok (.ireturn, 1) := by decide +kernel
set_option maxRecDepth 20000 in
theorem ggX4_put_X4_isKind : GoodIn wsX4_put wsX4_isKind := goodIn_r _ [7, 8, 9, 10, 6, 11, 125, 126, 127, 128, 129, 130, 131, 132, 133, 134, 135, 136, 137, 138] (by decide +kernel) (by decide +kernel)
set_option maxRecDepth 20000 in
theorem gX4_put_X4_isKind : GoodIn wsX4_put (wsV RX4 152 RX4 yX4_isKind wsX4_isKind) := goodIn_app (goodIn_of _ (by decide +kernel)) ggX4_put_X4_isKind
set_option maxRecDepth 20000 in
theorem ggX4_put_X4_fail : GoodIn wsX4_put wsX4_fail := goodIn_r _ [15, 1, 125, 126, 127, 128, 129, 130, 131, 132, 133, 134, 135, 136, 137, 138] (by decide +kernel) (by decide +kernel)
set_option maxRecDepth 20000 in
theorem gX4_put_X4_fail : GoodIn wsX4_put (wsV RX4 45 RX4 yX4_fail wsX4_fail) := goodIn_app (goodIn_of _ (by decide +kernel)) ggX4_put_X4_fail
theorem dX4_put_0 : decode cX4_put 0 = .ok (.aload_n 0, 1) := by decide +kernel
theorem dX4_put_1 : decode cX4_put 1 = .ok (.iconst 0, 1) := by decide +kernel
theorem dX4_put_2 : decode cX4_put 2 = .ok (.putfield 35, 3) := by decide +kernel
theorem dX4_put_5 : decode cX4_put 5 = .ok (.aload_n 0, 1) := by decide +kernel
theorem dX4_put_6 : decode cX4_put 6 = .ok (.iload_n 1, 1) := by decide +kernel
theorem dX4_put_7 : decode cX4_put 7 = .ok (.invokevirtual 152, 3) := by decide +kernel
theorem dX4_put_10 : decode cX4_put 10 = .ok (.ifCond .ne 9, 3) := by decide +kernel
theorem dX4_put_13 : decode cX4_put 13 = .ok (.aload_n 0, 1) := by decide +kernel
theorem dX4_put_14 : decode cX4_put 14 = .ok (.iconst 1, 1) := by decide +kernel
theorem dX4_put_15 : decode cX4_put 15 = .ok (.invokevirtual 45, 3) := by decide +kernel
theorem dX4_put_18 : decode cX4_put 18 = .ok (.ireturn, 1) := by decide +kernel
theorem dX4_put_19 : decode cX4_put 19 = .ok (.aload_n 0, 1) := by decide +kernel
theorem dX4_put_20 : decode cX4_put 20 = .ok (.iload_n 1, 1) := by decide +kernel
theorem dX4_put_21 : decode cX4_put 21 = .ok (.iload_n 2, 1) := by decide +kernel
theorem dX4_put_22 : decode cX4_put 22 = .ok (.iload_n 3, 1) := by decide +kernel
theorem dX4_put_23 : decode cX4_put 23 = .ok (.iload 4, 2) := by decide +kernel
theorem dX4_put_25 : decode cX4_put 25 = .ok (.invokevirtual 155, 3) := by decide +kernel
theorem dX4_put_28 : decode cX4_put 28 = .ok (.ifCond .ne 12, 3) := by decide +kernel
theorem dX4_put_31 : decode cX4_put 31 = .ok (.aload_n 0, 1) := by decide +kernel
theorem dX4_put_32 : decode cX4_put 32 = .ok (.getfield 59, 3) := by decide +kernel
theorem dX4_put_35 : decode cX4_put 35 = .ok (.bipush 60, 2) := by decide +kernel
theorem dX4_put_37 : decode cX4_put 37 = .ok (.if_icmp .ne 9, 3) := by decide +kernel
theorem dX4_put_40 : decode cX4_put 40 = .ok (.aload_n 0, 1) := by decide +kernel
theorem dX4_put_41 : decode cX4_put 41 = .ok (.iconst 2, 1) := by decide +kernel
theorem dX4_put_42 : decode cX4_put 42 = .ok (.invokevirtual 45, 3) := by decide +kernel
theorem dX4_put_45 : decode cX4_put 45 = .ok (.ireturn, 1) := by decide +kernel
theorem dX4_put_46 : decode cX4_put 46 = .ok (.aload_n 0, 1) := by decide +kernel
theorem dX4_put_47 : decode cX4_put 47 = .ok (.iload_n 1, 1) := by decide +kernel
theorem dX4_put_48 : decode cX4_put 48 = .ok (.iload_n 2, 1) := by decide +kernel
theorem dX4_put_49 : decode cX4_put 49 = .ok (.iload_n 3, 1) := by decide +kernel
theorem dX4_put_50 : decode cX4_put 50 = .ok (.iload 4, 2) := by decide +kernel
theorem dX4_put_52 : decode cX4_put 52 = .ok (.invokevirtual 159, 3) := by decide +kernel
theorem dX4_put_55 : decode cX4_put 55 = .ok (.aload_n 0, 1) := by decide +kernel
theorem dX4_put_56 : decode cX4_put 56 = .ok (.getfield 59, 3) := by decide +kernel
theorem dX4_put_59 : decode cX4_put 59 = .ok (.iconst 1, 1) := by decide +kernel
theorem dX4_put_60 : decode cX4_put 60 = .ok (.isub, 1) := by decide +kernel
theorem dX4_put_61 : decode cX4_put 61 = .ok (.ireturn, 1) := by decide +kernel
set_option maxRecDepth 20000 in
theorem ggX4_takeOff_X4_isItem : GoodIn wsX4_takeOff wsX4_isItem := goodIn_r _ [7, 8, 9, 10, 6, 11, 12, 13, 14, 15, 2, 67, 68, 69, 70, 71, 72, 73, 74, 75, 76, 77, 78, 79, 80] (by decide +kernel) (by decide +kernel)
set_option maxRecDepth 20000 in
theorem gX4_takeOff_X4_isItem : GoodIn wsX4_takeOff (wsV RX4 163 RX4 yX4_isItem wsX4_isItem) := goodIn_app (goodIn_of _ (by decide +kernel)) ggX4_takeOff_X4_isItem
set_option maxRecDepth 20000 in
theorem ggX4_takeOff_X4_fail : GoodIn wsX4_takeOff wsX4_fail := goodIn_r _ [19, 1, 67, 68, 69, 70, 71, 72, 73, 74, 75, 76, 77, 78, 79, 80] (by decide +kernel) (by decide +kernel)
set_option maxRecDepth 20000 in
theorem gX4_takeOff_X4_fail : GoodIn wsX4_takeOff (wsV RX4 45 RX4 yX4_fail wsX4_fail) := goodIn_app (goodIn_of _ (by decide +kernel)) ggX4_takeOff_X4_fail
set_option maxRecDepth 20000 in
theorem ggX4_takeOff_X4_present : GoodIn wsX4_takeOff wsX4_present := goodIn_r _ [66, 8, 12, 13, 14, 6, 15, 2, 67, 68, 69, 70, 71, 72, 73, 74, 75, 76, 77, 78, 79, 80] (by decide +kernel) (by decide +kernel)
set_option maxRecDepth 20000 in
theorem gX4_takeOff_X4_present : GoodIn wsX4_takeOff (wsV RX4 66 RX4 yX4_present wsX4_present) := goodIn_app (goodIn_of _ (by decide +kernel)) ggX4_takeOff_X4_present
theorem dX4_takeOff_0 : decode cX4_takeOff 0 = .ok (.aload_n 0, 1) := by decide +kernel
theorem dX4_takeOff_1 : decode cX4_takeOff 1 = .ok (.iconst 0, 1) := by decide +kernel
theorem dX4_takeOff_2 : decode cX4_takeOff 2 = .ok (.putfield 35, 3) := by decide +kernel
theorem dX4_takeOff_5 : decode cX4_takeOff 5 = .ok (.aload_n 0, 1) := by decide +kernel
theorem dX4_takeOff_6 : decode cX4_takeOff 6 = .ok (.iload_n 1, 1) := by decide +kernel
theorem dX4_takeOff_7 : decode cX4_takeOff 7 = .ok (.invokevirtual 163, 3) := by decide +kernel
theorem dX4_takeOff_10 : decode cX4_takeOff 10 = .ok (.ifCond .ne 9, 3) := by decide +kernel
theorem dX4_takeOff_13 : decode cX4_takeOff 13 = .ok (.aload_n 0, 1) := by decide +kernel
theorem dX4_takeOff_14 : decode cX4_takeOff 14 = .ok (.iconst 1, 1) := by decide +kernel
theorem dX4_takeOff_15 : decode cX4_takeOff 15 = .ok (.invokevirtual 45, 3) := by decide +kernel
theorem dX4_takeOff_18 : decode cX4_takeOff 18 = .ok (.ireturn, 1) := by decide +kernel
theorem dX4_takeOff_19 : decode cX4_takeOff 19 = .ok (.aload_n 0, 1) := by decide +kernel
theorem dX4_takeOff_20 : decode cX4_takeOff 20 = .ok (.iload_n 1, 1) := by decide +kernel
theorem dX4_takeOff_21 : decode cX4_takeOff 21 = .ok (.invokevirtual 166, 3) := by decide +kernel
theorem dX4_takeOff_24 : decode cX4_takeOff 24 = .ok (.ifCond .le 9, 3) := by decide +kernel
theorem dX4_takeOff_27 : decode cX4_takeOff 27 = .ok (.aload_n 0, 1) := by decide +kernel
theorem dX4_takeOff_28 : decode cX4_takeOff 28 = .ok (.iconst 2, 1) := by decide +kernel
theorem dX4_takeOff_29 : decode cX4_takeOff 29 = .ok (.invokevirtual 45, 3) := by decide +kernel
theorem dX4_takeOff_32 : decode cX4_takeOff 32 = .ok (.ireturn, 1) := by decide +kernel
theorem dX4_takeOff_33 : decode cX4_takeOff 33 = .ok (.aload_n 0, 1) := by decide +kernel
theorem dX4_takeOff_34 : decode cX4_takeOff 34 = .ok (.getfield 23, 3) := by decide +kernel
theorem dX4_takeOff_37 : decode cX4_takeOff 37 = .ok (.bipush 6, 2) := by decide +kernel
theorem dX4_takeOff_39 : decode cX4_takeOff 39 = .ok (.iload_n 1, 1) := by decide +kernel
theorem dX4_takeOff_40 : decode cX4_takeOff 40 = .ok (.imul, 1) := by decide +kernel
theorem dX4_takeOff_41 : decode cX4_takeOff 41 = .ok (.iconst 5, 1) := by decide +kernel
theorem dX4_takeOff_42 : decode cX4_takeOff 42 = .ok (.iadd, 1) := by decide +kernel
theorem dX4_takeOff_43 : decode cX4_takeOff 43 = .ok (.iconst 0, 1) := by decide +kernel
theorem dX4_takeOff_44 : decode cX4_takeOff 44 = .ok (.iastore, 1) := by decide +kernel
theorem dX4_takeOff_45 : decode cX4_takeOff 45 = .ok (.aload_n 0, 1) := by decide +kernel
theorem dX4_takeOff_46 : decode cX4_takeOff 46 = .ok (.invokevirtual 66, 3) := by decide +kernel
theorem dX4_takeOff_49 : decode cX4_takeOff 49 = .ok (.ireturn, 1) := by decide +kernel
set_option maxRecDepth 20000 in
theorem ggX4_item_X4_isItem : GoodIn wsX4_item wsX4_isItem := goodIn_r _ [6, 7, 8, 9, 5, 10, 11, 12, 13, 14, 15, 88, 89, 90, 91, 92, 93, 94, 95, 96, 97, 98, 99, 100, 101] (by decide +kernel) (by decide +kernel)
set_option maxRecDepth 20000 in
theorem gX4_item_X4_isItem : GoodIn wsX4_item (wsV RX4 163 RX4 yX4_isItem wsX4_isItem) := goodIn_app (goodIn_of _ (by decide +kernel)) ggX4_item_X4_isItem
set_option maxRecDepth 20000 in
theorem ggX4_item_X4_isIn : GoodIn wsX4_item wsX4_isIn := goodIn_r _ [10] (by decide +kernel) (by decide +kernel)
set_option maxRecDepth 20000 in
theorem gX4_item_X4_isIn : GoodIn wsX4_item (va_wsS RX4 41 yX4_isIn wsX4_isIn) := goodIn_app (goodIn_of _ (by decide +kernel)) ggX4_item_X4_isIn
set_option maxRecDepth 20000 in
theorem ggX4_item_X4_fail : GoodIn wsX4_item wsX4_fail := goodIn_r _ [19, 1, 88, 89, 90, 91, 92, 93, 94, 95, 96, 97, 98, 99, 100, 101] (by decide +kernel) (by decide +kernel)
set_option maxRecDepth 20000 in
theorem gX4_item_X4_fail : GoodIn wsX4_item (wsV RX4 45 RX4 yX4_fail wsX4_fail) := goodIn_app (goodIn_of _ (by decide +kernel)) ggX4_item_X4_fail
set_option maxRecDepth 20000 in
theorem ggX4_item_X4_reckonLoads : GoodIn wsX4_item wsX4_reckonLoads := goodIn_r _ [23, 24, 25, 26, 27, 28, 11, 12, 13, 5, 14, 15, 29, 30, 31, 32, 33, 34, 35, 36, 37, 38, 39, 40, 41, 42, 43, 44, 45, 46, 47, 48, 49, 50, 51, 52, 53, 54, 55, 56, 57, 58, 59, 60, 61, 62, 63, 64, 65, 66, 67, 68, 69, 70, 71, 72, 73, 74, 75, 88, 89, 90, 91, 92, 93, 94, 95, 96, 97, 98, 99, 100, 101] (by decide +kernel) (by decide +kernel)
set_option maxRecDepth 20000 in
theorem gX4_item_X4_reckonLoads : GoodIn wsX4_item (wsV RX4 126 RX4 yX4_reckonLoads wsX4_reckonLoads) := goodIn_app (goodIn_of _ (by decide +kernel)) ggX4_item_X4_reckonLoads
theorem dX4_item_0 : decode cX4_item 0 = .ok (.aload_n 0, 1) := by decide +kernel
theorem dX4_item_1 : decode cX4_item 1 = .ok (.iconst 0, 1) := by decide +kernel
theorem dX4_item_2 : decode cX4_item 2 = .ok (.putfield 35, 3) := by decide +kernel
theorem dX4_item_5 : decode cX4_item 5 = .ok (.aload_n 0, 1) := by decide +kernel
theorem dX4_item_6 : decode cX4_item 6 = .ok (.iload_n 1, 1) := by decide +kernel
theorem dX4_item_7 : decode cX4_item 7 = .ok (.invokevirtual 163, 3) := by decide +kernel
theorem dX4_item_10 : decode cX4_item 10 = .ok (.ifCond .eq 13, 3) := by decide +kernel
theorem dX4_item_13 : decode cX4_item 13 = .ok (.iload_n 2, 1) := by decide +kernel
theorem dX4_item_14 : decode cX4_item 14 = .ok (.iconst 0, 1) := by decide +kernel
theorem dX4_item_15 : decode cX4_item 15 = .ok (.bipush 9, 2) := by decide +kernel
theorem dX4_item_17 : decode cX4_item 17 = .ok (.invokestatic 41, 3) := by decide +kernel
theorem dX4_item_20 : decode cX4_item 20 = .ok (.ifCond .ne 9, 3) := by decide +kernel
theorem dX4_item_23 : decode cX4_item 23 = .ok (.aload_n 0, 1) := by decide +kernel
theorem dX4_item_24 : decode cX4_item 24 = .ok (.iconst 1, 1) := by decide +kernel
theorem dX4_item_25 : decode cX4_item 25 = .ok (.invokevirtual 45, 3) := by decide +kernel
theorem dX4_item_28 : decode cX4_item 28 = .ok (.ireturn, 1) := by decide +kernel
theorem dX4_item_29 : decode cX4_item 29 = .ok (.iload_n 2, 1) := by decide +kernel
theorem dX4_item_30 : decode cX4_item 30 = .ok (.bipush 6, 2) := by decide +kernel
theorem dX4_item_32 : decode cX4_item 32 = .ok (.if_icmp .ne 7, 3) := by decide +kernel
theorem dX4_item_35 : decode cX4_item 35 = .ok (.aload_n 0, 1) := by decide +kernel
theorem dX4_item_36 : decode cX4_item 36 = .ok (.invokevirtual 126, 3) := by decide +kernel
theorem dX4_item_39 : decode cX4_item 39 = .ok (.aload_n 0, 1) := by decide +kernel
theorem dX4_item_40 : decode cX4_item 40 = .ok (.iload_n 1, 1) := by decide +kernel
theorem dX4_item_41 : decode cX4_item 41 = .ok (.iload_n 2, 1) := by decide +kernel
theorem dX4_item_42 : decode cX4_item 42 = .ok (.invokevirtual 172, 3) := by decide +kernel
theorem dX4_item_45 : decode cX4_item 45 = .ok (.ireturn, 1) := by decide +kernel
set_option maxRecDepth 20000 in
theorem ggX4_isCell_X4_isIn : GoodIn wsX4_isCell wsX4_isIn := goodIn_r _ [4] (by decide +kernel) (by decide +kernel)
set_option maxRecDepth 20000 in
theorem gX4_isCell_X4_isIn : GoodIn wsX4_isCell (va_wsS RX4 41 yX4_isIn wsX4_isIn) := goodIn_app (goodIn_of _ (by decide +kernel)) ggX4_isCell_X4_isIn
theorem dX4_isCell_0 : decode cX4_isCell 0 = .ok (.iload_n 0, 1) := by decide +kernel
theorem dX4_isCell_1 : decode cX4_isCell 1 = .ok (.iconst 0, 1) := by decide +kernel
theorem dX4_isCell_2 : decode cX4_isCell 2 = .ok (.bipush 11, 2) := by decide +kernel
theorem dX4_isCell_4 : decode cX4_isCell 4 = .ok (.invokestatic 41, 3) := by decide +kernel
theorem dX4_isCell_7 : decode cX4_isCell 7 = .ok (.ifCond .eq 17, 3) := by decide +kernel
theorem dX4_isCell_10 : decode cX4_isCell 10 = .ok (.iload_n 1, 1) := by decide +kernel
theorem dX4_isCell_11 : decode cX4_isCell 11 = .ok (.iconst 0, 1) := by decide +kernel
theorem dX4_isCell_12 : decode cX4_isCell 12 = .ok (.bipush 9, 2) := by decide +kernel
theorem dX4_isCell_14 : decode cX4_isCell 14 = .ok (.invokestatic 41, 3) := by decide +kernel
theorem dX4_isCell_17 : decode cX4_isCell 17 = .ok (.ifCond .eq 7, 3) := by decide +kernel
theorem dX4_isCell_20 : decode cX4_isCell 20 = .ok (.iconst 1, 1) := by decide +kernel
theorem dX4_isCell_21 : decode cX4_isCell 21 = .ok (.goto 4, 3) := by decide +kernel
theorem dX4_isCell_24 : decode cX4_isCell 24 = .ok (.iconst 0, 1) := by decide +kernel
theorem dX4_isCell_25 : decode cX4_isCell 25 = .ok (.ireturn, 1) := by decide +kernel
set_option maxRecDepth 20000 in
theorem ggX4_top_X4_isCell : GoodIn wsX4_top wsX4_isCell := goodIn_r _ [10, 11, 12, 9, 13] (by decide +kernel) (by decide +kernel)
set_option maxRecDepth 20000 in
theorem gX4_top_X4_isCell : GoodIn wsX4_top (va_wsS RX4 175 yX4_isCell wsX4_isCell) := goodIn_app (goodIn_of _ (by decide +kernel)) ggX4_top_X4_isCell
set_option maxRecDepth 20000 in
theorem ggX4_top_X4_fail : GoodIn wsX4_top wsX4_fail := goodIn_r _ [17, 1, 48, 49, 50, 51, 52, 53, 54, 55, 56, 57, 58, 59, 60, 61] (by decide +kernel) (by decide +kernel)
set_option maxRecDepth 20000 in
theorem gX4_top_X4_fail : GoodIn wsX4_top (wsV RX4 45 RX4 yX4_fail wsX4_fail) := goodIn_app (goodIn_of _ (by decide +kernel)) ggX4_top_X4_fail
set_option maxRecDepth 20000 in
theorem ggX4_top_X4_isHere : GoodIn wsX4_top wsX4_isHere := goodIn_r _ [21, 22, 48, 49, 50, 51, 52, 53, 54, 55, 56, 57, 58, 59, 60, 61] (by decide +kernel) (by decide +kernel)
set_option maxRecDepth 20000 in
theorem gX4_top_X4_isHere : GoodIn wsX4_top (wsV RX4 62 RX4 yX4_isHere wsX4_isHere) := goodIn_app (goodIn_of _ (by decide +kernel)) ggX4_top_X4_isHere
theorem dX4_top_0 : decode cX4_top 0 = .ok (.aload_n 0, 1) := by decide +kernel
theorem dX4_top_1 : decode cX4_top 1 = .ok (.iconst 0, 1) := by decide +kernel
theorem dX4_top_2 : decode cX4_top 2 = .ok (.putfield 35, 3) := by decide +kernel
theorem dX4_top_5 : decode cX4_top 5 = .ok (.iload_n 1, 1) := by decide +kernel
theorem dX4_top_6 : decode cX4_top 6 = .ok (.iload_n 2, 1) := by decide +kernel
theorem dX4_top_7 : decode cX4_top 7 = .ok (.invokestatic 175, 3) := by decide +kernel
theorem dX4_top_10 : decode cX4_top 10 = .ok (.ifCond .ne 9, 3) := by decide +kernel
theorem dX4_top_13 : decode cX4_top 13 = .ok (.aload_n 0, 1) := by decide +kernel
theorem dX4_top_14 : decode cX4_top 14 = .ok (.iconst 1, 1) := by decide +kernel
theorem dX4_top_15 : decode cX4_top 15 = .ok (.invokevirtual 45, 3) := by decide +kernel
theorem dX4_top_18 : decode cX4_top 18 = .ok (.ireturn, 1) := by decide +kernel
theorem dX4_top_19 : decode cX4_top 19 = .ok (.iconst 0, 1) := by decide +kernel
theorem dX4_top_20 : decode cX4_top 20 = .ok (.istore_n 3, 1) := by decide +kernel
theorem dX4_top_21 : decode cX4_top 21 = .ok (.iconst 0, 1) := by decide +kernel
theorem dX4_top_22 : decode cX4_top 22 = .ok (.istore 4, 2) := by decide +kernel
theorem dX4_top_24 : decode cX4_top 24 = .ok (.iload 4, 2) := by decide +kernel
theorem dX4_top_26 : decode cX4_top 26 = .ok (.aload_n 0, 1) := by decide +kernel
theorem dX4_top_27 : decode cX4_top 27 = .ok (.getfield 59, 3) := by decide +kernel
theorem dX4_top_30 : decode cX4_top 30 = .ok (.if_icmp .ge 40, 3) := by decide +kernel
theorem dX4_top_33 : decode cX4_top 33 = .ok (.aload_n 0, 1) := by decide +kernel
theorem dX4_top_34 : decode cX4_top 34 = .ok (.iload 4, 2) := by decide +kernel
theorem dX4_top_36 : decode cX4_top 36 = .ok (.invokevirtual 62, 3) := by decide +kernel
theorem dX4_top_39 : decode cX4_top 39 = .ok (.ifCond .eq 25, 3) := by decide +kernel
theorem dX4_top_42 : decode cX4_top 42 = .ok (.aload_n 0, 1) := by decide +kernel
theorem dX4_top_43 : decode cX4_top 43 = .ok (.iload 4, 2) := by decide +kernel
theorem dX4_top_45 : decode cX4_top 45 = .ok (.iload_n 1, 1) := by decide +kernel
theorem dX4_top_46 : decode cX4_top 46 = .ok (.iload_n 2, 1) := by decide +kernel
theorem dX4_top_47 : decode cX4_top 47 = .ok (.invokevirtual 114, 3) := by decide +kernel
theorem dX4_top_50 : decode cX4_top 50 = .ok (.ifCond .eq 14, 3) := by decide +kernel
theorem dX4_top_53 : decode cX4_top 53 = .ok (.iload_n 3, 1) := by decide +kernel
theorem dX4_top_54 : decode cX4_top 54 = .ok (.aload_n 0, 1) := by decide +kernel
theorem dX4_top_55 : decode cX4_top 55 = .ok (.iload 4, 2) := by decide +kernel
theorem dX4_top_57 : decode cX4_top 57 = .ok (.invokevirtual 101, 3) := by decide +kernel
theorem dX4_top_60 : decode cX4_top 60 = .ok (.invokestatic 94, 3) := by decide +kernel
theorem dX4_top_63 : decode cX4_top 63 = .ok (.istore_n 3, 1) := by decide +kernel
theorem dX4_top_64 : decode cX4_top 64 = .ok (.iinc 4 1, 3) := by decide +kernel
theorem dX4_top_67 : decode cX4_top 67 = .ok (.goto (-43), 3) := by decide +kernel
theorem dX4_top_70 : decode cX4_top 70 = .ok (.iload_n 3, 1) := by decide +kernel
theorem dX4_top_71 : decode cX4_top 71 = .ok (.ireturn, 1) := by decide +kernel
set_option maxRecDepth 20000 in
theorem ggX4_at_X4_isCell : GoodIn wsX4_at wsX4_isCell := goodIn_r _ [6, 7, 8, 5, 9] (by decide +kernel) (by decide +kernel)
set_option maxRecDepth 20000 in
theorem gX4_at_X4_isCell : GoodIn wsX4_at (va_wsS RX4 175 yX4_isCell wsX4_isCell) := goodIn_app (goodIn_of _ (by decide +kernel)) ggX4_at_X4_isCell
set_option maxRecDepth 20000 in
theorem ggX4_at_X4_isIn : GoodIn wsX4_at wsX4_isIn := goodIn_r _ [9] (by decide +kernel) (by decide +kernel)
set_option maxRecDepth 20000 in
theorem gX4_at_X4_isIn : GoodIn wsX4_at (va_wsS RX4 41 yX4_isIn wsX4_isIn) := goodIn_app (goodIn_of _ (by decide +kernel)) ggX4_at_X4_isIn
set_option maxRecDepth 20000 in
theorem ggX4_at_X4_fail : GoodIn wsX4_at wsX4_fail := goodIn_r _ [13, 1, 44, 45, 46, 47, 48, 49, 50, 51, 52, 53, 54, 55, 56, 57] (by decide +kernel) (by decide +kernel)
set_option maxRecDepth 20000 in
theorem gX4_at_X4_fail : GoodIn wsX4_at (wsV RX4 45 RX4 yX4_fail wsX4_fail) := goodIn_app (goodIn_of _ (by decide +kernel)) ggX4_at_X4_fail
set_option maxRecDepth 20000 in
theorem ggX4_at_X4_isHere : GoodIn wsX4_at wsX4_isHere := goodIn_r _ [17, 18, 44, 45, 46, 47, 48, 49, 50, 51, 52, 53, 54, 55, 56, 57] (by decide +kernel) (by decide +kernel)
set_option maxRecDepth 20000 in
theorem gX4_at_X4_isHere : GoodIn wsX4_at (wsV RX4 62 RX4 yX4_isHere wsX4_isHere) := goodIn_app (goodIn_of _ (by decide +kernel)) ggX4_at_X4_isHere
theorem dX4_at_0 : decode cX4_at 0 = .ok (.aload_n 0, 1) := by decide +kernel
theorem dX4_at_1 : decode cX4_at 1 = .ok (.iconst 0, 1) := by decide +kernel
theorem dX4_at_2 : decode cX4_at 2 = .ok (.putfield 35, 3) := by decide +kernel
theorem dX4_at_5 : decode cX4_at 5 = .ok (.iload_n 1, 1) := by decide +kernel
theorem dX4_at_6 : decode cX4_at 6 = .ok (.iload_n 2, 1) := by decide +kernel
theorem dX4_at_7 : decode cX4_at 7 = .ok (.invokestatic 175, 3) := by decide +kernel
theorem dX4_at_10 : decode cX4_at 10 = .ok (.ifCond .eq 13, 3) := by decide +kernel
theorem dX4_at_13 : decode cX4_at 13 = .ok (.iload_n 3, 1) := by decide +kernel
theorem dX4_at_14 : decode cX4_at 14 = .ok (.iconst 0, 1) := by decide +kernel
theorem dX4_at_15 : decode cX4_at 15 = .ok (.bipush 39, 2) := by decide +kernel
theorem dX4_at_17 : decode cX4_at 17 = .ok (.invokestatic 41, 3) := by decide +kernel
theorem dX4_at_20 : decode cX4_at 20 = .ok (.ifCond .ne 9, 3) := by decide +kernel
theorem dX4_at_23 : decode cX4_at 23 = .ok (.aload_n 0, 1) := by decide +kernel
theorem dX4_at_24 : decode cX4_at 24 = .ok (.iconst 1, 1) := by decide +kernel
theorem dX4_at_25 : decode cX4_at 25 = .ok (.invokevirtual 45, 3) := by decide +kernel
theorem dX4_at_28 : decode cX4_at 28 = .ok (.ireturn, 1) := by decide +kernel
theorem dX4_at_29 : decode cX4_at 29 = .ok (.iconst 0, 1) := by decide +kernel
theorem dX4_at_30 : decode cX4_at 30 = .ok (.istore 4, 2) := by decide +kernel
theorem dX4_at_32 : decode cX4_at 32 = .ok (.iload 4, 2) := by decide +kernel
theorem dX4_at_34 : decode cX4_at 34 = .ok (.aload_n 0, 1) := by decide +kernel
theorem dX4_at_35 : decode cX4_at 35 = .ok (.getfield 59, 3) := by decide +kernel
theorem dX4_at_38 : decode cX4_at 38 = .ok (.if_icmp .ge 54, 3) := by decide +kernel
theorem dX4_at_41 : decode cX4_at 41 = .ok (.aload_n 0, 1) := by decide +kernel
theorem dX4_at_42 : decode cX4_at 42 = .ok (.iload 4, 2) := by decide +kernel
theorem dX4_at_44 : decode cX4_at 44 = .ok (.invokevirtual 62, 3) := by decide +kernel
theorem dX4_at_47 : decode cX4_at 47 = .ok (.ifCond .eq 39, 3) := by decide +kernel
theorem dX4_at_50 : decode cX4_at 50 = .ok (.aload_n 0, 1) := by decide +kernel
theorem dX4_at_51 : decode cX4_at 51 = .ok (.iload 4, 2) := by decide +kernel
theorem dX4_at_53 : decode cX4_at 53 = .ok (.iload_n 1, 1) := by decide +kernel
theorem dX4_at_54 : decode cX4_at 54 = .ok (.iload_n 2, 1) := by decide +kernel
theorem dX4_at_55 : decode cX4_at 55 = .ok (.invokevirtual 114, 3) := by decide +kernel
theorem dX4_at_58 : decode cX4_at 58 = .ok (.ifCond .eq 28, 3) := by decide +kernel
theorem dX4_at_61 : decode cX4_at 61 = .ok (.iload_n 3, 1) := by decide +kernel
theorem dX4_at_62 : decode cX4_at 62 = .ok (.aload_n 0, 1) := by decide +kernel
theorem dX4_at_63 : decode cX4_at 63 = .ok (.iload 4, 2) := by decide +kernel
theorem dX4_at_65 : decode cX4_at 65 = .ok (.iconst 3, 1) := by decide +kernel
theorem dX4_at_66 : decode cX4_at 66 = .ok (.invokevirtual 76, 3) := by decide +kernel
theorem dX4_at_69 : decode cX4_at 69 = .ok (.aload_n 0, 1) := by decide +kernel
theorem dX4_at_70 : decode cX4_at 70 = .ok (.iload 4, 2) := by decide +kernel
theorem dX4_at_72 : decode cX4_at 72 = .ok (.invokevirtual 101, 3) := by decide +kernel
theorem dX4_at_75 : decode cX4_at 75 = .ok (.iconst 1, 1) := by decide +kernel
theorem dX4_at_76 : decode cX4_at 76 = .ok (.isub, 1) := by decide +kernel
theorem dX4_at_77 : decode cX4_at 77 = .ok (.invokestatic 41, 3) := by decide +kernel
theorem dX4_at_80 : decode cX4_at 80 = .ok (.ifCond .eq 6, 3) := by decide +kernel
theorem dX4_at_83 : decode cX4_at 83 = .ok (.iload 4, 2) := by decide +kernel
theorem dX4_at_85 : decode cX4_at 85 = .ok (.ireturn, 1) := by decide +kernel
theorem dX4_at_86 : decode cX4_at 86 = .ok (.iinc 4 1, 3) := by decide +kernel
theorem dX4_at_89 : decode cX4_at 89 = .ok (.goto (-57), 3) := by decide +kernel
theorem dX4_at_92 : decode cX4_at 92 = .ok (.iconst (-1), 1) := by decide +kernel
theorem dX4_at_93 : decode cX4_at 93 = .ok (.ireturn, 1) := by decide +kernel
set_option maxRecDepth 20000 in
theorem ggX4_restsOn_X4_isItem : GoodIn wsX4_restsOn wsX4_isItem := goodIn_r _ [6, 7, 8, 9, 5, 10, 11, 12, 13, 14, 15, 60, 61, 62, 63, 64, 65, 66, 67, 68, 69, 70, 71, 72, 73] (by decide +kernel) (by decide +kernel)
set_option maxRecDepth 20000 in
theorem gX4_restsOn_X4_isItem : GoodIn wsX4_restsOn (wsV RX4 163 RX4 yX4_isItem wsX4_isItem) := goodIn_app (goodIn_of _ (by decide +kernel)) ggX4_restsOn_X4_isItem
theorem dX4_restsOn_0 : decode cX4_restsOn 0 = .ok (.aload_n 0, 1) := by decide +kernel
theorem dX4_restsOn_1 : decode cX4_restsOn 1 = .ok (.aload_n 0, 1) := by decide +kernel
theorem dX4_restsOn_2 : decode cX4_restsOn 2 = .ok (.iload_n 1, 1) := by decide +kernel
theorem dX4_restsOn_3 : decode cX4_restsOn 3 = .ok (.invokevirtual 163, 3) := by decide +kernel
theorem dX4_restsOn_6 : decode cX4_restsOn 6 = .ok (.ifCond .eq 15, 3) := by decide +kernel
theorem dX4_restsOn_9 : decode cX4_restsOn 9 = .ok (.aload_n 0, 1) := by decide +kernel
theorem dX4_restsOn_10 : decode cX4_restsOn 10 = .ok (.iload_n 2, 1) := by decide +kernel
theorem dX4_restsOn_11 : decode cX4_restsOn 11 = .ok (.invokevirtual 163, 3) := by decide +kernel
theorem dX4_restsOn_14 : decode cX4_restsOn 14 = .ok (.ifCond .eq 7, 3) := by decide +kernel
theorem dX4_restsOn_17 : decode cX4_restsOn 17 = .ok (.iconst 0, 1) := by decide +kernel
theorem dX4_restsOn_18 : decode cX4_restsOn 18 = .ok (.goto 4, 3) := by decide +kernel
theorem dX4_restsOn_21 : decode cX4_restsOn 21 = .ok (.iconst 1, 1) := by decide +kernel
theorem dX4_restsOn_22 : decode cX4_restsOn 22 = .ok (.putfield 35, 3) := by decide +kernel
theorem dX4_restsOn_25 : decode cX4_restsOn 25 = .ok (.aload_n 0, 1) := by decide +kernel
theorem dX4_restsOn_26 : decode cX4_restsOn 26 = .ok (.getfield 35, 3) := by decide +kernel
theorem dX4_restsOn_29 : decode cX4_restsOn 29 = .ok (.ifCond .ne 16, 3) := by decide +kernel
theorem dX4_restsOn_32 : decode cX4_restsOn 32 = .ok (.aload_n 0, 1) := by decide +kernel
theorem dX4_restsOn_33 : decode cX4_restsOn 33 = .ok (.iload_n 1, 1) := by decide +kernel
theorem dX4_restsOn_34 : decode cX4_restsOn 34 = .ok (.iload_n 2, 1) := by decide +kernel
theorem dX4_restsOn_35 : decode cX4_restsOn 35 = .ok (.invokevirtual 178, 3) := by decide +kernel
theorem dX4_restsOn_38 : decode cX4_restsOn 38 = .ok (.ifCond .eq 7, 3) := by decide +kernel
theorem dX4_restsOn_41 : decode cX4_restsOn 41 = .ok (.iconst 1, 1) := by decide +kernel
theorem dX4_restsOn_42 : decode cX4_restsOn 42 = .ok (.goto 4, 3) := by decide +kernel
theorem dX4_restsOn_45 : decode cX4_restsOn 45 = .ok (.iconst 0, 1) := by decide +kernel
theorem dX4_restsOn_46 : decode cX4_restsOn 46 = .ok (.ireturn, 1) := by decide +kernel
set_option maxRecDepth 20000 in
theorem ggX4_best_X4_isKind : GoodIn wsX4_best wsX4_isKind := goodIn_r _ [6, 7, 8, 9, 5, 10, 125, 126, 127, 128, 129, 130, 131, 132, 133, 134, 135, 136, 137, 138] (by decide +kernel) (by decide +kernel)
set_option maxRecDepth 20000 in
theorem gX4_best_X4_isKind : GoodIn wsX4_best (wsV RX4 152 RX4 yX4_isKind wsX4_isKind) := goodIn_app (goodIn_of _ (by decide +kernel)) ggX4_best_X4_isKind
set_option maxRecDepth 20000 in
theorem ggX4_best_X4_fail : GoodIn wsX4_best wsX4_fail := goodIn_r _ [124, 1, 125, 126, 127, 128, 129, 130, 131, 132, 133, 134, 135, 136, 137, 138] (by decide +kernel) (by decide +kernel)
set_option maxRecDepth 20000 in
theorem gX4_best_X4_fail : GoodIn wsX4_best (wsV RX4 45 RX4 yX4_fail wsX4_fail) := goodIn_app (goodIn_of _ (by decide +kernel)) ggX4_best_X4_fail
theorem dX4_best_0 : decode cX4_best 0 = .ok (.aload_n 0, 1) := by decide +kernel
theorem dX4_best_1 : decode cX4_best 1 = .ok (.iconst 0, 1) := by decide +kernel
theorem dX4_best_2 : decode cX4_best 2 = .ok (.putfield 35, 3) := by decide +kernel
theorem dX4_best_5 : decode cX4_best 5 = .ok (.aload_n 0, 1) := by decide +kernel
theorem dX4_best_6 : decode cX4_best 6 = .ok (.iload_n 1, 1) := by decide +kernel
theorem dX4_best_7 : decode cX4_best 7 = .ok (.invokevirtual 152, 3) := by decide +kernel
theorem dX4_best_10 : decode cX4_best 10 = .ok (.ifCond .eq 11, 3) := by decide +kernel
theorem dX4_best_13 : decode cX4_best 13 = .ok (.aload_n 0, 1) := by decide +kernel
theorem dX4_best_14 : decode cX4_best 14 = .ok (.iload_n 1, 1) := by decide +kernel
theorem dX4_best_15 : decode cX4_best 15 = .ok (.invokevirtual 181, 3) := by decide +kernel
theorem dX4_best_18 : decode cX4_best 18 = .ok (.goto 8, 3) := by decide +kernel
theorem dX4_best_21 : decode cX4_best 21 = .ok (.aload_n 0, 1) := by decide +kernel
theorem dX4_best_22 : decode cX4_best 22 = .ok (.iconst 1, 1) := by decide +kernel
theorem dX4_best_23 : decode cX4_best 23 = .ok (.invokevirtual 45, 3) := by decide +kernel
theorem dX4_best_26 : decode cX4_best 26 = .ok (.ireturn, 1) := by decide +kernel
set_option maxRecDepth 20000 in
theorem ggX4_fill_X4_isKind : GoodIn wsX4_fill wsX4_isKind := goodIn_r _ [6, 7, 8, 9, 5, 10, 133, 134, 135, 136, 137, 138, 139, 140, 141, 142, 143, 144, 145, 146] (by decide +kernel) (by decide +kernel)
set_option maxRecDepth 20000 in
theorem gX4_fill_X4_isKind : GoodIn wsX4_fill (wsV RX4 152 RX4 yX4_isKind wsX4_isKind) := goodIn_app (goodIn_of _ (by decide +kernel)) ggX4_fill_X4_isKind
set_option maxRecDepth 20000 in
theorem ggX4_fill_X4_fail : GoodIn wsX4_fill wsX4_fail := goodIn_r _ [14, 1, 133, 134, 135, 136, 137, 138, 139, 140, 141, 142, 143, 144, 145, 146] (by decide +kernel) (by decide +kernel)
set_option maxRecDepth 20000 in
theorem gX4_fill_X4_fail : GoodIn wsX4_fill (wsV RX4 45 RX4 yX4_fail wsX4_fail) := goodIn_app (goodIn_of _ (by decide +kernel)) ggX4_fill_X4_fail
set_option maxRecDepth 20000 in
theorem ggX4_fill_X4_isIn : GoodIn wsX4_fill wsX4_isIn := goodIn_r _ [10] (by decide +kernel) (by decide +kernel)
set_option maxRecDepth 20000 in
theorem gX4_fill_X4_isIn : GoodIn wsX4_fill (va_wsS RX4 41 yX4_isIn wsX4_isIn) := goodIn_app (goodIn_of _ (by decide +kernel)) ggX4_fill_X4_isIn
theorem dX4_fill_0 : decode cX4_fill 0 = .ok (.aload_n 0, 1) := by decide +kernel
theorem dX4_fill_1 : decode cX4_fill 1 = .ok (.iconst 0, 1) := by decide +kernel
theorem dX4_fill_2 : decode cX4_fill 2 = .ok (.putfield 35, 3) := by decide +kernel
theorem dX4_fill_5 : decode cX4_fill 5 = .ok (.aload_n 0, 1) := by decide +kernel
theorem dX4_fill_6 : decode cX4_fill 6 = .ok (.iload_n 1, 1) := by decide +kernel
theorem dX4_fill_7 : decode cX4_fill 7 = .ok (.invokevirtual 152, 3) := by decide +kernel
theorem dX4_fill_10 : decode cX4_fill 10 = .ok (.ifCond .ne 9, 3) := by decide +kernel
theorem dX4_fill_13 : decode cX4_fill 13 = .ok (.aload_n 0, 1) := by decide +kernel
theorem dX4_fill_14 : decode cX4_fill 14 = .ok (.iconst 1, 1) := by decide +kernel
theorem dX4_fill_15 : decode cX4_fill 15 = .ok (.invokevirtual 45, 3) := by decide +kernel
theorem dX4_fill_18 : decode cX4_fill 18 = .ok (.ireturn, 1) := by decide +kernel
theorem dX4_fill_19 : decode cX4_fill 19 = .ok (.iload_n 2, 1) := by decide +kernel
theorem dX4_fill_20 : decode cX4_fill 20 = .ok (.iconst 1, 1) := by decide +kernel
theorem dX4_fill_21 : decode cX4_fill 21 = .ok (.bipush 60, 2) := by decide +kernel
theorem dX4_fill_23 : decode cX4_fill 23 = .ok (.invokestatic 41, 3) := by decide +kernel
theorem dX4_fill_26 : decode cX4_fill 26 = .ok (.ifCond .ne 9, 3) := by decide +kernel
theorem dX4_fill_29 : decode cX4_fill 29 = .ok (.aload_n 0, 1) := by decide +kernel
theorem dX4_fill_30 : decode cX4_fill 30 = .ok (.iconst 2, 1) := by decide +kernel
theorem dX4_fill_31 : decode cX4_fill 31 = .ok (.invokevirtual 45, 3) := by decide +kernel
theorem dX4_fill_34 : decode cX4_fill 34 = .ok (.ireturn, 1) := by decide +kernel
theorem dX4_fill_35 : decode cX4_fill 35 = .ok (.iconst 0, 1) := by decide +kernel
theorem dX4_fill_36 : decode cX4_fill 36 = .ok (.istore_n 3, 1) := by decide +kernel
theorem dX4_fill_37 : decode cX4_fill 37 = .ok (.iload_n 3, 1) := by decide +kernel
theorem dX4_fill_38 : decode cX4_fill 38 = .ok (.iload_n 2, 1) := by decide +kernel
theorem dX4_fill_39 : decode cX4_fill 39 = .ok (.if_icmp .ge 17, 3) := by decide +kernel
theorem dX4_fill_42 : decode cX4_fill 42 = .ok (.aload_n 0, 1) := by decide +kernel
theorem dX4_fill_43 : decode cX4_fill 43 = .ok (.iload_n 1, 1) := by decide +kernel
theorem dX4_fill_44 : decode cX4_fill 44 = .ok (.invokevirtual 184, 3) := by decide +kernel
theorem dX4_fill_47 : decode cX4_fill 47 = .ok (.ifCond .eq 9, 3) := by decide +kernel
theorem dX4_fill_50 : decode cX4_fill 50 = .ok (.iinc 3 1, 3) := by decide +kernel
theorem dX4_fill_53 : decode cX4_fill 53 = .ok (.goto (-16), 3) := by decide +kernel
theorem dX4_fill_56 : decode cX4_fill 56 = .ok (.iload_n 3, 1) := by decide +kernel
theorem dX4_fill_57 : decode cX4_fill 57 = .ok (.ireturn, 1) := by decide +kernel
set_option maxRecDepth 20000 in
theorem ggX4_addLine_X4_isKind : GoodIn wsX4_addLine wsX4_isKind := goodIn_r _ [9, 10, 11, 12, 8, 13, 18, 19, 20, 21, 22, 23, 24, 25, 26, 27, 28, 29, 30, 31] (by decide +kernel) (by decide +kernel)
set_option maxRecDepth 20000 in
theorem gX4_addLine_X4_isKind : GoodIn wsX4_addLine (wsV RX4 152 RX4 yX4_isKind wsX4_isKind) := goodIn_app (goodIn_of _ (by decide +kernel)) ggX4_addLine_X4_isKind
set_option maxRecDepth 20000 in
theorem ggX4_addLine_X4_fail : GoodIn wsX4_addLine wsX4_fail := goodIn_r _ [17, 1, 18, 19, 20, 21, 22, 23, 24, 25, 26, 27, 28, 29, 30, 31] (by decide +kernel) (by decide +kernel)
set_option maxRecDepth 20000 in
theorem gX4_addLine_X4_fail : GoodIn wsX4_addLine (wsV RX4 45 RX4 yX4_fail wsX4_fail) := goodIn_app (goodIn_of _ (by decide +kernel)) ggX4_addLine_X4_fail
set_option maxRecDepth 20000 in
theorem ggX4_addLine_X4_isIn : GoodIn wsX4_addLine wsX4_isIn := goodIn_r _ [13] (by decide +kernel) (by decide +kernel)
set_option maxRecDepth 20000 in
theorem gX4_addLine_X4_isIn : GoodIn wsX4_addLine (va_wsS RX4 41 yX4_isIn wsX4_isIn) := goodIn_app (goodIn_of _ (by decide +kernel)) ggX4_addLine_X4_isIn
theorem dX4_addLine_0 : decode cX4_addLine 0 = .ok (.aload_n 0, 1) := by decide +kernel
theorem dX4_addLine_1 : decode cX4_addLine 1 = .ok (.iconst 0, 1) := by decide +kernel
theorem dX4_addLine_2 : decode cX4_addLine 2 = .ok (.putfield 35, 3) := by decide +kernel
theorem dX4_addLine_5 : decode cX4_addLine 5 = .ok (.aload_n 0, 1) := by decide +kernel
theorem dX4_addLine_6 : decode cX4_addLine 6 = .ok (.iload_n 1, 1) := by decide +kernel
theorem dX4_addLine_7 : decode cX4_addLine 7 = .ok (.invokevirtual 152, 3) := by decide +kernel
theorem dX4_addLine_10 : decode cX4_addLine 10 = .ok (.ifCond .ne 9, 3) := by decide +kernel
theorem dX4_addLine_13 : decode cX4_addLine 13 = .ok (.aload_n 0, 1) := by decide +kernel
theorem dX4_addLine_14 : decode cX4_addLine 14 = .ok (.iconst 1, 1) := by decide +kernel
theorem dX4_addLine_15 : decode cX4_addLine 15 = .ok (.invokevirtual 45, 3) := by decide +kernel
theorem dX4_addLine_18 : decode cX4_addLine 18 = .ok (.ireturn, 1) := by decide +kernel
theorem dX4_addLine_19 : decode cX4_addLine 19 = .ok (.iload_n 2, 1) := by decide +kernel
theorem dX4_addLine_20 : decode cX4_addLine 20 = .ok (.iconst 1, 1) := by decide +kernel
theorem dX4_addLine_21 : decode cX4_addLine 21 = .ok (.bipush 20, 2) := by decide +kernel
theorem dX4_addLine_23 : decode cX4_addLine 23 = .ok (.invokestatic 41, 3) := by decide +kernel
theorem dX4_addLine_26 : decode cX4_addLine 26 = .ok (.ifCond .ne 9, 3) := by decide +kernel
theorem dX4_addLine_29 : decode cX4_addLine 29 = .ok (.aload_n 0, 1) := by decide +kernel
theorem dX4_addLine_30 : decode cX4_addLine 30 = .ok (.iconst 2, 1) := by decide +kernel
theorem dX4_addLine_31 : decode cX4_addLine 31 = .ok (.invokevirtual 45, 3) := by decide +kernel
theorem dX4_addLine_34 : decode cX4_addLine 34 = .ok (.ireturn, 1) := by decide +kernel
theorem dX4_addLine_35 : decode cX4_addLine 35 = .ok (.aload_n 0, 1) := by decide +kernel
theorem dX4_addLine_36 : decode cX4_addLine 36 = .ok (.getfield 70, 3) := by decide +kernel
theorem dX4_addLine_39 : decode cX4_addLine 39 = .ok (.bipush 20, 2) := by decide +kernel
theorem dX4_addLine_41 : decode cX4_addLine 41 = .ok (.if_icmp .ne 9, 3) := by decide +kernel
theorem dX4_addLine_44 : decode cX4_addLine 44 = .ok (.aload_n 0, 1) := by decide +kernel
theorem dX4_addLine_45 : decode cX4_addLine 45 = .ok (.iconst 3, 1) := by decide +kernel
theorem dX4_addLine_46 : decode cX4_addLine 46 = .ok (.invokevirtual 45, 3) := by decide +kernel
theorem dX4_addLine_49 : decode cX4_addLine 49 = .ok (.ireturn, 1) := by decide +kernel
theorem dX4_addLine_50 : decode cX4_addLine 50 = .ok (.aload_n 0, 1) := by decide +kernel
theorem dX4_addLine_51 : decode cX4_addLine 51 = .ok (.getfield 29, 3) := by decide +kernel
theorem dX4_addLine_54 : decode cX4_addLine 54 = .ok (.aload_n 0, 1) := by decide +kernel
theorem dX4_addLine_55 : decode cX4_addLine 55 = .ok (.getfield 70, 3) := by decide +kernel
theorem dX4_addLine_58 : decode cX4_addLine 58 = .ok (.iload_n 1, 1) := by decide +kernel
theorem dX4_addLine_59 : decode cX4_addLine 59 = .ok (.iastore, 1) := by decide +kernel
theorem dX4_addLine_60 : decode cX4_addLine 60 = .ok (.aload_n 0, 1) := by decide +kernel
theorem dX4_addLine_61 : decode cX4_addLine 61 = .ok (.getfield 32, 3) := by decide +kernel
theorem dX4_addLine_64 : decode cX4_addLine 64 = .ok (.aload_n 0, 1) := by decide +kernel
theorem dX4_addLine_65 : decode cX4_addLine 65 = .ok (.getfield 70, 3) := by decide +kernel
theorem dX4_addLine_68 : decode cX4_addLine 68 = .ok (.iload_n 2, 1) := by decide +kernel
theorem dX4_addLine_69 : decode cX4_addLine 69 = .ok (.iastore, 1) := by decide +kernel
theorem dX4_addLine_70 : decode cX4_addLine 70 = .ok (.aload_n 0, 1) := by decide +kernel
theorem dX4_addLine_71 : decode cX4_addLine 71 = .ok (.dup, 1) := by decide +kernel
theorem dX4_addLine_72 : decode cX4_addLine 72 = .ok (.getfield 70, 3) := by decide +kernel
theorem dX4_addLine_75 : decode cX4_addLine 75 = .ok (.iconst 1, 1) := by decide +kernel
theorem dX4_addLine_76 : decode cX4_addLine 76 = .ok (.iadd, 1) := by decide +kernel
theorem dX4_addLine_77 : decode cX4_addLine 77 = .ok (.putfield 70, 3) := by decide +kernel
theorem dX4_addLine_80 : decode cX4_addLine 80 = .ok (.aload_n 0, 1) := by decide +kernel
theorem dX4_addLine_81 : decode cX4_addLine 81 = .ok (.getfield 70, 3) := by decide +kernel
theorem dX4_addLine_84 : decode cX4_addLine 84 = .ok (.iconst 1, 1) := by decide +kernel
theorem dX4_addLine_85 : decode cX4_addLine 85 = .ok (.isub, 1) := by decide +kernel
theorem dX4_addLine_86 : decode cX4_addLine 86 = .ok (.ireturn, 1) := by decide +kernel
theorem dX4_stack_0 : decode cX4_stack 0 = .ok (.aload_n 0, 1) := by decide +kernel
theorem dX4_stack_1 : decode cX4_stack 1 = .ok (.iconst 0, 1) := by decide +kernel
theorem dX4_stack_2 : decode cX4_stack 2 = .ok (.putfield 35, 3) := by decide +kernel
theorem dX4_stack_5 : decode cX4_stack 5 = .ok (.bipush 20, 2) := by decide +kernel
theorem dX4_stack_7 : decode cX4_stack 7 = .ok (.newarray .boolean, 2) := by decide +kernel
theorem dX4_stack_9 : decode cX4_stack 9 = .ok (.astore_n 1, 1) := by decide +kernel
theorem dX4_stack_10 : decode cX4_stack 10 = .ok (.iconst 0, 1) := by decide +kernel
theorem dX4_stack_11 : decode cX4_stack 11 = .ok (.istore_n 2, 1) := by decide +kernel
theorem dX4_stack_12 : decode cX4_stack 12 = .ok (.iconst 0, 1) := by decide +kernel
theorem dX4_stack_13 : decode cX4_stack 13 = .ok (.istore_n 3, 1) := by decide +kernel
theorem dX4_stack_14 : decode cX4_stack 14 = .ok (.iload_n 3, 1) := by decide +kernel
theorem dX4_stack_15 : decode cX4_stack 15 = .ok (.iconst (-1), 1) := by decide +kernel
theorem dX4_stack_16 : decode cX4_stack 16 = .ok (.if_icmp .eq 102, 3) := by decide +kernel
theorem dX4_stack_19 : decode cX4_stack 19 = .ok (.iconst (-1), 1) := by decide +kernel
theorem dX4_stack_20 : decode cX4_stack 20 = .ok (.istore_n 3, 1) := by decide +kernel
theorem dX4_stack_21 : decode cX4_stack 21 = .ok (.iconst 0, 1) := by decide +kernel
theorem dX4_stack_22 : decode cX4_stack 22 = .ok (.istore 4, 2) := by decide +kernel
theorem dX4_stack_24 : decode cX4_stack 24 = .ok (.iload 4, 2) := by decide +kernel
theorem dX4_stack_26 : decode cX4_stack 26 = .ok (.aload_n 0, 1) := by decide +kernel
theorem dX4_stack_27 : decode cX4_stack 27 = .ok (.getfield 70, 3) := by decide +kernel
theorem dX4_stack_30 : decode cX4_stack 30 = .ok (.if_icmp .ge 44, 3) := by decide +kernel
theorem dX4_stack_33 : decode cX4_stack 33 = .ok (.aload_n 1, 1) := by decide +kernel
theorem dX4_stack_34 : decode cX4_stack 34 = .ok (.iload 4, 2) := by decide +kernel
theorem dX4_stack_36 : decode cX4_stack 36 = .ok (.baload, 1) := by decide +kernel
theorem dX4_stack_37 : decode cX4_stack 37 = .ok (.ifCond .ne 31, 3) := by decide +kernel
theorem dX4_stack_40 : decode cX4_stack 40 = .ok (.aload_n 0, 1) := by decide +kernel
theorem dX4_stack_41 : decode cX4_stack 41 = .ok (.getfield 32, 3) := by decide +kernel
theorem dX4_stack_44 : decode cX4_stack 44 = .ok (.iload 4, 2) := by decide +kernel
theorem dX4_stack_46 : decode cX4_stack 46 = .ok (.iaload, 1) := by decide +kernel
theorem dX4_stack_47 : decode cX4_stack 47 = .ok (.ifCond .le 21, 3) := by decide +kernel
theorem dX4_stack_50 : decode cX4_stack 50 = .ok (.iload_n 3, 1) := by decide +kernel
theorem dX4_stack_51 : decode cX4_stack 51 = .ok (.iconst (-1), 1) := by decide +kernel
theorem dX4_stack_52 : decode cX4_stack 52 = .ok (.if_icmp .eq 13, 3) := by decide +kernel
theorem dX4_stack_55 : decode cX4_stack 55 = .ok (.aload_n 0, 1) := by decide +kernel
theorem dX4_stack_56 : decode cX4_stack 56 = .ok (.iload 4, 2) := by decide +kernel
theorem dX4_stack_58 : decode cX4_stack 58 = .ok (.iload_n 3, 1) := by decide +kernel
theorem dX4_stack_59 : decode cX4_stack 59 = .ok (.invokevirtual 187, 3) := by decide +kernel
theorem dX4_stack_62 : decode cX4_stack 62 = .ok (.ifCond .eq 6, 3) := by decide +kernel
theorem dX4_stack_65 : decode cX4_stack 65 = .ok (.iload 4, 2) := by decide +kernel
theorem dX4_stack_67 : decode cX4_stack 67 = .ok (.istore_n 3, 1) := by decide +kernel
theorem dX4_stack_68 : decode cX4_stack 68 = .ok (.iinc 4 1, 3) := by decide +kernel
theorem dX4_stack_71 : decode cX4_stack 71 = .ok (.goto (-47), 3) := by decide +kernel
theorem dX4_stack_74 : decode cX4_stack 74 = .ok (.iload_n 3, 1) := by decide +kernel
theorem dX4_stack_75 : decode cX4_stack 75 = .ok (.iconst (-1), 1) := by decide +kernel
theorem dX4_stack_76 : decode cX4_stack 76 = .ok (.if_icmp .ne 6, 3) := by decide +kernel
theorem dX4_stack_79 : decode cX4_stack 79 = .ok (.goto (-65), 3) := by decide +kernel
theorem dX4_stack_82 : decode cX4_stack 82 = .ok (.aload_n 0, 1) := by decide +kernel
theorem dX4_stack_83 : decode cX4_stack 83 = .ok (.aload_n 0, 1) := by decide +kernel
theorem dX4_stack_84 : decode cX4_stack 84 = .ok (.getfield 29, 3) := by decide +kernel
theorem dX4_stack_87 : decode cX4_stack 87 = .ok (.iload_n 3, 1) := by decide +kernel
theorem dX4_stack_88 : decode cX4_stack 88 = .ok (.iaload, 1) := by decide +kernel
theorem dX4_stack_89 : decode cX4_stack 89 = .ok (.invokevirtual 184, 3) := by decide +kernel
theorem dX4_stack_92 : decode cX4_stack 92 = .ok (.ifCond .eq 19, 3) := by decide +kernel
theorem dX4_stack_95 : decode cX4_stack 95 = .ok (.aload_n 0, 1) := by decide +kernel
theorem dX4_stack_96 : decode cX4_stack 96 = .ok (.getfield 32, 3) := by decide +kernel
theorem dX4_stack_99 : decode cX4_stack 99 = .ok (.iload_n 3, 1) := by decide +kernel
theorem dX4_stack_100 : decode cX4_stack 100 = .ok (.dup2, 1) := by decide +kernel
theorem dX4_stack_101 : decode cX4_stack 101 = .ok (.iaload, 1) := by decide +kernel
theorem dX4_stack_102 : decode cX4_stack 102 = .ok (.iconst 1, 1) := by decide +kernel
theorem dX4_stack_103 : decode cX4_stack 103 = .ok (.isub, 1) := by decide +kernel
theorem dX4_stack_104 : decode cX4_stack 104 = .ok (.iastore, 1) := by decide +kernel
theorem dX4_stack_105 : decode cX4_stack 105 = .ok (.iinc 2 1, 3) := by decide +kernel
theorem dX4_stack_108 : decode cX4_stack 108 = .ok (.goto (-94), 3) := by decide +kernel
theorem dX4_stack_111 : decode cX4_stack 111 = .ok (.aload_n 1, 1) := by decide +kernel
theorem dX4_stack_112 : decode cX4_stack 112 = .ok (.iload_n 3, 1) := by decide +kernel
theorem dX4_stack_113 : decode cX4_stack 113 = .ok (.iconst 1, 1) := by decide +kernel
theorem dX4_stack_114 : decode cX4_stack 114 = .ok (.bastore, 1) := by decide +kernel
theorem dX4_stack_115 : decode cX4_stack 115 = .ok (.goto (-101), 3) := by decide +kernel
theorem dX4_stack_118 : decode cX4_stack 118 = .ok (.iload_n 2, 1) := by decide +kernel
theorem dX4_stack_119 : decode cX4_stack 119 = .ok (.ireturn, 1) := by decide +kernel
set_option maxRecDepth 20000 in
theorem ggX4_line_X4_isIn : GoodIn wsX4_line wsX4_isIn := goodIn_r _ [8] (by decide +kernel) (by decide +kernel)
set_option maxRecDepth 20000 in
theorem gX4_line_X4_isIn : GoodIn wsX4_line (va_wsS RX4 41 yX4_isIn wsX4_isIn) := goodIn_app (goodIn_of _ (by decide +kernel)) ggX4_line_X4_isIn
set_option maxRecDepth 20000 in
theorem ggX4_line_X4_fail : GoodIn wsX4_line wsX4_fail := goodIn_r _ [12, 1, 13, 14, 15, 16, 17, 18, 19, 20, 21, 22, 23, 24, 25, 26] (by decide +kernel) (by decide +kernel)
set_option maxRecDepth 20000 in
theorem gX4_line_X4_fail : GoodIn wsX4_line (wsV RX4 45 RX4 yX4_fail wsX4_fail) := goodIn_app (goodIn_of _ (by decide +kernel)) ggX4_line_X4_fail
theorem dX4_line_0 : decode cX4_line 0 = .ok (.aload_n 0, 1) := by decide +kernel
theorem dX4_line_1 : decode cX4_line 1 = .ok (.iconst 0, 1) := by decide +kernel
theorem dX4_line_2 : decode cX4_line 2 = .ok (.putfield 35, 3) := by decide +kernel
theorem dX4_line_5 : decode cX4_line 5 = .ok (.iload_n 1, 1) := by decide +kernel
theorem dX4_line_6 : decode cX4_line 6 = .ok (.iconst 0, 1) := by decide +kernel
theorem dX4_line_7 : decode cX4_line 7 = .ok (.aload_n 0, 1) := by decide +kernel
theorem dX4_line_8 : decode cX4_line 8 = .ok (.getfield 70, 3) := by decide +kernel
theorem dX4_line_11 : decode cX4_line 11 = .ok (.iconst 1, 1) := by decide +kernel
theorem dX4_line_12 : decode cX4_line 12 = .ok (.isub, 1) := by decide +kernel
theorem dX4_line_13 : decode cX4_line 13 = .ok (.invokestatic 41, 3) := by decide +kernel
theorem dX4_line_16 : decode cX4_line 16 = .ok (.ifCond .ne 9, 3) := by decide +kernel
theorem dX4_line_19 : decode cX4_line 19 = .ok (.aload_n 0, 1) := by decide +kernel
theorem dX4_line_20 : decode cX4_line 20 = .ok (.iconst 1, 1) := by decide +kernel
theorem dX4_line_21 : decode cX4_line 21 = .ok (.invokevirtual 45, 3) := by decide +kernel
theorem dX4_line_24 : decode cX4_line 24 = .ok (.ireturn, 1) := by decide +kernel
theorem dX4_line_25 : decode cX4_line 25 = .ok (.iload_n 2, 1) := by decide +kernel
theorem dX4_line_26 : decode cX4_line 26 = .ok (.ifCond .eq 12, 3) := by decide +kernel
theorem dX4_line_29 : decode cX4_line 29 = .ok (.aload_n 0, 1) := by decide +kernel
theorem dX4_line_30 : decode cX4_line 30 = .ok (.getfield 32, 3) := by decide +kernel
theorem dX4_line_33 : decode cX4_line 33 = .ok (.iload_n 1, 1) := by decide +kernel
theorem dX4_line_34 : decode cX4_line 34 = .ok (.iaload, 1) := by decide +kernel
theorem dX4_line_35 : decode cX4_line 35 = .ok (.goto 9, 3) := by decide +kernel
theorem dX4_line_38 : decode cX4_line 38 = .ok (.aload_n 0, 1) := by decide +kernel
theorem dX4_line_39 : decode cX4_line 39 = .ok (.getfield 29, 3) := by decide +kernel
theorem dX4_line_42 : decode cX4_line 42 = .ok (.iload_n 1, 1) := by decide +kernel
theorem dX4_line_43 : decode cX4_line 43 = .ok (.iaload, 1) := by decide +kernel
theorem dX4_line_44 : decode cX4_line 44 = .ok (.ireturn, 1) := by decide +kernel
set_option maxRecDepth 20000 in
theorem ggX4_clear_X4_present : GoodIn wsX4_clear wsX4_present := goodIn_r _ [9, 3, 10, 11, 12, 8, 13, 2, 14, 15, 16, 17, 18, 19, 20, 21, 22, 23, 24, 25, 26, 27] (by decide +kernel) (by decide +kernel)
set_option maxRecDepth 20000 in
theorem gX4_clear_X4_present : GoodIn wsX4_clear (wsV RX4 66 RX4 yX4_present wsX4_present) := goodIn_app (goodIn_of _ (by decide +kernel)) ggX4_clear_X4_present
theorem dX4_clear_0 : decode cX4_clear 0 = .ok (.aload_n 0, 1) := by decide +kernel
theorem dX4_clear_1 : decode cX4_clear 1 = .ok (.iconst 0, 1) := by decide +kernel
theorem dX4_clear_2 : decode cX4_clear 2 = .ok (.putfield 35, 3) := by decide +kernel
theorem dX4_clear_5 : decode cX4_clear 5 = .ok (.aload_n 0, 1) := by decide +kernel
theorem dX4_clear_6 : decode cX4_clear 6 = .ok (.invokevirtual 66, 3) := by decide +kernel
theorem dX4_clear_9 : decode cX4_clear 9 = .ok (.istore_n 1, 1) := by decide +kernel
theorem dX4_clear_10 : decode cX4_clear 10 = .ok (.iconst 0, 1) := by decide +kernel
theorem dX4_clear_11 : decode cX4_clear 11 = .ok (.istore_n 2, 1) := by decide +kernel
theorem dX4_clear_12 : decode cX4_clear 12 = .ok (.iload_n 2, 1) := by decide +kernel
theorem dX4_clear_13 : decode cX4_clear 13 = .ok (.bipush 60, 2) := by decide +kernel
theorem dX4_clear_15 : decode cX4_clear 15 = .ok (.if_icmp .gt 21, 3) := by decide +kernel
theorem dX4_clear_18 : decode cX4_clear 18 = .ok (.aload_n 0, 1) := by decide +kernel
theorem dX4_clear_19 : decode cX4_clear 19 = .ok (.getfield 23, 3) := by decide +kernel
theorem dX4_clear_22 : decode cX4_clear 22 = .ok (.bipush 6, 2) := by decide +kernel
theorem dX4_clear_24 : decode cX4_clear 24 = .ok (.iload_n 2, 1) := by decide +kernel
theorem dX4_clear_25 : decode cX4_clear 25 = .ok (.imul, 1) := by decide +kernel
theorem dX4_clear_26 : decode cX4_clear 26 = .ok (.iconst 5, 1) := by decide +kernel
theorem dX4_clear_27 : decode cX4_clear 27 = .ok (.iadd, 1) := by decide +kernel
theorem dX4_clear_28 : decode cX4_clear 28 = .ok (.iconst 0, 1) := by decide +kernel
theorem dX4_clear_29 : decode cX4_clear 29 = .ok (.iastore, 1) := by decide +kernel
theorem dX4_clear_30 : decode cX4_clear 30 = .ok (.iinc 2 1, 3) := by decide +kernel
theorem dX4_clear_33 : decode cX4_clear 33 = .ok (.goto (-21), 3) := by decide +kernel
theorem dX4_clear_36 : decode cX4_clear 36 = .ok (.aload_n 0, 1) := by decide +kernel
theorem dX4_clear_37 : decode cX4_clear 37 = .ok (.iconst 0, 1) := by decide +kernel
theorem dX4_clear_38 : decode cX4_clear 38 = .ok (.putfield 59, 3) := by decide +kernel
theorem dX4_clear_41 : decode cX4_clear 41 = .ok (.aload_n 0, 1) := by decide +kernel
theorem dX4_clear_42 : decode cX4_clear 42 = .ok (.iconst 0, 1) := by decide +kernel
theorem dX4_clear_43 : decode cX4_clear 43 = .ok (.putfield 70, 3) := by decide +kernel
theorem dX4_clear_46 : decode cX4_clear 46 = .ok (.iload_n 1, 1) := by decide +kernel
theorem dX4_clear_47 : decode cX4_clear 47 = .ok (.ireturn, 1) := by decide +kernel
set_option maxRecDepth 20000 in
theorem ggX4_sumOf_X4_weights : GoodIn wsX4_sumOf wsX4_weights := goodIn_r _ [11, 12, 13, 14, 10, 15, 16, 17, 18, 19, 20, 21, 22, 23, 24, 25, 26, 27, 28, 29, 68, 69, 70, 71, 72, 73, 74, 75, 76, 77, 78, 79, 80, 81] (by decide +kernel) (by decide +kernel)
set_option maxRecDepth 20000 in
theorem gX4_sumOf_X4_weights : GoodIn wsX4_sumOf (wsV RX4 146 RX4 yX4_weights wsX4_weights) := goodIn_app (goodIn_of _ (by decide +kernel)) ggX4_sumOf_X4_weights
set_option maxRecDepth 20000 in
theorem ggX4_sumOf_X4_reckonLoads : GoodIn wsX4_sumOf wsX4_reckonLoads := goodIn_r _ [33, 6, 2, 3, 4, 5, 12, 13, 14, 10, 15, 16, 21, 22, 23, 24, 17, 18, 19, 20, 25, 26, 27, 28, 29, 34, 35, 36, 37, 38, 39, 40, 41, 42, 43, 44, 45, 46, 47, 48, 49, 50, 51, 52, 53, 54, 55, 56, 57, 58, 59, 60, 61, 62, 63, 64, 65, 66, 67, 68, 69, 70, 71, 72, 73, 74, 75, 76, 77, 78, 79, 80, 81] (by decide +kernel) (by decide +kernel)
set_option maxRecDepth 20000 in
theorem gX4_sumOf_X4_reckonLoads : GoodIn wsX4_sumOf (wsV RX4 126 RX4 yX4_reckonLoads wsX4_reckonLoads) := goodIn_app (goodIn_of _ (by decide +kernel)) ggX4_sumOf_X4_reckonLoads
set_option maxRecDepth 20000 in
theorem ggX4_sumOf_X4_isHere : GoodIn wsX4_sumOf wsX4_isHere := goodIn_r _ [15, 16, 68, 69, 70, 71, 72, 73, 74, 75, 76, 77, 78, 79, 80, 81] (by decide +kernel) (by decide +kernel)
set_option maxRecDepth 20000 in
theorem gX4_sumOf_X4_isHere : GoodIn wsX4_sumOf (wsV RX4 62 RX4 yX4_isHere wsX4_isHere) := goodIn_app (goodIn_of _ (by decide +kernel)) ggX4_sumOf_X4_isHere
theorem dX4_sumOf_0 : decode cX4_sumOf 0 = .ok (.iload_n 1, 1) := by decide +kernel
theorem dX4_sumOf_1 : decode cX4_sumOf 1 = .ok (.ifCond .ne 8, 3) := by decide +kernel
theorem dX4_sumOf_4 : decode cX4_sumOf 4 = .ok (.aload_n 0, 1) := by decide +kernel
theorem dX4_sumOf_5 : decode cX4_sumOf 5 = .ok (.invokevirtual 146, 3) := by decide +kernel
theorem dX4_sumOf_8 : decode cX4_sumOf 8 = .ok (.ireturn, 1) := by decide +kernel
theorem dX4_sumOf_9 : decode cX4_sumOf 9 = .ok (.iconst 0, 1) := by decide +kernel
theorem dX4_sumOf_10 : decode cX4_sumOf 10 = .ok (.istore_n 2, 1) := by decide +kernel
theorem dX4_sumOf_11 : decode cX4_sumOf 11 = .ok (.aload_n 0, 1) := by decide +kernel
theorem dX4_sumOf_12 : decode cX4_sumOf 12 = .ok (.invokevirtual 126, 3) := by decide +kernel
theorem dX4_sumOf_15 : decode cX4_sumOf 15 = .ok (.iconst 0, 1) := by decide +kernel
theorem dX4_sumOf_16 : decode cX4_sumOf 16 = .ok (.istore_n 3, 1) := by decide +kernel
theorem dX4_sumOf_17 : decode cX4_sumOf 17 = .ok (.iload_n 3, 1) := by decide +kernel
theorem dX4_sumOf_18 : decode cX4_sumOf 18 = .ok (.aload_n 0, 1) := by decide +kernel
theorem dX4_sumOf_19 : decode cX4_sumOf 19 = .ok (.getfield 59, 3) := by decide +kernel
theorem dX4_sumOf_22 : decode cX4_sumOf 22 = .ok (.if_icmp .ge 78, 3) := by decide +kernel
theorem dX4_sumOf_25 : decode cX4_sumOf 25 = .ok (.aload_n 0, 1) := by decide +kernel
theorem dX4_sumOf_26 : decode cX4_sumOf 26 = .ok (.iload_n 3, 1) := by decide +kernel
theorem dX4_sumOf_27 : decode cX4_sumOf 27 = .ok (.invokevirtual 62, 3) := by decide +kernel
theorem dX4_sumOf_30 : decode cX4_sumOf 30 = .ok (.ifCond .ne 6, 3) := by decide +kernel
theorem dX4_sumOf_33 : decode cX4_sumOf 33 = .ok (.goto 61, 3) := by decide +kernel
theorem dX4_sumOf_36 : decode cX4_sumOf 36 = .ok (.iload_n 1, 1) := by decide +kernel
theorem dX4_sumOf_37 : decode cX4_sumOf 37 = .ok (.iconst 1, 1) := by decide +kernel
theorem dX4_sumOf_38 : decode cX4_sumOf 38 = .ok (.if_icmp .ne 16, 3) := by decide +kernel
theorem dX4_sumOf_41 : decode cX4_sumOf 41 = .ok (.iload_n 2, 1) := by decide +kernel
theorem dX4_sumOf_42 : decode cX4_sumOf 42 = .ok (.aload_n 0, 1) := by decide +kernel
theorem dX4_sumOf_43 : decode cX4_sumOf 43 = .ok (.iload_n 3, 1) := by decide +kernel
theorem dX4_sumOf_44 : decode cX4_sumOf 44 = .ok (.invokevirtual 101, 3) := by decide +kernel
theorem dX4_sumOf_47 : decode cX4_sumOf 47 = .ok (.invokestatic 94, 3) := by decide +kernel
theorem dX4_sumOf_50 : decode cX4_sumOf 50 = .ok (.istore_n 2, 1) := by decide +kernel
theorem dX4_sumOf_51 : decode cX4_sumOf 51 = .ok (.goto 43, 3) := by decide +kernel
theorem dX4_sumOf_54 : decode cX4_sumOf 54 = .ok (.iload_n 1, 1) := by decide +kernel
theorem dX4_sumOf_55 : decode cX4_sumOf 55 = .ok (.iconst 2, 1) := by decide +kernel
theorem dX4_sumOf_56 : decode cX4_sumOf 56 = .ok (.if_icmp .ne 17, 3) := by decide +kernel
theorem dX4_sumOf_59 : decode cX4_sumOf 59 = .ok (.iload_n 2, 1) := by decide +kernel
theorem dX4_sumOf_60 : decode cX4_sumOf 60 = .ok (.aload_n 0, 1) := by decide +kernel
theorem dX4_sumOf_61 : decode cX4_sumOf 61 = .ok (.getfield 26, 3) := by decide +kernel
theorem dX4_sumOf_64 : decode cX4_sumOf 64 = .ok (.iload_n 3, 1) := by decide +kernel
theorem dX4_sumOf_65 : decode cX4_sumOf 65 = .ok (.iaload, 1) := by decide +kernel
theorem dX4_sumOf_66 : decode cX4_sumOf 66 = .ok (.invokestatic 94, 3) := by decide +kernel
theorem dX4_sumOf_69 : decode cX4_sumOf 69 = .ok (.istore_n 2, 1) := by decide +kernel
theorem dX4_sumOf_70 : decode cX4_sumOf 70 = .ok (.goto 24, 3) := by decide +kernel
theorem dX4_sumOf_73 : decode cX4_sumOf 73 = .ok (.iload_n 2, 1) := by decide +kernel
theorem dX4_sumOf_74 : decode cX4_sumOf 74 = .ok (.aload_n 0, 1) := by decide +kernel
theorem dX4_sumOf_75 : decode cX4_sumOf 75 = .ok (.iload_n 3, 1) := by decide +kernel
theorem dX4_sumOf_76 : decode cX4_sumOf 76 = .ok (.iconst 3, 1) := by decide +kernel
theorem dX4_sumOf_77 : decode cX4_sumOf 77 = .ok (.invokevirtual 76, 3) := by decide +kernel
theorem dX4_sumOf_80 : decode cX4_sumOf 80 = .ok (.ifCond .ne 11, 3) := by decide +kernel
theorem dX4_sumOf_83 : decode cX4_sumOf 83 = .ok (.aload_n 0, 1) := by decide +kernel
theorem dX4_sumOf_84 : decode cX4_sumOf 84 = .ok (.iload_n 3, 1) := by decide +kernel
theorem dX4_sumOf_85 : decode cX4_sumOf 85 = .ok (.invokevirtual 107, 3) := by decide +kernel
theorem dX4_sumOf_88 : decode cX4_sumOf 88 = .ok (.goto 4, 3) := by decide +kernel
theorem dX4_sumOf_91 : decode cX4_sumOf 91 = .ok (.iconst 0, 1) := by decide +kernel
theorem dX4_sumOf_92 : decode cX4_sumOf 92 = .ok (.iadd, 1) := by decide +kernel
theorem dX4_sumOf_93 : decode cX4_sumOf 93 = .ok (.istore_n 2, 1) := by decide +kernel
theorem dX4_sumOf_94 : decode cX4_sumOf 94 = .ok (.iinc 3 1, 3) := by decide +kernel
theorem dX4_sumOf_97 : decode cX4_sumOf 97 = .ok (.goto (-80), 3) := by decide +kernel
theorem dX4_sumOf_100 : decode cX4_sumOf 100 = .ok (.iload_n 2, 1) := by decide +kernel
theorem dX4_sumOf_101 : decode cX4_sumOf 101 = .ok (.ireturn, 1) := by decide +kernel
set_option maxRecDepth 20000 in
theorem ggX4_sum_X4_isIn : GoodIn wsX4_sum wsX4_isIn := goodIn_r _ [5] (by decide +kernel) (by decide +kernel)
set_option maxRecDepth 20000 in
theorem gX4_sum_X4_isIn : GoodIn wsX4_sum (va_wsS RX4 41 yX4_isIn wsX4_isIn) := goodIn_app (goodIn_of _ (by decide +kernel)) ggX4_sum_X4_isIn
set_option maxRecDepth 20000 in
theorem ggX4_sum_X4_sumOf : GoodIn wsX4_sum wsX4_sumOf := goodIn_r _ [9, 10, 11, 12, 13, 14, 15, 16, 17, 18, 4, 19, 20, 21, 22, 23, 24, 25, 26, 27, 28, 29, 30, 31, 32, 33, 34, 35, 36, 37, 38, 39, 40, 41, 42, 43, 44, 45, 46, 47, 48, 49, 50, 51, 52, 53, 54, 55, 56, 57, 58, 59, 60, 61, 62, 63, 64, 65, 66, 67, 68, 69, 70, 71, 72, 73, 74, 75, 80, 81, 82, 83, 84, 85, 86, 87, 88, 89, 90, 91, 92, 93] (by decide +kernel) (by decide +kernel)
set_option maxRecDepth 20000 in
theorem gX4_sum_X4_sumOf : GoodIn wsX4_sum (wsV RX4 190 RX4 yX4_sumOf wsX4_sumOf) := goodIn_app (goodIn_of _ (by decide +kernel)) ggX4_sum_X4_sumOf
set_option maxRecDepth 20000 in
theorem ggX4_sum_X4_fail : GoodIn wsX4_sum wsX4_fail := goodIn_r _ [79, 1, 80, 81, 82, 83, 84, 85, 86, 87, 88, 89, 90, 91, 92, 93] (by decide +kernel) (by decide +kernel)
set_option maxRecDepth 20000 in
theorem gX4_sum_X4_fail : GoodIn wsX4_sum (wsV RX4 45 RX4 yX4_fail wsX4_fail) := goodIn_app (goodIn_of _ (by decide +kernel)) ggX4_sum_X4_fail
theorem dX4_sum_0 : decode cX4_sum 0 = .ok (.aload_n 0, 1) := by decide +kernel
theorem dX4_sum_1 : decode cX4_sum 1 = .ok (.iconst 0, 1) := by decide +kernel
theorem dX4_sum_2 : decode cX4_sum 2 = .ok (.putfield 35, 3) := by decide +kernel
theorem dX4_sum_5 : decode cX4_sum 5 = .ok (.iload_n 1, 1) := by decide +kernel
theorem dX4_sum_6 : decode cX4_sum 6 = .ok (.iconst 0, 1) := by decide +kernel
theorem dX4_sum_7 : decode cX4_sum 7 = .ok (.iconst 3, 1) := by decide +kernel
theorem dX4_sum_8 : decode cX4_sum 8 = .ok (.invokestatic 41, 3) := by decide +kernel
theorem dX4_sum_11 : decode cX4_sum 11 = .ok (.ifCond .eq 11, 3) := by decide +kernel
theorem dX4_sum_14 : decode cX4_sum 14 = .ok (.aload_n 0, 1) := by decide +kernel
theorem dX4_sum_15 : decode cX4_sum 15 = .ok (.iload_n 1, 1) := by decide +kernel
theorem dX4_sum_16 : decode cX4_sum 16 = .ok (.invokevirtual 190, 3) := by decide +kernel
theorem dX4_sum_19 : decode cX4_sum 19 = .ok (.goto 8, 3) := by decide +kernel
theorem dX4_sum_22 : decode cX4_sum 22 = .ok (.aload_n 0, 1) := by decide +kernel
theorem dX4_sum_23 : decode cX4_sum 23 = .ok (.iconst 1, 1) := by decide +kernel
theorem dX4_sum_24 : decode cX4_sum 24 = .ok (.invokevirtual 45, 3) := by decide +kernel
theorem dX4_sum_27 : decode cX4_sum 27 = .ok (.ireturn, 1) := by decide +kernel
set_option maxRecDepth 20000 in
theorem ggX4_middle_X4_isHere : GoodIn wsX4_middle wsX4_isHere := goodIn_r _ [7, 8, 34, 35, 36, 37, 38, 39, 40, 41, 42, 43, 44, 45, 46, 47] (by decide +kernel) (by decide +kernel)
set_option maxRecDepth 20000 in
theorem gX4_middle_X4_isHere : GoodIn wsX4_middle (wsV RX4 62 RX4 yX4_isHere wsX4_isHere) := goodIn_app (goodIn_of _ (by decide +kernel)) ggX4_middle_X4_isHere
set_option maxRecDepth 20000 in
theorem ggX4_middle_X4_weights : GoodIn wsX4_middle wsX4_weights := goodIn_r _ [33, 3, 4, 5, 6, 7, 8, 9, 10, 11, 12, 13, 14, 15, 16, 17, 18, 19, 20, 21, 34, 35, 36, 37, 38, 39, 40, 41, 42, 43, 44, 45, 46, 47] (by decide +kernel) (by decide +kernel)
set_option maxRecDepth 20000 in
theorem gX4_middle_X4_weights : GoodIn wsX4_middle (wsV RX4 146 RX4 yX4_weights wsX4_weights) := goodIn_app (goodIn_of _ (by decide +kernel)) ggX4_middle_X4_weights
theorem dX4_middle_0 : decode cX4_middle 0 = .ok (.aload_n 0, 1) := by decide +kernel
theorem dX4_middle_1 : decode cX4_middle 1 = .ok (.iconst 0, 1) := by decide +kernel
theorem dX4_middle_2 : decode cX4_middle 2 = .ok (.putfield 35, 3) := by decide +kernel
theorem dX4_middle_5 : decode cX4_middle 5 = .ok (.iconst 0, 1) := by decide +kernel
theorem dX4_middle_6 : decode cX4_middle 6 = .ok (.istore_n 2, 1) := by decide +kernel
theorem dX4_middle_7 : decode cX4_middle 7 = .ok (.iconst 0, 1) := by decide +kernel
theorem dX4_middle_8 : decode cX4_middle 8 = .ok (.istore_n 3, 1) := by decide +kernel
theorem dX4_middle_9 : decode cX4_middle 9 = .ok (.iload_n 3, 1) := by decide +kernel
theorem dX4_middle_10 : decode cX4_middle 10 = .ok (.aload_n 0, 1) := by decide +kernel
theorem dX4_middle_11 : decode cX4_middle 11 = .ok (.getfield 59, 3) := by decide +kernel
theorem dX4_middle_14 : decode cX4_middle 14 = .ok (.if_icmp .ge 61, 3) := by decide +kernel
theorem dX4_middle_17 : decode cX4_middle 17 = .ok (.aload_n 0, 1) := by decide +kernel
theorem dX4_middle_18 : decode cX4_middle 18 = .ok (.iload_n 3, 1) := by decide +kernel
theorem dX4_middle_19 : decode cX4_middle 19 = .ok (.invokevirtual 62, 3) := by decide +kernel
theorem dX4_middle_22 : decode cX4_middle 22 = .ok (.ifCond .eq 47, 3) := by decide +kernel
theorem dX4_middle_25 : decode cX4_middle 25 = .ok (.iload_n 2, 1) := by decide +kernel
theorem dX4_middle_26 : decode cX4_middle 26 = .ok (.aload_n 0, 1) := by decide +kernel
theorem dX4_middle_27 : decode cX4_middle 27 = .ok (.iload_n 3, 1) := by decide +kernel
theorem dX4_middle_28 : decode cX4_middle 28 = .ok (.invokevirtual 120, 3) := by decide +kernel
theorem dX4_middle_31 : decode cX4_middle 31 = .ok (.iload_n 1, 1) := by decide +kernel
theorem dX4_middle_32 : decode cX4_middle 32 = .ok (.ifCond .eq 20, 3) := by decide +kernel
theorem dX4_middle_35 : decode cX4_middle 35 = .ok (.iconst 2, 1) := by decide +kernel
theorem dX4_middle_36 : decode cX4_middle 36 = .ok (.aload_n 0, 1) := by decide +kernel
theorem dX4_middle_37 : decode cX4_middle 37 = .ok (.iload_n 3, 1) := by decide +kernel
theorem dX4_middle_38 : decode cX4_middle 38 = .ok (.iconst 2, 1) := by decide +kernel
theorem dX4_middle_39 : decode cX4_middle 39 = .ok (.invokevirtual 76, 3) := by decide +kernel
theorem dX4_middle_42 : decode cX4_middle 42 = .ok (.imul, 1) := by decide +kernel
theorem dX4_middle_43 : decode cX4_middle 43 = .ok (.aload_n 0, 1) := by decide +kernel
theorem dX4_middle_44 : decode cX4_middle 44 = .ok (.iload_n 3, 1) := by decide +kernel
theorem dX4_middle_45 : decode cX4_middle 45 = .ok (.invokevirtual 86, 3) := by decide +kernel
theorem dX4_middle_48 : decode cX4_middle 48 = .ok (.iadd, 1) := by decide +kernel
theorem dX4_middle_49 : decode cX4_middle 49 = .ok (.goto 17, 3) := by decide +kernel
theorem dX4_middle_52 : decode cX4_middle 52 = .ok (.iconst 2, 1) := by decide +kernel
theorem dX4_middle_53 : decode cX4_middle 53 = .ok (.aload_n 0, 1) := by decide +kernel
theorem dX4_middle_54 : decode cX4_middle 54 = .ok (.iload_n 3, 1) := by decide +kernel
theorem dX4_middle_55 : decode cX4_middle 55 = .ok (.iconst 1, 1) := by decide +kernel
theorem dX4_middle_56 : decode cX4_middle 56 = .ok (.invokevirtual 76, 3) := by decide +kernel
theorem dX4_middle_59 : decode cX4_middle 59 = .ok (.imul, 1) := by decide +kernel
theorem dX4_middle_60 : decode cX4_middle 60 = .ok (.aload_n 0, 1) := by decide +kernel
theorem dX4_middle_61 : decode cX4_middle 61 = .ok (.iload_n 3, 1) := by decide +kernel
theorem dX4_middle_62 : decode cX4_middle 62 = .ok (.invokevirtual 83, 3) := by decide +kernel
theorem dX4_middle_65 : decode cX4_middle 65 = .ok (.iadd, 1) := by decide +kernel
theorem dX4_middle_66 : decode cX4_middle 66 = .ok (.imul, 1) := by decide +kernel
theorem dX4_middle_67 : decode cX4_middle 67 = .ok (.iadd, 1) := by decide +kernel
theorem dX4_middle_68 : decode cX4_middle 68 = .ok (.istore_n 2, 1) := by decide +kernel
theorem dX4_middle_69 : decode cX4_middle 69 = .ok (.iinc 3 1, 3) := by decide +kernel
theorem dX4_middle_72 : decode cX4_middle 72 = .ok (.goto (-63), 3) := by decide +kernel
theorem dX4_middle_75 : decode cX4_middle 75 = .ok (.aload_n 0, 1) := by decide +kernel
theorem dX4_middle_76 : decode cX4_middle 76 = .ok (.invokevirtual 146, 3) := by decide +kernel
theorem dX4_middle_79 : decode cX4_middle 79 = .ok (.ifCond .ne 7, 3) := by decide +kernel
theorem dX4_middle_82 : decode cX4_middle 82 = .ok (.dconst 0, 1) := by decide +kernel
theorem dX4_middle_83 : decode cX4_middle 83 = .ok (.goto 13, 3) := by decide +kernel
theorem dX4_middle_86 : decode cX4_middle 86 = .ok (.iload_n 2, 1) := by decide +kernel
theorem dX4_middle_87 : decode cX4_middle 87 = .ok (.i2d, 1) := by decide +kernel
theorem dX4_middle_88 : decode cX4_middle 88 = .ok (.iconst 2, 1) := by decide +kernel
theorem dX4_middle_89 : decode cX4_middle 89 = .ok (.aload_n 0, 1) := by decide +kernel
theorem dX4_middle_90 : decode cX4_middle 90 = .ok (.invokevirtual 146, 3) := by decide +kernel
theorem dX4_middle_93 : decode cX4_middle 93 = .ok (.imul, 1) := by decide +kernel
theorem dX4_middle_94 : decode cX4_middle 94 = .ok (.i2d, 1) := by decide +kernel
theorem dX4_middle_95 : decode cX4_middle 95 = .ok (.ddiv, 1) := by decide +kernel
theorem dX4_middle_96 : decode cX4_middle 96 = .ok (.dreturn, 1) := by decide +kernel
set_option maxRecDepth 20000 in
theorem ggX4_filled_X4_isHere : GoodIn wsX4_filled wsX4_isHere := goodIn_r _ [7, 8, 73, 74, 75, 76, 77, 78, 79, 80, 81, 82, 83, 84, 85, 86] (by decide +kernel) (by decide +kernel)
set_option maxRecDepth 20000 in
theorem gX4_filled_X4_isHere : GoodIn wsX4_filled (wsV RX4 62 RX4 yX4_isHere wsX4_isHere) := goodIn_app (goodIn_of _ (by decide +kernel)) ggX4_filled_X4_isHere
set_option maxRecDepth 20000 in
theorem ggX4_filled_X4_sumOf : GoodIn wsX4_filled wsX4_sumOf := goodIn_r _ [33, 2, 34, 35, 36, 37, 38, 39, 40, 41, 6, 42, 3, 4, 5, 7, 8, 43, 44, 45, 46, 17, 18, 19, 20, 21, 22, 23, 24, 25, 47, 48, 49, 50, 51, 52, 53, 54, 9, 10, 11, 12, 13, 14, 15, 16, 26, 27, 28, 29, 55, 56, 57, 58, 59, 60, 61, 62, 63, 64, 65, 66, 67, 68, 69, 70, 71, 72, 73, 74, 75, 76, 77, 78, 79, 80, 81, 82, 83, 84, 85, 86] (by decide +kernel) (by decide +kernel)
set_option maxRecDepth 20000 in
theorem gX4_filled_X4_sumOf : GoodIn wsX4_filled (wsV RX4 190 RX4 yX4_sumOf wsX4_sumOf) := goodIn_app (goodIn_of _ (by decide +kernel)) ggX4_filled_X4_sumOf
theorem dX4_filled_0 : decode cX4_filled 0 = .ok (.aload_n 0, 1) := by decide +kernel
theorem dX4_filled_1 : decode cX4_filled 1 = .ok (.iconst 0, 1) := by decide +kernel
theorem dX4_filled_2 : decode cX4_filled 2 = .ok (.putfield 35, 3) := by decide +kernel
theorem dX4_filled_5 : decode cX4_filled 5 = .ok (.iconst 0, 1) := by decide +kernel
theorem dX4_filled_6 : decode cX4_filled 6 = .ok (.istore_n 1, 1) := by decide +kernel
theorem dX4_filled_7 : decode cX4_filled 7 = .ok (.iconst 0, 1) := by decide +kernel
theorem dX4_filled_8 : decode cX4_filled 8 = .ok (.istore_n 2, 1) := by decide +kernel
theorem dX4_filled_9 : decode cX4_filled 9 = .ok (.iload_n 2, 1) := by decide +kernel
theorem dX4_filled_10 : decode cX4_filled 10 = .ok (.aload_n 0, 1) := by decide +kernel
theorem dX4_filled_11 : decode cX4_filled 11 = .ok (.getfield 59, 3) := by decide +kernel
theorem dX4_filled_14 : decode cX4_filled 14 = .ok (.if_icmp .ge 41, 3) := by decide +kernel
theorem dX4_filled_17 : decode cX4_filled 17 = .ok (.iload_n 1, 1) := by decide +kernel
theorem dX4_filled_18 : decode cX4_filled 18 = .ok (.aload_n 0, 1) := by decide +kernel
theorem dX4_filled_19 : decode cX4_filled 19 = .ok (.iload_n 2, 1) := by decide +kernel
theorem dX4_filled_20 : decode cX4_filled 20 = .ok (.invokevirtual 62, 3) := by decide +kernel
theorem dX4_filled_23 : decode cX4_filled 23 = .ok (.ifCond .eq 23, 3) := by decide +kernel
theorem dX4_filled_26 : decode cX4_filled 26 = .ok (.aload_n 0, 1) := by decide +kernel
theorem dX4_filled_27 : decode cX4_filled 27 = .ok (.iload_n 2, 1) := by decide +kernel
theorem dX4_filled_28 : decode cX4_filled 28 = .ok (.invokevirtual 107, 3) := by decide +kernel
theorem dX4_filled_31 : decode cX4_filled 31 = .ok (.aload_n 0, 1) := by decide +kernel
theorem dX4_filled_32 : decode cX4_filled 32 = .ok (.aload_n 0, 1) := by decide +kernel
theorem dX4_filled_33 : decode cX4_filled 33 = .ok (.iload_n 2, 1) := by decide +kernel
theorem dX4_filled_34 : decode cX4_filled 34 = .ok (.iconst 0, 1) := by decide +kernel
theorem dX4_filled_35 : decode cX4_filled 35 = .ok (.invokevirtual 76, 3) := by decide +kernel
theorem dX4_filled_38 : decode cX4_filled 38 = .ok (.iconst 2, 1) := by decide +kernel
theorem dX4_filled_39 : decode cX4_filled 39 = .ok (.invokevirtual 80, 3) := by decide +kernel
theorem dX4_filled_42 : decode cX4_filled 42 = .ok (.imul, 1) := by decide +kernel
theorem dX4_filled_43 : decode cX4_filled 43 = .ok (.goto 4, 3) := by decide +kernel
theorem dX4_filled_46 : decode cX4_filled 46 = .ok (.iconst 0, 1) := by decide +kernel
theorem dX4_filled_47 : decode cX4_filled 47 = .ok (.iadd, 1) := by decide +kernel
theorem dX4_filled_48 : decode cX4_filled 48 = .ok (.istore_n 1, 1) := by decide +kernel
theorem dX4_filled_49 : decode cX4_filled 49 = .ok (.iinc 2 1, 3) := by decide +kernel
theorem dX4_filled_52 : decode cX4_filled 52 = .ok (.goto (-43), 3) := by decide +kernel
theorem dX4_filled_55 : decode cX4_filled 55 = .ok (.iload_n 1, 1) := by decide +kernel
theorem dX4_filled_56 : decode cX4_filled 56 = .ok (.ifCond .ne 7, 3) := by decide +kernel
theorem dX4_filled_59 : decode cX4_filled 59 = .ok (.dconst 0, 1) := by decide +kernel
theorem dX4_filled_60 : decode cX4_filled 60 = .ok (.goto 15, 3) := by decide +kernel
theorem dX4_filled_63 : decode cX4_filled 63 = .ok (.iload_n 1, 1) := by decide +kernel
theorem dX4_filled_64 : decode cX4_filled 64 = .ok (.i2d, 1) := by decide +kernel
theorem dX4_filled_65 : decode cX4_filled 65 = .ok (.bipush 120, 2) := by decide +kernel
theorem dX4_filled_67 : decode cX4_filled 67 = .ok (.aload_n 0, 1) := by decide +kernel
theorem dX4_filled_68 : decode cX4_filled 68 = .ok (.iconst 1, 1) := by decide +kernel
theorem dX4_filled_69 : decode cX4_filled 69 = .ok (.invokevirtual 190, 3) := by decide +kernel
theorem dX4_filled_72 : decode cX4_filled 72 = .ok (.imul, 1) := by decide +kernel
theorem dX4_filled_73 : decode cX4_filled 73 = .ok (.i2d, 1) := by decide +kernel
theorem dX4_filled_74 : decode cX4_filled 74 = .ok (.ddiv, 1) := by decide +kernel
theorem dX4_filled_75 : decode cX4_filled 75 = .ok (.dreturn, 1) := by decide +kernel
set_option maxRecDepth 20000 in
theorem ggX4_digest_X4_counted : GoodIn wsX4_digest wsX4_counted := goodIn_r _ [12, 13, 4, 5, 14, 15, 16, 11, 17, 18, 19, 20, 21, 22, 99, 100, 101, 102, 103, 104, 105, 106, 107, 108, 109, 110, 111, 112] (by decide +kernel) (by decide +kernel)
set_option maxRecDepth 20000 in
theorem gX4_digest_X4_counted : GoodIn wsX4_digest (wsV RX4 73 RX4 yX4_counted wsX4_counted) := goodIn_app (goodIn_of _ (by decide +kernel)) ggX4_digest_X4_counted
set_option maxRecDepth 20000 in
theorem ggX4_digest_X4_reckonLoads : GoodIn wsX4_digest wsX4_reckonLoads := goodIn_r _ [26, 27, 28, 29, 30, 31, 18, 19, 20, 11, 21, 22, 32, 33, 34, 35, 36, 37, 38, 39, 40, 41, 42, 43, 44, 45, 46, 47, 48, 49, 50, 51, 52, 53, 54, 55, 56, 57, 58, 59, 60, 61, 62, 63, 64, 65, 66, 67, 68, 69, 70, 71, 72, 73, 74, 75, 76, 77, 78, 99, 100, 101, 102, 103, 104, 105, 106, 107, 108, 109, 110, 111, 112] (by decide +kernel) (by decide +kernel)
set_option maxRecDepth 20000 in
theorem gX4_digest_X4_reckonLoads : GoodIn wsX4_digest (wsV RX4 126 RX4 yX4_reckonLoads wsX4_reckonLoads) := goodIn_app (goodIn_of _ (by decide +kernel)) ggX4_digest_X4_reckonLoads
set_option maxRecDepth 20000 in
theorem ggX4_digest_X4_isHere : GoodIn wsX4_digest wsX4_isHere := goodIn_r _ [21, 22, 99, 100, 101, 102, 103, 104, 105, 106, 107, 108, 109, 110, 111, 112] (by decide +kernel) (by decide +kernel)
set_option maxRecDepth 20000 in
theorem gX4_digest_X4_isHere : GoodIn wsX4_digest (wsV RX4 62 RX4 yX4_isHere wsX4_isHere) := goodIn_app (goodIn_of _ (by decide +kernel)) ggX4_digest_X4_isHere
set_option maxRecDepth 20000 in
theorem ggX4_digest_X4_sumOf : GoodIn wsX4_digest wsX4_sumOf := goodIn_r _ [94, 4, 28, 29, 30, 31, 27, 95, 96, 97, 11, 98, 18, 19, 20, 21, 22, 36, 37, 38, 39, 32, 33, 34, 35, 40, 41, 42, 43, 44, 23, 24, 25, 26, 45, 46, 47, 48, 49, 50, 51, 52, 53, 54, 55, 56, 57, 58, 59, 60, 61, 62, 63, 64, 65, 66, 67, 68, 69, 70, 71, 72, 73, 74, 75, 76, 77, 78, 99, 100, 101, 102, 103, 104, 105, 106, 107, 108, 109, 110, 111, 112] (by decide +kernel) (by decide +kernel)
set_option maxRecDepth 20000 in
theorem gX4_digest_X4_sumOf : GoodIn wsX4_digest (wsV RX4 190 RX4 yX4_sumOf wsX4_sumOf) := goodIn_app (goodIn_of _ (by decide +kernel)) ggX4_digest_X4_sumOf
theorem dX4_digest_0 : decode cX4_digest 0 = .ok (.aload_n 0, 1) := by decide +kernel
theorem dX4_digest_1 : decode cX4_digest 1 = .ok (.iconst 0, 1) := by decide +kernel
theorem dX4_digest_2 : decode cX4_digest 2 = .ok (.putfield 35, 3) := by decide +kernel
theorem dX4_digest_5 : decode cX4_digest 5 = .ok (.ldc2_w 193, 3) := by decide +kernel
theorem dX4_digest_8 : decode cX4_digest 8 = .ok (.lstore_n 1, 1) := by decide +kernel
theorem dX4_digest_9 : decode cX4_digest 9 = .ok (.iconst 0, 1) := by decide +kernel
theorem dX4_digest_10 : decode cX4_digest 10 = .ok (.istore_n 3, 1) := by decide +kernel
theorem dX4_digest_11 : decode cX4_digest 11 = .ok (.iload_n 3, 1) := by decide +kernel
theorem dX4_digest_12 : decode cX4_digest 12 = .ok (.iconst 4, 1) := by decide +kernel
theorem dX4_digest_13 : decode cX4_digest 13 = .ok (.if_icmp .ge 22, 3) := by decide +kernel
theorem dX4_digest_16 : decode cX4_digest 16 = .ok (.lload_n 1, 1) := by decide +kernel
theorem dX4_digest_17 : decode cX4_digest 17 = .ok (.ldc2_w 195, 3) := by decide +kernel
theorem dX4_digest_20 : decode cX4_digest 20 = .ok (.lmul, 1) := by decide +kernel
theorem dX4_digest_21 : decode cX4_digest 21 = .ok (.aload_n 0, 1) := by decide +kernel
theorem dX4_digest_22 : decode cX4_digest 22 = .ok (.iload_n 3, 1) := by decide +kernel
theorem dX4_digest_23 : decode cX4_digest 23 = .ok (.invokevirtual 73, 3) := by decide +kernel
theorem dX4_digest_26 : decode cX4_digest 26 = .ok (.i2l, 1) := by decide +kernel
theorem dX4_digest_27 : decode cX4_digest 27 = .ok (.ladd, 1) := by decide +kernel
theorem dX4_digest_28 : decode cX4_digest 28 = .ok (.lstore_n 1, 1) := by decide +kernel
theorem dX4_digest_29 : decode cX4_digest 29 = .ok (.iinc 3 1, 3) := by decide +kernel
theorem dX4_digest_32 : decode cX4_digest 32 = .ok (.goto (-21), 3) := by decide +kernel
theorem dX4_digest_35 : decode cX4_digest 35 = .ok (.aload_n 0, 1) := by decide +kernel
theorem dX4_digest_36 : decode cX4_digest 36 = .ok (.invokevirtual 126, 3) := by decide +kernel
theorem dX4_digest_39 : decode cX4_digest 39 = .ok (.iconst 0, 1) := by decide +kernel
theorem dX4_digest_40 : decode cX4_digest 40 = .ok (.istore_n 3, 1) := by decide +kernel
theorem dX4_digest_41 : decode cX4_digest 41 = .ok (.iload_n 3, 1) := by decide +kernel
theorem dX4_digest_42 : decode cX4_digest 42 = .ok (.aload_n 0, 1) := by decide +kernel
theorem dX4_digest_43 : decode cX4_digest 43 = .ok (.getfield 59, 3) := by decide +kernel
theorem dX4_digest_46 : decode cX4_digest 46 = .ok (.if_icmp .ge 60, 3) := by decide +kernel
theorem dX4_digest_49 : decode cX4_digest 49 = .ok (.aload_n 0, 1) := by decide +kernel
theorem dX4_digest_50 : decode cX4_digest 50 = .ok (.iload_n 3, 1) := by decide +kernel
theorem dX4_digest_51 : decode cX4_digest 51 = .ok (.invokevirtual 62, 3) := by decide +kernel
theorem dX4_digest_54 : decode cX4_digest 54 = .ok (.ifCond .ne 6, 3) := by decide +kernel
theorem dX4_digest_57 : decode cX4_digest 57 = .ok (.goto 43, 3) := by decide +kernel
theorem dX4_digest_60 : decode cX4_digest 60 = .ok (.lload_n 1, 1) := by decide +kernel
theorem dX4_digest_61 : decode cX4_digest 61 = .ok (.ldc2_w 195, 3) := by decide +kernel
theorem dX4_digest_64 : decode cX4_digest 64 = .ok (.lmul, 1) := by decide +kernel
theorem dX4_digest_65 : decode cX4_digest 65 = .ok (.iload_n 3, 1) := by decide +kernel
theorem dX4_digest_66 : decode cX4_digest 66 = .ok (.i2l, 1) := by decide +kernel
theorem dX4_digest_67 : decode cX4_digest 67 = .ok (.ladd, 1) := by decide +kernel
theorem dX4_digest_68 : decode cX4_digest 68 = .ok (.lstore_n 1, 1) := by decide +kernel
theorem dX4_digest_69 : decode cX4_digest 69 = .ok (.iconst 0, 1) := by decide +kernel
theorem dX4_digest_70 : decode cX4_digest 70 = .ok (.istore 4, 2) := by decide +kernel
theorem dX4_digest_72 : decode cX4_digest 72 = .ok (.iload 4, 2) := by decide +kernel
theorem dX4_digest_74 : decode cX4_digest 74 = .ok (.bipush 10, 2) := by decide +kernel
theorem dX4_digest_76 : decode cX4_digest 76 = .ok (.if_icmp .ge 24, 3) := by decide +kernel
theorem dX4_digest_79 : decode cX4_digest 79 = .ok (.lload_n 1, 1) := by decide +kernel
theorem dX4_digest_80 : decode cX4_digest 80 = .ok (.ldc2_w 195, 3) := by decide +kernel
theorem dX4_digest_83 : decode cX4_digest 83 = .ok (.lmul, 1) := by decide +kernel
theorem dX4_digest_84 : decode cX4_digest 84 = .ok (.aload_n 0, 1) := by decide +kernel
theorem dX4_digest_85 : decode cX4_digest 85 = .ok (.iload_n 3, 1) := by decide +kernel
theorem dX4_digest_86 : decode cX4_digest 86 = .ok (.iload 4, 2) := by decide +kernel
theorem dX4_digest_88 : decode cX4_digest 88 = .ok (.invokevirtual 172, 3) := by decide +kernel
theorem dX4_digest_91 : decode cX4_digest 91 = .ok (.i2l, 1) := by decide +kernel
theorem dX4_digest_92 : decode cX4_digest 92 = .ok (.ladd, 1) := by decide +kernel
theorem dX4_digest_93 : decode cX4_digest 93 = .ok (.lstore_n 1, 1) := by decide +kernel
theorem dX4_digest_94 : decode cX4_digest 94 = .ok (.iinc 4 1, 3) := by decide +kernel
theorem dX4_digest_97 : decode cX4_digest 97 = .ok (.goto (-25), 3) := by decide +kernel
theorem dX4_digest_100 : decode cX4_digest 100 = .ok (.iinc 3 1, 3) := by decide +kernel
theorem dX4_digest_103 : decode cX4_digest 103 = .ok (.goto (-62), 3) := by decide +kernel
theorem dX4_digest_106 : decode cX4_digest 106 = .ok (.iconst 0, 1) := by decide +kernel
theorem dX4_digest_107 : decode cX4_digest 107 = .ok (.istore_n 3, 1) := by decide +kernel
theorem dX4_digest_108 : decode cX4_digest 108 = .ok (.iload_n 3, 1) := by decide +kernel
theorem dX4_digest_109 : decode cX4_digest 109 = .ok (.aload_n 0, 1) := by decide +kernel
theorem dX4_digest_110 : decode cX4_digest 110 = .ok (.getfield 70, 3) := by decide +kernel
theorem dX4_digest_113 : decode cX4_digest 113 = .ok (.if_icmp .ge 35, 3) := by decide +kernel
theorem dX4_digest_116 : decode cX4_digest 116 = .ok (.lload_n 1, 1) := by decide +kernel
theorem dX4_digest_117 : decode cX4_digest 117 = .ok (.ldc2_w 195, 3) := by decide +kernel
theorem dX4_digest_120 : decode cX4_digest 120 = .ok (.lmul, 1) := by decide +kernel
theorem dX4_digest_121 : decode cX4_digest 121 = .ok (.aload_n 0, 1) := by decide +kernel
theorem dX4_digest_122 : decode cX4_digest 122 = .ok (.getfield 29, 3) := by decide +kernel
theorem dX4_digest_125 : decode cX4_digest 125 = .ok (.iload_n 3, 1) := by decide +kernel
theorem dX4_digest_126 : decode cX4_digest 126 = .ok (.iaload, 1) := by decide +kernel
theorem dX4_digest_127 : decode cX4_digest 127 = .ok (.i2l, 1) := by decide +kernel
theorem dX4_digest_128 : decode cX4_digest 128 = .ok (.ladd, 1) := by decide +kernel
theorem dX4_digest_129 : decode cX4_digest 129 = .ok (.ldc2_w 195, 3) := by decide +kernel
theorem dX4_digest_132 : decode cX4_digest 132 = .ok (.lmul, 1) := by decide +kernel
theorem dX4_digest_133 : decode cX4_digest 133 = .ok (.aload_n 0, 1) := by decide +kernel
theorem dX4_digest_134 : decode cX4_digest 134 = .ok (.getfield 32, 3) := by decide +kernel
theorem dX4_digest_137 : decode cX4_digest 137 = .ok (.iload_n 3, 1) := by decide +kernel
theorem dX4_digest_138 : decode cX4_digest 138 = .ok (.iaload, 1) := by decide +kernel
theorem dX4_digest_139 : decode cX4_digest 139 = .ok (.i2l, 1) := by decide +kernel
theorem dX4_digest_140 : decode cX4_digest 140 = .ok (.ladd, 1) := by decide +kernel
theorem dX4_digest_141 : decode cX4_digest 141 = .ok (.lstore_n 1, 1) := by decide +kernel
theorem dX4_digest_142 : decode cX4_digest 142 = .ok (.iinc 3 1, 3) := by decide +kernel
theorem dX4_digest_145 : decode cX4_digest 145 = .ok (.goto (-37), 3) := by decide +kernel
theorem dX4_digest_148 : decode cX4_digest 148 = .ok (.iconst 0, 1) := by decide +kernel
theorem dX4_digest_149 : decode cX4_digest 149 = .ok (.istore_n 3, 1) := by decide +kernel
theorem dX4_digest_150 : decode cX4_digest 150 = .ok (.iload_n 3, 1) := by decide +kernel
theorem dX4_digest_151 : decode cX4_digest 151 = .ok (.iconst 4, 1) := by decide +kernel
theorem dX4_digest_152 : decode cX4_digest 152 = .ok (.if_icmp .ge 22, 3) := by decide +kernel
theorem dX4_digest_155 : decode cX4_digest 155 = .ok (.lload_n 1, 1) := by decide +kernel
theorem dX4_digest_156 : decode cX4_digest 156 = .ok (.ldc2_w 195, 3) := by decide +kernel
theorem dX4_digest_159 : decode cX4_digest 159 = .ok (.lmul, 1) := by decide +kernel
theorem dX4_digest_160 : decode cX4_digest 160 = .ok (.aload_n 0, 1) := by decide +kernel
theorem dX4_digest_161 : decode cX4_digest 161 = .ok (.iload_n 3, 1) := by decide +kernel
theorem dX4_digest_162 : decode cX4_digest 162 = .ok (.invokevirtual 190, 3) := by decide +kernel
theorem dX4_digest_165 : decode cX4_digest 165 = .ok (.i2l, 1) := by decide +kernel
theorem dX4_digest_166 : decode cX4_digest 166 = .ok (.ladd, 1) := by decide +kernel
theorem dX4_digest_167 : decode cX4_digest 167 = .ok (.lstore_n 1, 1) := by decide +kernel
theorem dX4_digest_168 : decode cX4_digest 168 = .ok (.iinc 3 1, 3) := by decide +kernel
theorem dX4_digest_171 : decode cX4_digest 171 = .ok (.goto (-21), 3) := by decide +kernel
theorem dX4_digest_174 : decode cX4_digest 174 = .ok (.lload_n 1, 1) := by decide +kernel
theorem dX4_digest_175 : decode cX4_digest 175 = .ok (.lreturn, 1) := by decide +kernel
