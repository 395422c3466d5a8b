theorem dX4_init_0 : decode cX4_init 0 = .ok (.aload_n 0, 1) := by decide +kernel
theorem dX4_init_1 : decode cX4_init 1 = .ok (.invokespecial 1, 3) := by decide +kernel
theorem dX4_init_4 : decode cX4_init 4 = .ok (.aload_n 0, 1) := by decide +kernel
theorem dX4_init_5 : decode cX4_init 5 = .ok (.bipush 60, 2) := by decide +kernel
theorem dX4_init_7 : decode cX4_init 7 = .ok (.newarray .int, 2) := by decide +kernel
theorem dX4_init_9 : decode cX4_init 9 = .ok (.putfield 9, 3) := by decide +kernel
theorem dX4_init_12 : decode cX4_init 12 = .ok (.aload_n 0, 1) := by decide +kernel
theorem dX4_init_13 : decode cX4_init 13 = .ok (.bipush 20, 2) := by decide +kernel
theorem dX4_init_15 : decode cX4_init 15 = .ok (.putfield 13, 3) := by decide +kernel
theorem dX4_init_18 : decode cX4_init 18 = .ok (.aload_n 0, 1) := by decide +kernel
theorem dX4_init_19 : decode cX4_init 19 = .ok (.bipush 60, 2) := by decide +kernel
theorem dX4_init_21 : decode cX4_init 21 = .ok (.putfield 17, 3) := by decide +kernel
theorem dX4_init_24 : decode cX4_init 24 = .ok (.aload_n 0, 1) := by decide +kernel
theorem dX4_init_25 : decode cX4_init 25 = .ok (.sipush 2000, 3) := by decide +kernel
theorem dX4_init_28 : decode cX4_init 28 = .ok (.putfield 20, 3) := by decide +kernel
theorem dX4_init_31 : decode cX4_init 31 = .ok (.aload_n 0, 1) := by decide +kernel
theorem dX4_init_32 : decode cX4_init 32 = .ok (.sipush 366, 3) := by decide +kernel
theorem dX4_init_35 : decode cX4_init 35 = .ok (.newarray .int, 2) := by decide +kernel
theorem dX4_init_37 : decode cX4_init 37 = .ok (.putfield 23, 3) := by decide +kernel
theorem dX4_init_40 : decode cX4_init 40 = .ok (.aload_n 0, 1) := by decide +kernel
theorem dX4_init_41 : decode cX4_init 41 = .ok (.bipush 61, 2) := by decide +kernel
theorem dX4_init_43 : decode cX4_init 43 = .ok (.newarray .int, 2) := by decide +kernel
theorem dX4_init_45 : decode cX4_init 45 = .ok (.putfield 26, 3) := by decide +kernel
theorem dX4_init_48 : decode cX4_init 48 = .ok (.aload_n 0, 1) := by decide +kernel
theorem dX4_init_49 : decode cX4_init 49 = .ok (.bipush 20, 2) := by decide +kernel
theorem dX4_init_51 : decode cX4_init 51 = .ok (.newarray .int, 2) := by decide +kernel
theorem dX4_init_53 : decode cX4_init 53 = .ok (.putfield 29, 3) := by decide +kernel
theorem dX4_init_56 : decode cX4_init 56 = .ok (.aload_n 0, 1) := by decide +kernel
theorem dX4_init_57 : decode cX4_init 57 = .ok (.bipush 20, 2) := by decide +kernel
theorem dX4_init_59 : decode cX4_init 59 = .ok (.newarray .int, 2) := by decide +kernel
theorem dX4_init_61 : decode cX4_init 61 = .ok (.putfield 32, 3) := by decide +kernel
theorem dX4_init_64 : decode cX4_init 64 = .ok (.return_, 1) := by decide +kernel
theorem dX4_isIn_0 : decode cX4_isIn 0 = .ok (.iload_n 0, 1) := by decide +kernel
theorem dX4_isIn_1 : decode cX4_isIn 1 = .ok (.iload_n 1, 1) := by decide +kernel
theorem dX4_isIn_2 : decode cX4_isIn 2 = .ok (.if_icmp .lt 12, 3) := by decide +kernel
theorem dX4_isIn_5 : decode cX4_isIn 5 = .ok (.iload_n 0, 1) := by decide +kernel
theorem dX4_isIn_6 : decode cX4_isIn 6 = .ok (.iload_n 2, 1) := by decide +kernel
theorem dX4_isIn_7 : decode cX4_isIn 7 = .ok (.if_icmp .gt 7, 3) := by decide +kernel
theorem dX4_isIn_10 : decode cX4_isIn 10 = .ok (.iconst 1, 1) := by decide +kernel
theorem dX4_isIn_11 : decode cX4_isIn 11 = .ok (.goto 4, 3) := by decide +kernel
theorem dX4_isIn_14 : decode cX4_isIn 14 = .ok (.iconst 0, 1) := by decide +kernel
theorem dX4_isIn_15 : decode cX4_isIn 15 = .ok (.ireturn, 1) := by decide +kernel
set_option maxRecDepth 20000 in
theorem ggX4_isKind_X4_isIn : GoodIn wsX4_isKind wsX4_isIn := goodIn_r _ [5] (by decide +kernel) (by decide +kernel)
set_option maxRecDepth 20000 in
theorem gX4_isKind_X4_isIn : GoodIn wsX4_isKind (va_wsS RX4 41 yX4_isIn wsX4_isIn) := goodIn_app (goodIn_of _ (by decide +kernel)) ggX4_isKind_X4_isIn
theorem dX4_isKind_0 : decode cX4_isKind 0 = .ok (.iload_n 1, 1) := by decide +kernel
theorem dX4_isKind_1 : decode cX4_isKind 1 = .ok (.iconst 0, 1) := by decide +kernel
theorem dX4_isKind_2 : decode cX4_isKind 2 = .ok (.aload_n 0, 1) := by decide +kernel
theorem dX4_isKind_3 : decode cX4_isKind 3 = .ok (.getfield 38, 3) := by decide +kernel
theorem dX4_isKind_6 : decode cX4_isKind 6 = .ok (.iconst 1, 1) := by decide +kernel
theorem dX4_isKind_7 : decode cX4_isKind 7 = .ok (.isub, 1) := by decide +kernel
theorem dX4_isKind_8 : decode cX4_isKind 8 = .ok (.invokestatic 41, 3) := by decide +kernel
theorem dX4_isKind_11 : decode cX4_isKind 11 = .ok (.ireturn, 1) := by decide +kernel
theorem dX4_kind_0 : decode cX4_kind 0 = .ok (.aload_n 0, 1) := by decide +kernel
theorem dX4_kind_1 : decode cX4_kind 1 = .ok (.getfield 9, 3) := by decide +kernel
theorem dX4_kind_4 : decode cX4_kind 4 = .ok (.bipush 6, 2) := by decide +kernel
theorem dX4_kind_6 : decode cX4_kind 6 = .ok (.iload_n 1, 1) := by decide +kernel
theorem dX4_kind_7 : decode cX4_kind 7 = .ok (.imul, 1) := by decide +kernel
theorem dX4_kind_8 : decode cX4_kind 8 = .ok (.iload_n 2, 1) := by decide +kernel
theorem dX4_kind_9 : decode cX4_kind 9 = .ok (.iadd, 1) := by decide +kernel
theorem dX4_kind_10 : decode cX4_kind 10 = .ok (.iaload, 1) := by decide +kernel
theorem dX4_kind_11 : decode cX4_kind 11 = .ok (.ireturn, 1) := by decide +kernel
theorem dX4_canTurn_0 : decode cX4_canTurn 0 = .ok (.iload_n 0, 1) := by decide +kernel
theorem dX4_canTurn_1 : decode cX4_canTurn 1 = .ok (.iconst 2, 1) := by decide +kernel
theorem dX4_canTurn_2 : decode cX4_canTurn 2 = .ok (.irem, 1) := by decide +kernel
theorem dX4_canTurn_3 : decode cX4_canTurn 3 = .ok (.iconst 1, 1) := by decide +kernel
theorem dX4_canTurn_4 : decode cX4_canTurn 4 = .ok (.if_icmp .ne 7, 3) := by decide +kernel
theorem dX4_canTurn_7 : decode cX4_canTurn 7 = .ok (.iconst 1, 1) := by decide +kernel
theorem dX4_canTurn_8 : decode cX4_canTurn 8 = .ok (.goto 4, 3) := by decide +kernel
theorem dX4_canTurn_11 : decode cX4_canTurn 11 = .ok (.iconst 0, 1) := by decide +kernel
theorem dX4_canTurn_12 : decode cX4_canTurn 12 = .ok (.ireturn, 1) := by decide +kernel
theorem dX4_needsDeck_0 : decode cX4_needsDeck 0 = .ok (.iload_n 0, 1) := by decide +kernel
theorem dX4_needsDeck_1 : decode cX4_needsDeck 1 = .ok (.iconst 1, 1) := by decide +kernel
theorem dX4_needsDeck_2 : decode cX4_needsDeck 2 = .ok (.if_icmp .le 7, 3) := by decide +kernel
theorem dX4_needsDeck_5 : decode cX4_needsDeck 5 = .ok (.iconst 1, 1) := by decide +kernel
theorem dX4_needsDeck_6 : decode cX4_needsDeck 6 = .ok (.goto 4, 3) := by decide +kernel
theorem dX4_needsDeck_9 : decode cX4_needsDeck 9 = .ok (.iconst 0, 1) := by decide +kernel
theorem dX4_needsDeck_10 : decode cX4_needsDeck 10 = .ok (.ireturn, 1) := by decide +kernel
set_option maxRecDepth 20000 in
theorem ggX4_addKind_X4_isIn : GoodIn wsX4_addKind wsX4_isIn := goodIn_r _ [12] (by decide +kernel) (by decide +kernel)
set_option maxRecDepth 20000 in
theorem gX4_addKind_X4_isIn : GoodIn wsX4_addKind (va_wsS RX4 41 yX4_isIn wsX4_isIn) := goodIn_app (goodIn_of _ (by decide +kernel)) ggX4_addKind_X4_isIn
theorem dX4_addKind_0 : decode cX4_addKind 0 = .ok (.aload_n 0, 1) := by decide +kernel
theorem dX4_addKind_1 : decode cX4_addKind 1 = .ok (.iconst 0, 1) := by decide +kernel
theorem dX4_addKind_2 : decode cX4_addKind 2 = .ok (.putfield 35, 3) := by decide +kernel
theorem dX4_addKind_5 : decode cX4_addKind 5 = .ok (.iload_n 1, 1) := by decide +kernel
theorem dX4_addKind_6 : decode cX4_addKind 6 = .ok (.iconst 1, 1) := by decide +kernel
theorem dX4_addKind_7 : decode cX4_addKind 7 = .ok (.bipush 6, 2) := by decide +kernel
theorem dX4_addKind_9 : decode cX4_addKind 9 = .ok (.invokestatic 41, 3) := by decide +kernel
theorem dX4_addKind_12 : decode cX4_addKind 12 = .ok (.ifCond .eq 57, 3) := by decide +kernel
theorem dX4_addKind_15 : decode cX4_addKind 15 = .ok (.iload_n 2, 1) := by decide +kernel
theorem dX4_addKind_16 : decode cX4_addKind 16 = .ok (.iconst 1, 1) := by decide +kernel
theorem dX4_addKind_17 : decode cX4_addKind 17 = .ok (.bipush 6, 2) := by decide +kernel
theorem dX4_addKind_19 : decode cX4_addKind 19 = .ok (.invokestatic 41, 3) := by decide +kernel
theorem dX4_addKind_22 : decode cX4_addKind 22 = .ok (.ifCond .eq 47, 3) := by decide +kernel
theorem dX4_addKind_25 : decode cX4_addKind 25 = .ok (.iload_n 3, 1) := by decide +kernel
theorem dX4_addKind_26 : decode cX4_addKind 26 = .ok (.iconst 1, 1) := by decide +kernel
theorem dX4_addKind_27 : decode cX4_addKind 27 = .ok (.bipush 8, 2) := by decide +kernel
theorem dX4_addKind_29 : decode cX4_addKind 29 = .ok (.invokestatic 41, 3) := by decide +kernel
theorem dX4_addKind_32 : decode cX4_addKind 32 = .ok (.ifCond .eq 37, 3) := by decide +kernel
theorem dX4_addKind_35 : decode cX4_addKind 35 = .ok (.iload 4, 2) := by decide +kernel
theorem dX4_addKind_37 : decode cX4_addKind 37 = .ok (.iconst 1, 1) := by decide +kernel
theorem dX4_addKind_38 : decode cX4_addKind 38 = .ok (.sipush 500, 3) := by decide +kernel
theorem dX4_addKind_41 : decode cX4_addKind 41 = .ok (.invokestatic 41, 3) := by decide +kernel
theorem dX4_addKind_44 : decode cX4_addKind 44 = .ok (.ifCond .eq 25, 3) := by decide +kernel
theorem dX4_addKind_47 : decode cX4_addKind 47 = .ok (.iload 5, 2) := by decide +kernel
theorem dX4_addKind_49 : decode cX4_addKind 49 = .ok (.iconst 0, 1) := by decide +kernel
theorem dX4_addKind_50 : decode cX4_addKind 50 = .ok (.sipush 5000, 3) := by decide +kernel
theorem dX4_addKind_53 : decode cX4_addKind 53 = .ok (.invokestatic 41, 3) := by decide +kernel
theorem dX4_addKind_56 : decode cX4_addKind 56 = .ok (.ifCond .eq 13, 3) := by decide +kernel
theorem dX4_addKind_59 : decode cX4_addKind 59 = .ok (.iload 6, 2) := by decide +kernel
theorem dX4_addKind_61 : decode cX4_addKind 61 = .ok (.iconst 0, 1) := by decide +kernel
theorem dX4_addKind_62 : decode cX4_addKind 62 = .ok (.iconst 3, 1) := by decide +kernel
theorem dX4_addKind_63 : decode cX4_addKind 63 = .ok (.invokestatic 41, 3) := by decide +kernel
theorem dX4_addKind_66 : decode cX4_addKind 66 = .ok (.ifCond .ne 9, 3) := by decide +kernel
theorem dX4_addKind_69 : decode cX4_addKind 69 = .ok (.aload_n 0, 1) := by decide +kernel
theorem dX4_addKind_70 : decode cX4_addKind 70 = .ok (.iconst 1, 1) := by decide +kernel
theorem dX4_addKind_71 : decode cX4_addKind 71 = .ok (.invokevirtual 45, 3) := by decide +kernel
theorem dX4_addKind_74 : decode cX4_addKind 74 = .ok (.ireturn, 1) := by decide +kernel
theorem dX4_addKind_75 : decode cX4_addKind 75 = .ok (.aload_n 0, 1) := by decide +kernel
theorem dX4_addKind_76 : decode cX4_addKind 76 = .ok (.getfield 38, 3) := by decide +kernel
theorem dX4_addKind_79 : decode cX4_addKind 79 = .ok (.bipush 10, 2) := by decide +kernel
theorem dX4_addKind_81 : decode cX4_addKind 81 = .ok (.if_icmp .ne 9, 3) := by decide +kernel
theorem dX4_addKind_84 : decode cX4_addKind 84 = .ok (.aload_n 0, 1) := by decide +kernel
theorem dX4_addKind_85 : decode cX4_addKind 85 = .ok (.iconst 2, 1) := by decide +kernel
theorem dX4_addKind_86 : decode cX4_addKind 86 = .ok (.invokevirtual 45, 3) := by decide +kernel
theorem dX4_addKind_89 : decode cX4_addKind 89 = .ok (.ireturn, 1) := by decide +kernel
theorem dX4_addKind_90 : decode cX4_addKind 90 = .ok (.bipush 6, 2) := by decide +kernel
theorem dX4_addKind_92 : decode cX4_addKind 92 = .ok (.newarray .int, 2) := by decide +kernel
theorem dX4_addKind_94 : decode cX4_addKind 94 = .ok (.dup, 1) := by decide +kernel
theorem dX4_addKind_95 : decode cX4_addKind 95 = .ok (.iconst 0, 1) := by decide +kernel
theorem dX4_addKind_96 : decode cX4_addKind 96 = .ok (.iload_n 1, 1) := by decide +kernel
theorem dX4_addKind_97 : decode cX4_addKind 97 = .ok (.iastore, 1) := by decide +kernel
theorem dX4_addKind_98 : decode cX4_addKind 98 = .ok (.dup, 1) := by decide +kernel
theorem dX4_addKind_99 : decode cX4_addKind 99 = .ok (.iconst 1, 1) := by decide +kernel
theorem dX4_addKind_100 : decode cX4_addKind 100 = .ok (.iload_n 2, 1) := by decide +kernel
theorem dX4_addKind_101 : decode cX4_addKind 101 = .ok (.iastore, 1) := by decide +kernel
theorem dX4_addKind_102 : decode cX4_addKind 102 = .ok (.dup, 1) := by decide +kernel
theorem dX4_addKind_103 : decode cX4_addKind 103 = .ok (.iconst 2, 1) := by decide +kernel
theorem dX4_addKind_104 : decode cX4_addKind 104 = .ok (.iload_n 3, 1) := by decide +kernel
theorem dX4_addKind_105 : decode cX4_addKind 105 = .ok (.iastore, 1) := by decide +kernel
theorem dX4_addKind_106 : decode cX4_addKind 106 = .ok (.dup, 1) := by decide +kernel
theorem dX4_addKind_107 : decode cX4_addKind 107 = .ok (.iconst 3, 1) := by decide +kernel
theorem dX4_addKind_108 : decode cX4_addKind 108 = .ok (.iload 4, 2) := by decide +kernel
theorem dX4_addKind_110 : decode cX4_addKind 110 = .ok (.iastore, 1) := by decide +kernel
theorem dX4_addKind_111 : decode cX4_addKind 111 = .ok (.dup, 1) := by decide +kernel
theorem dX4_addKind_112 : decode cX4_addKind 112 = .ok (.iconst 4, 1) := by decide +kernel
theorem dX4_addKind_113 : decode cX4_addKind 113 = .ok (.iload 5, 2) := by decide +kernel
theorem dX4_addKind_115 : decode cX4_addKind 115 = .ok (.iastore, 1) := by decide +kernel
theorem dX4_addKind_116 : decode cX4_addKind 116 = .ok (.dup, 1) := by decide +kernel
theorem dX4_addKind_117 : decode cX4_addKind 117 = .ok (.iconst 5, 1) := by decide +kernel
theorem dX4_addKind_118 : decode cX4_addKind 118 = .ok (.iload 6, 2) := by decide +kernel
theorem dX4_addKind_120 : decode cX4_addKind 120 = .ok (.iastore, 1) := by decide +kernel
theorem dX4_addKind_121 : decode cX4_addKind 121 = .ok (.astore 7, 2) := by decide +kernel
theorem dX4_addKind_123 : decode cX4_addKind 123 = .ok (.aload 7, 2) := by decide +kernel
theorem dX4_addKind_125 : decode cX4_addKind 125 = .ok (.iconst 0, 1) := by decide +kernel
theorem dX4_addKind_126 : decode cX4_addKind 126 = .ok (.aload_n 0, 1) := by decide +kernel
theorem dX4_addKind_127 : decode cX4_addKind 127 = .ok (.getfield 9, 3) := by decide +kernel
theorem dX4_addKind_130 : decode cX4_addKind 130 = .ok (.bipush 6, 2) := by decide +kernel
theorem dX4_addKind_132 : decode cX4_addKind 132 = .ok (.aload_n 0, 1) := by decide +kernel
theorem dX4_addKind_133 : decode cX4_addKind 133 = .ok (.getfield 38, 3) := by decide +kernel
theorem dX4_addKind_136 : decode cX4_addKind 136 = .ok (.imul, 1) := by decide +kernel
theorem dX4_addKind_137 : decode cX4_addKind 137 = .ok (.bipush 6, 2) := by decide +kernel
theorem dX4_addKind_139 : decode cX4_addKind 139 = .ok (.invokestatic 49, 3) := by decide +kernel
theorem dX4_addKind_142 : decode cX4_addKind 142 = .ok (.aload_n 0, 1) := by decide +kernel
theorem dX4_addKind_143 : decode cX4_addKind 143 = .ok (.dup, 1) := by decide +kernel
theorem dX4_addKind_144 : decode cX4_addKind 144 = .ok (.getfield 38, 3) := by decide +kernel
theorem dX4_addKind_147 : decode cX4_addKind 147 = .ok (.iconst 1, 1) := by decide +kernel
theorem dX4_addKind_148 : decode cX4_addKind 148 = .ok (.iadd, 1) := by decide +kernel
theorem dX4_addKind_149 : decode cX4_addKind 149 = .ok (.putfield 38, 3) := by decide +kernel
theorem dX4_addKind_152 : decode cX4_addKind 152 = .ok (.aload_n 0, 1) := by decide +kernel
theorem dX4_addKind_153 : decode cX4_addKind 153 = .ok (.getfield 38, 3) := by decide +kernel
theorem dX4_addKind_156 : decode cX4_addKind 156 = .ok (.iconst 1, 1) := by decide +kernel
theorem dX4_addKind_157 : decode cX4_addKind 157 = .ok (.isub, 1) := by decide +kernel
theorem dX4_addKind_158 : decode cX4_addKind 158 = .ok (.ireturn, 1) := by decide +kernel
set_option maxRecDepth 20000 in
theorem ggX4_setRules_X4_isIn : GoodIn wsX4_setRules wsX4_isIn := goodIn_r _ [9] (by decide +kernel) (by decide +kernel)
set_option maxRecDepth 20000 in
theorem gX4_setRules_X4_isIn : GoodIn wsX4_setRules (va_wsS RX4 41 yX4_isIn wsX4_isIn) := goodIn_app (goodIn_of _ (by decide +kernel)) ggX4_setRules_X4_isIn
theorem dX4_setRules_0 : decode cX4_setRules 0 = .ok (.aload_n 0, 1) := by decide +kernel
theorem dX4_setRules_1 : decode cX4_setRules 1 = .ok (.iconst 0, 1) := by decide +kernel
theorem dX4_setRules_2 : decode cX4_setRules 2 = .ok (.putfield 35, 3) := by decide +kernel
theorem dX4_setRules_5 : decode cX4_setRules 5 = .ok (.iload_n 1, 1) := by decide +kernel
theorem dX4_setRules_6 : decode cX4_setRules 6 = .ok (.iconst 1, 1) := by decide +kernel
theorem dX4_setRules_7 : decode cX4_setRules 7 = .ok (.bipush 40, 2) := by decide +kernel
theorem dX4_setRules_9 : decode cX4_setRules 9 = .ok (.invokestatic 41, 3) := by decide +kernel
theorem dX4_setRules_12 : decode cX4_setRules 12 = .ok (.ifCond .eq 24, 3) := by decide +kernel
theorem dX4_setRules_15 : decode cX4_setRules 15 = .ok (.iload_n 2, 1) := by decide +kernel
theorem dX4_setRules_16 : decode cX4_setRules 16 = .ok (.iconst 0, 1) := by decide +kernel
theorem dX4_setRules_17 : decode cX4_setRules 17 = .ok (.bipush 100, 2) := by decide +kernel
theorem dX4_setRules_19 : decode cX4_setRules 19 = .ok (.invokestatic 41, 3) := by decide +kernel
theorem dX4_setRules_22 : decode cX4_setRules 22 = .ok (.ifCond .eq 14, 3) := by decide +kernel
theorem dX4_setRules_25 : decode cX4_setRules 25 = .ok (.iload_n 3, 1) := by decide +kernel
theorem dX4_setRules_26 : decode cX4_setRules 26 = .ok (.iconst 1, 1) := by decide +kernel
theorem dX4_setRules_27 : decode cX4_setRules 27 = .ok (.sipush 20000, 3) := by decide +kernel
theorem dX4_setRules_30 : decode cX4_setRules 30 = .ok (.invokestatic 41, 3) := by decide +kernel
theorem dX4_setRules_33 : decode cX4_setRules 33 = .ok (.ifCond .ne 9, 3) := by decide +kernel
theorem dX4_setRules_36 : decode cX4_setRules 36 = .ok (.aload_n 0, 1) := by decide +kernel
theorem dX4_setRules_37 : decode cX4_setRules 37 = .ok (.iconst 1, 1) := by decide +kernel
theorem dX4_setRules_38 : decode cX4_setRules 38 = .ok (.invokevirtual 45, 3) := by decide +kernel
theorem dX4_setRules_41 : decode cX4_setRules 41 = .ok (.ireturn, 1) := by decide +kernel
theorem dX4_setRules_42 : decode cX4_setRules 42 = .ok (.aload_n 0, 1) := by decide +kernel
theorem dX4_setRules_43 : decode cX4_setRules 43 = .ok (.getfield 13, 3) := by decide +kernel
theorem dX4_setRules_46 : decode cX4_setRules 46 = .ok (.istore 5, 2) := by decide +kernel
theorem dX4_setRules_48 : decode cX4_setRules 48 = .ok (.aload_n 0, 1) := by decide +kernel
theorem dX4_setRules_49 : decode cX4_setRules 49 = .ok (.iload_n 1, 1) := by decide +kernel
theorem dX4_setRules_50 : decode cX4_setRules 50 = .ok (.putfield 13, 3) := by decide +kernel
theorem dX4_setRules_53 : decode cX4_setRules 53 = .ok (.aload_n 0, 1) := by decide +kernel
theorem dX4_setRules_54 : decode cX4_setRules 54 = .ok (.iload_n 2, 1) := by decide +kernel
theorem dX4_setRules_55 : decode cX4_setRules 55 = .ok (.putfield 17, 3) := by decide +kernel
theorem dX4_setRules_58 : decode cX4_setRules 58 = .ok (.aload_n 0, 1) := by decide +kernel
theorem dX4_setRules_59 : decode cX4_setRules 59 = .ok (.iload_n 3, 1) := by decide +kernel
theorem dX4_setRules_60 : decode cX4_setRules 60 = .ok (.putfield 20, 3) := by decide +kernel
theorem dX4_setRules_63 : decode cX4_setRules 63 = .ok (.aload_n 0, 1) := by decide +kernel
theorem dX4_setRules_64 : decode cX4_setRules 64 = .ok (.iload 4, 2) := by decide +kernel
theorem dX4_setRules_66 : decode cX4_setRules 66 = .ok (.putfield 55, 3) := by decide +kernel
theorem dX4_setRules_69 : decode cX4_setRules 69 = .ok (.iload 5, 2) := by decide +kernel
theorem dX4_setRules_71 : decode cX4_setRules 71 = .ok (.ireturn, 1) := by decide +kernel
theorem dX4_get_0 : decode cX4_get 0 = .ok (.aload_n 0, 1) := by decide +kernel
theorem dX4_get_1 : decode cX4_get 1 = .ok (.getfield 23, 3) := by decide +kernel
theorem dX4_get_4 : decode cX4_get 4 = .ok (.bipush 6, 2) := by decide +kernel
theorem dX4_get_6 : decode cX4_get 6 = .ok (.iload_n 1, 1) := by decide +kernel
theorem dX4_get_7 : decode cX4_get 7 = .ok (.imul, 1) := by decide +kernel
theorem dX4_get_8 : decode cX4_get 8 = .ok (.iload_n 2, 1) := by decide +kernel
theorem dX4_get_9 : decode cX4_get 9 = .ok (.iadd, 1) := by decide +kernel
theorem dX4_get_10 : decode cX4_get 10 = .ok (.iaload, 1) := by decide +kernel
theorem dX4_get_11 : decode cX4_get 11 = .ok (.ireturn, 1) := by decide +kernel
set_option maxRecDepth 20000 in
theorem ggX4_topOf_X4_get : GoodIn wsX4_topOf wsX4_get := goodIn_r _ [5, 6, 12, 13, 14, 15, 16, 17, 18, 19, 20, 21, 22, 23, 24, 25] (by decide +kernel) (by decide +kernel)
set_option maxRecDepth 20000 in
theorem gX4_topOf_X4_get : GoodIn wsX4_topOf (wsV RX4 76 RX4 yX4_get wsX4_get) := goodIn_app (goodIn_of _ (by decide +kernel)) ggX4_topOf_X4_get
set_option maxRecDepth 20000 in
theorem ggX4_topOf_X4_kind : GoodIn wsX4_topOf wsX4_kind := goodIn_r _ [10, 11, 12, 13, 14, 15, 16, 17, 18, 19, 20, 21, 22, 23, 24, 25] (by decide +kernel) (by decide +kernel)
set_option maxRecDepth 20000 in
theorem gX4_topOf_X4_kind : GoodIn wsX4_topOf (wsV RX4 80 RX4 yX4_kind wsX4_kind) := goodIn_app (goodIn_of _ (by decide +kernel)) ggX4_topOf_X4_kind
theorem dX4_topOf_0 : decode cX4_topOf 0 = .ok (.aload_n 0, 1) := by decide +kernel
theorem dX4_topOf_1 : decode cX4_topOf 1 = .ok (.iload_n 1, 1) := by decide +kernel
theorem dX4_topOf_2 : decode cX4_topOf 2 = .ok (.iconst 3, 1) := by decide +kernel
theorem dX4_topOf_3 : decode cX4_topOf 3 = .ok (.invokevirtual 76, 3) := by decide +kernel
theorem dX4_topOf_6 : decode cX4_topOf 6 = .ok (.aload_n 0, 1) := by decide +kernel
theorem dX4_topOf_7 : decode cX4_topOf 7 = .ok (.aload_n 0, 1) := by decide +kernel
theorem dX4_topOf_8 : decode cX4_topOf 8 = .ok (.iload_n 1, 1) := by decide +kernel
theorem dX4_topOf_9 : decode cX4_topOf 9 = .ok (.iconst 0, 1) := by decide +kernel
theorem dX4_topOf_10 : decode cX4_topOf 10 = .ok (.invokevirtual 76, 3) := by decide +kernel
theorem dX4_topOf_13 : decode cX4_topOf 13 = .ok (.iconst 2, 1) := by decide +kernel
theorem dX4_topOf_14 : decode cX4_topOf 14 = .ok (.invokevirtual 80, 3) := by decide +kernel
theorem dX4_topOf_17 : decode cX4_topOf 17 = .ok (.iadd, 1) := by decide +kernel
theorem dX4_topOf_18 : decode cX4_topOf 18 = .ok (.ireturn, 1) := by decide +kernel
set_option maxRecDepth 20000 in
theorem ggX4_lay_X4_topOf : GoodIn wsX4_lay wsX4_topOf := goodIn_r _ [47, 21, 22, 23, 15, 24, 2, 29, 30, 31, 32, 33, 48, 49, 50, 51, 52, 53, 54, 55, 56, 57, 58, 59, 60, 61] (by decide +kernel) (by decide +kernel)
set_option maxRecDepth 20000 in
theorem gX4_lay_X4_topOf : GoodIn wsX4_lay (wsV RX4 101 RX4 yX4_topOf wsX4_topOf) := goodIn_app (goodIn_of _ (by decide +kernel)) ggX4_lay_X4_topOf
theorem dX4_lay_0 : decode cX4_lay 0 = .ok (.bipush 6, 2) := by decide +kernel
theorem dX4_lay_2 : decode cX4_lay 2 = .ok (.newarray .int, 2) := by decide +kernel
theorem dX4_lay_4 : decode cX4_lay 4 = .ok (.dup, 1) := by decide +kernel
theorem dX4_lay_5 : decode cX4_lay 5 = .ok (.iconst 0, 1) := by decide +kernel
theorem dX4_lay_6 : decode cX4_lay 6 = .ok (.iload_n 2, 1) := by decide +kernel
theorem dX4_lay_7 : decode cX4_lay 7 = .ok (.iastore, 1) := by decide +kernel
theorem dX4_lay_8 : decode cX4_lay 8 = .ok (.dup, 1) := by decide +kernel
theorem dX4_lay_9 : decode cX4_lay 9 = .ok (.iconst 1, 1) := by decide +kernel
theorem dX4_lay_10 : decode cX4_lay 10 = .ok (.iload_n 3, 1) := by decide +kernel
theorem dX4_lay_11 : decode cX4_lay 11 = .ok (.iastore, 1) := by decide +kernel
theorem dX4_lay_12 : decode cX4_lay 12 = .ok (.dup, 1) := by decide +kernel
theorem dX4_lay_13 : decode cX4_lay 13 = .ok (.iconst 2, 1) := by decide +kernel
theorem dX4_lay_14 : decode cX4_lay 14 = .ok (.iload 4, 2) := by decide +kernel
theorem dX4_lay_16 : decode cX4_lay 16 = .ok (.iastore, 1) := by decide +kernel
theorem dX4_lay_17 : decode cX4_lay 17 = .ok (.dup, 1) := by decide +kernel
theorem dX4_lay_18 : decode cX4_lay 18 = .ok (.iconst 3, 1) := by decide +kernel
theorem dX4_lay_19 : decode cX4_lay 19 = .ok (.iconst 0, 1) := by decide +kernel
theorem dX4_lay_20 : decode cX4_lay 20 = .ok (.iastore, 1) := by decide +kernel
theorem dX4_lay_21 : decode cX4_lay 21 = .ok (.dup, 1) := by decide +kernel
theorem dX4_lay_22 : decode cX4_lay 22 = .ok (.iconst 4, 1) := by decide +kernel
theorem dX4_lay_23 : decode cX4_lay 23 = .ok (.iload 5, 2) := by decide +kernel
theorem dX4_lay_25 : decode cX4_lay 25 = .ok (.ifCond .eq 7, 3) := by decide +kernel
theorem dX4_lay_28 : decode cX4_lay 28 = .ok (.iconst 1, 1) := by decide +kernel
theorem dX4_lay_29 : decode cX4_lay 29 = .ok (.goto 4, 3) := by decide +kernel
theorem dX4_lay_32 : decode cX4_lay 32 = .ok (.iconst 0, 1) := by decide +kernel
theorem dX4_lay_33 : decode cX4_lay 33 = .ok (.iastore, 1) := by decide +kernel
theorem dX4_lay_34 : decode cX4_lay 34 = .ok (.dup, 1) := by decide +kernel
theorem dX4_lay_35 : decode cX4_lay 35 = .ok (.iconst 5, 1) := by decide +kernel
theorem dX4_lay_36 : decode cX4_lay 36 = .ok (.iconst 0, 1) := by decide +kernel
theorem dX4_lay_37 : decode cX4_lay 37 = .ok (.iastore, 1) := by decide +kernel
theorem dX4_lay_38 : decode cX4_lay 38 = .ok (.astore 6, 2) := by decide +kernel
theorem dX4_lay_40 : decode cX4_lay 40 = .ok (.aload 6, 2) := by decide +kernel
theorem dX4_lay_42 : decode cX4_lay 42 = .ok (.iconst 0, 1) := by decide +kernel
theorem dX4_lay_43 : decode cX4_lay 43 = .ok (.aload_n 0, 1) := by decide +kernel
theorem dX4_lay_44 : decode cX4_lay 44 = .ok (.getfield 23, 3) := by decide +kernel
theorem dX4_lay_47 : decode cX4_lay 47 = .ok (.bipush 6, 2) := by decide +kernel
theorem dX4_lay_49 : decode cX4_lay 49 = .ok (.iload_n 1, 1) := by decide +kernel
theorem dX4_lay_50 : decode cX4_lay 50 = .ok (.imul, 1) := by decide +kernel
theorem dX4_lay_51 : decode cX4_lay 51 = .ok (.bipush 6, 2) := by decide +kernel
theorem dX4_lay_53 : decode cX4_lay 53 = .ok (.invokestatic 49, 3) := by decide +kernel
theorem dX4_lay_56 : decode cX4_lay 56 = .ok (.iconst 0, 1) := by decide +kernel
theorem dX4_lay_57 : decode cX4_lay 57 = .ok (.istore 7, 2) := by decide +kernel
theorem dX4_lay_59 : decode cX4_lay 59 = .ok (.iconst 0, 1) := by decide +kernel
theorem dX4_lay_60 : decode cX4_lay 60 = .ok (.istore 8, 2) := by decide +kernel
theorem dX4_lay_62 : decode cX4_lay 62 = .ok (.iload 8, 2) := by decide +kernel
theorem dX4_lay_64 : decode cX4_lay 64 = .ok (.aload_n 0, 1) := by decide +kernel
theorem dX4_lay_65 : decode cX4_lay 65 = .ok (.getfield 59, 3) := by decide +kernel
theorem dX4_lay_68 : decode cX4_lay 68 = .ok (.if_icmp .ge 41, 3) := by decide +kernel
theorem dX4_lay_71 : decode cX4_lay 71 = .ok (.aload_n 0, 1) := by decide +kernel
theorem dX4_lay_72 : decode cX4_lay 72 = .ok (.iload 8, 2) := by decide +kernel
theorem dX4_lay_74 : decode cX4_lay 74 = .ok (.invokevirtual 62, 3) := by decide +kernel
theorem dX4_lay_77 : decode cX4_lay 77 = .ok (.ifCond .eq 26, 3) := by decide +kernel
theorem dX4_lay_80 : decode cX4_lay 80 = .ok (.aload_n 0, 1) := by decide +kernel
theorem dX4_lay_81 : decode cX4_lay 81 = .ok (.iload_n 1, 1) := by decide +kernel
theorem dX4_lay_82 : decode cX4_lay 82 = .ok (.iload 8, 2) := by decide +kernel
theorem dX4_lay_84 : decode cX4_lay 84 = .ok (.invokevirtual 104, 3) := by decide +kernel
theorem dX4_lay_87 : decode cX4_lay 87 = .ok (.ifCond .le 16, 3) := by decide +kernel
theorem dX4_lay_90 : decode cX4_lay 90 = .ok (.iload 7, 2) := by decide +kernel
theorem dX4_lay_92 : decode cX4_lay 92 = .ok (.aload_n 0, 1) := by decide +kernel
theorem dX4_lay_93 : decode cX4_lay 93 = .ok (.iload 8, 2) := by decide +kernel
theorem dX4_lay_95 : decode cX4_lay 95 = .ok (.invokevirtual 101, 3) := by decide +kernel
theorem dX4_lay_98 : decode cX4_lay 98 = .ok (.invokestatic 94, 3) := by decide +kernel
theorem dX4_lay_101 : decode cX4_lay 101 = .ok (.istore 7, 2) := by decide +kernel
theorem dX4_lay_103 : decode cX4_lay 103 = .ok (.iinc 8 1, 3) := by decide +kernel
theorem dX4_lay_106 : decode cX4_lay 106 = .ok (.goto (-44), 3) := by decide +kernel
theorem dX4_lay_109 : decode cX4_lay 109 = .ok (.aload_n 0, 1) := by decide +kernel
theorem dX4_lay_110 : decode cX4_lay 110 = .ok (.getfield 23, 3) := by decide +kernel
theorem dX4_lay_113 : decode cX4_lay 113 = .ok (.bipush 6, 2) := by decide +kernel
theorem dX4_lay_115 : decode cX4_lay 115 = .ok (.iload_n 1, 1) := by decide +kernel
theorem dX4_lay_116 : decode cX4_lay 116 = .ok (.imul, 1) := by decide +kernel
theorem dX4_lay_117 : decode cX4_lay 117 = .ok (.iconst 3, 1) := by decide +kernel
theorem dX4_lay_118 : decode cX4_lay 118 = .ok (.iadd, 1) := by decide +kernel
theorem dX4_lay_119 : decode cX4_lay 119 = .ok (.iload 7, 2) := by decide +kernel
theorem dX4_lay_121 : decode cX4_lay 121 = .ok (.iastore, 1) := by decide +kernel
theorem dX4_lay_122 : decode cX4_lay 122 = .ok (.return_, 1) := by decide +kernel
set_option maxRecDepth 20000 in
theorem ggX4_why_X4_kind : GoodIn wsX4_why wsX4_kind := goodIn_r _ [11, 12, 107, 108, 109, 110, 111, 112, 113, 114, 115, 116, 117, 118, 119, 120] (by decide +kernel) (by decide +kernel)
set_option maxRecDepth 20000 in
theorem gX4_why_X4_kind : GoodIn wsX4_why (wsV RX4 80 RX4 yX4_kind wsX4_kind) := goodIn_app (goodIn_of _ (by decide +kernel)) ggX4_why_X4_kind
set_option maxRecDepth 20000 in
theorem ggX4_why_X4_canTurn : GoodIn wsX4_why wsX4_canTurn := goodIn_r _ [15] (by decide +kernel) (by decide +kernel)
set_option maxRecDepth 20000 in
theorem gX4_why_X4_canTurn : GoodIn wsX4_why (va_wsS RX4 129 yX4_canTurn wsX4_canTurn) := goodIn_app (goodIn_of _ (by decide +kernel)) ggX4_why_X4_canTurn
set_option maxRecDepth 20000 in
theorem ggX4_why_X4_isIn : GoodIn wsX4_why wsX4_isIn := goodIn_r _ [18] (by decide +kernel) (by decide +kernel)
set_option maxRecDepth 20000 in
theorem gX4_why_X4_isIn : GoodIn wsX4_why (va_wsS RX4 41 yX4_isIn wsX4_isIn) := goodIn_app (goodIn_of _ (by decide +kernel)) ggX4_why_X4_isIn
set_option maxRecDepth 20000 in
theorem ggX4_why_X4_lay : GoodIn wsX4_why wsX4_lay := goodIn_r _ [22, 23, 2, 24, 25, 26, 27, 28, 29, 30, 31, 32, 33, 34, 35, 10, 36, 37, 38, 39, 40, 41, 42, 43, 44, 45, 46, 47, 48, 7, 8, 9, 11, 12, 49, 50, 51, 52, 53, 54, 55, 56, 57, 58, 59, 60, 61, 62, 107, 108, 109, 110, 111, 112, 113, 114, 115, 116, 117, 118, 119, 120] (by decide +kernel) (by decide +kernel)
set_option maxRecDepth 20000 in
theorem gX4_why_X4_lay : GoodIn wsX4_why (wsV RX4 132 RX4 yX4_lay wsX4_lay) := goodIn_app (goodIn_of _ (by decide +kernel)) ggX4_why_X4_lay
set_option maxRecDepth 20000 in
theorem ggX4_why_X4_topOf : GoodIn wsX4_why wsX4_topOf := goodIn_r _ [62, 41, 42, 43, 10, 44, 2, 7, 8, 9, 11, 12, 107, 108, 109, 110, 111, 112, 113, 114, 115, 116, 117, 118, 119, 120] (by decide +kernel) (by decide +kernel)
set_option maxRecDepth 20000 in
theorem gX4_why_X4_topOf : GoodIn wsX4_why (wsV RX4 101 RX4 yX4_topOf wsX4_topOf) := goodIn_app (goodIn_of _ (by decide +kernel)) ggX4_why_X4_topOf
set_option maxRecDepth 20000 in
theorem ggX4_why_X4_needsDeck : GoodIn wsX4_why wsX4_needsDeck := goodIn_r _ [65] (by decide +kernel) (by decide +kernel)
set_option maxRecDepth 20000 in
theorem gX4_why_X4_needsDeck : GoodIn wsX4_why (va_wsS RX4 136 yX4_needsDeck wsX4_needsDeck) := goodIn_app (goodIn_of _ (by decide +kernel)) ggX4_why_X4_needsDeck
set_option maxRecDepth 20000 in
theorem ggX4_why_X4_get : GoodIn wsX4_why wsX4_get := goodIn_r _ [44, 2, 107, 108, 109, 110, 111, 112, 113, 114, 115, 116, 117, 118, 119, 120] (by decide +kernel) (by decide +kernel)
set_option maxRecDepth 20000 in
theorem gX4_why_X4_get : GoodIn wsX4_why (wsV RX4 76 RX4 yX4_get wsX4_get) := goodIn_app (goodIn_of _ (by decide +kernel)) ggX4_why_X4_get
theorem dX4_why_0 : decode cX4_why 0 = .ok (.aload_n 0, 1) := by decide +kernel
theorem dX4_why_1 : decode cX4_why 1 = .ok (.iload_n 1, 1) := by decide +kernel
theorem dX4_why_2 : decode cX4_why 2 = .ok (.iconst 5, 1) := by decide +kernel
theorem dX4_why_3 : decode cX4_why 3 = .ok (.invokevirtual 80, 3) := by decide +kernel
theorem dX4_why_6 : decode cX4_why 6 = .ok (.istore 5, 2) := by decide +kernel
theorem dX4_why_8 : decode cX4_why 8 = .ok (.iload 4, 2) := by decide +kernel
theorem dX4_why_10 : decode cX4_why 10 = .ok (.ifCond .eq 13, 3) := by decide +kernel
theorem dX4_why_13 : decode cX4_why 13 = .ok (.iload 5, 2) := by decide +kernel
theorem dX4_why_15 : decode cX4_why 15 = .ok (.invokestatic 129, 3) := by decide +kernel
theorem dX4_why_18 : decode cX4_why 18 = .ok (.ifCond .ne 5, 3) := by decide +kernel
theorem dX4_why_21 : decode cX4_why 21 = .ok (.iconst 1, 1) := by decide +kernel
theorem dX4_why_22 : decode cX4_why 22 = .ok (.ireturn, 1) := by decide +kernel
theorem dX4_why_23 : decode cX4_why 23 = .ok (.aload_n 0, 1) := by decide +kernel
theorem dX4_why_24 : decode cX4_why 24 = .ok (.iload_n 1, 1) := by decide +kernel
theorem dX4_why_25 : decode cX4_why 25 = .ok (.iload 4, 2) := by decide +kernel
theorem dX4_why_27 : decode cX4_why 27 = .ok (.ifCond .eq 7, 3) := by decide +kernel
theorem dX4_why_30 : decode cX4_why 30 = .ok (.iconst 1, 1) := by decide +kernel
theorem dX4_why_31 : decode cX4_why 31 = .ok (.goto 4, 3) := by decide +kernel
theorem dX4_why_34 : decode cX4_why 34 = .ok (.iconst 0, 1) := by decide +kernel
theorem dX4_why_35 : decode cX4_why 35 = .ok (.invokevirtual 80, 3) := by decide +kernel
theorem dX4_why_38 : decode cX4_why 38 = .ok (.istore 6, 2) := by decide +kernel
theorem dX4_why_40 : decode cX4_why 40 = .ok (.aload_n 0, 1) := by decide +kernel
theorem dX4_why_41 : decode cX4_why 41 = .ok (.iload_n 1, 1) := by decide +kernel
theorem dX4_why_42 : decode cX4_why 42 = .ok (.iload 4, 2) := by decide +kernel
theorem dX4_why_44 : decode cX4_why 44 = .ok (.ifCond .eq 7, 3) := by decide +kernel
theorem dX4_why_47 : decode cX4_why 47 = .ok (.iconst 0, 1) := by decide +kernel
theorem dX4_why_48 : decode cX4_why 48 = .ok (.goto 4, 3) := by decide +kernel
theorem dX4_why_51 : decode cX4_why 51 = .ok (.iconst 1, 1) := by decide +kernel
theorem dX4_why_52 : decode cX4_why 52 = .ok (.invokevirtual 80, 3) := by decide +kernel
theorem dX4_why_55 : decode cX4_why 55 = .ok (.istore 7, 2) := by decide +kernel
theorem dX4_why_57 : decode cX4_why 57 = .ok (.iload_n 2, 1) := by decide +kernel
theorem dX4_why_58 : decode cX4_why 58 = .ok (.iconst 0, 1) := by decide +kernel
theorem dX4_why_59 : decode cX4_why 59 = .ok (.bipush 12, 2) := by decide +kernel
theorem dX4_why_61 : decode cX4_why 61 = .ok (.iload 6, 2) := by decide +kernel
theorem dX4_why_63 : decode cX4_why 63 = .ok (.isub, 1) := by decide +kernel
theorem dX4_why_64 : decode cX4_why 64 = .ok (.invokestatic 41, 3) := by decide +kernel
theorem dX4_why_67 : decode cX4_why 67 = .ok (.ifCond .eq 16, 3) := by decide +kernel
theorem dX4_why_70 : decode cX4_why 70 = .ok (.iload_n 3, 1) := by decide +kernel
theorem dX4_why_71 : decode cX4_why 71 = .ok (.iconst 0, 1) := by decide +kernel
theorem dX4_why_72 : decode cX4_why 72 = .ok (.bipush 10, 2) := by decide +kernel
theorem dX4_why_74 : decode cX4_why 74 = .ok (.iload 7, 2) := by decide +kernel
theorem dX4_why_76 : decode cX4_why 76 = .ok (.isub, 1) := by decide +kernel
theorem dX4_why_77 : decode cX4_why 77 = .ok (.invokestatic 41, 3) := by decide +kernel
theorem dX4_why_80 : decode cX4_why 80 = .ok (.ifCond .ne 5, 3) := by decide +kernel
theorem dX4_why_83 : decode cX4_why 83 = .ok (.iconst 1, 1) := by decide +kernel
theorem dX4_why_84 : decode cX4_why 84 = .ok (.ireturn, 1) := by decide +kernel
theorem dX4_why_85 : decode cX4_why 85 = .ok (.aload_n 0, 1) := by decide +kernel
theorem dX4_why_86 : decode cX4_why 86 = .ok (.bipush 60, 2) := by decide +kernel
theorem dX4_why_88 : decode cX4_why 88 = .ok (.iload_n 1, 1) := by decide +kernel
theorem dX4_why_89 : decode cX4_why 89 = .ok (.iload_n 2, 1) := by decide +kernel
theorem dX4_why_90 : decode cX4_why 90 = .ok (.iload_n 3, 1) := by decide +kernel
theorem dX4_why_91 : decode cX4_why 91 = .ok (.iload 4, 2) := by decide +kernel
theorem dX4_why_93 : decode cX4_why 93 = .ok (.invokevirtual 132, 3) := by decide +kernel
theorem dX4_why_96 : decode cX4_why 96 = .ok (.aload_n 0, 1) := by decide +kernel
theorem dX4_why_97 : decode cX4_why 97 = .ok (.bipush 60, 2) := by decide +kernel
theorem dX4_why_99 : decode cX4_why 99 = .ok (.invokevirtual 101, 3) := by decide +kernel
theorem dX4_why_102 : decode cX4_why 102 = .ok (.aload_n 0, 1) := by decide +kernel
theorem dX4_why_103 : decode cX4_why 103 = .ok (.getfield 13, 3) := by decide +kernel
theorem dX4_why_106 : decode cX4_why 106 = .ok (.if_icmp .le 5, 3) := by decide +kernel
theorem dX4_why_109 : decode cX4_why 109 = .ok (.iconst 2, 1) := by decide +kernel
theorem dX4_why_110 : decode cX4_why 110 = .ok (.ireturn, 1) := by decide +kernel
theorem dX4_why_111 : decode cX4_why 111 = .ok (.iload 5, 2) := by decide +kernel
theorem dX4_why_113 : decode cX4_why 113 = .ok (.invokestatic 136, 3) := by decide +kernel
theorem dX4_why_116 : decode cX4_why 116 = .ok (.ifCond .eq 15, 3) := by decide +kernel
theorem dX4_why_119 : decode cX4_why 119 = .ok (.aload_n 0, 1) := by decide +kernel
theorem dX4_why_120 : decode cX4_why 120 = .ok (.bipush 60, 2) := by decide +kernel
theorem dX4_why_122 : decode cX4_why 122 = .ok (.iconst 3, 1) := by decide +kernel
theorem dX4_why_123 : decode cX4_why 123 = .ok (.invokevirtual 76, 3) := by decide +kernel
theorem dX4_why_126 : decode cX4_why 126 = .ok (.ifCond .le 5, 3) := by decide +kernel
theorem dX4_why_129 : decode cX4_why 129 = .ok (.iconst 3, 1) := by decide +kernel
theorem dX4_why_130 : decode cX4_why 130 = .ok (.ireturn, 1) := by decide +kernel
theorem dX4_why_131 : decode cX4_why 131 = .ok (.aload_n 0, 1) := by decide +kernel
theorem dX4_why_132 : decode cX4_why 132 = .ok (.getfield 23, 3) := by decide +kernel
theorem dX4_why_135 : decode cX4_why 135 = .ok (.sipush 365, 3) := by decide +kernel
theorem dX4_why_138 : decode cX4_why 138 = .ok (.iconst 1, 1) := by decide +kernel
theorem dX4_why_139 : decode cX4_why 139 = .ok (.iastore, 1) := by decide +kernel
theorem dX4_why_140 : decode cX4_why 140 = .ok (.iconst 0, 1) := by decide +kernel
theorem dX4_why_141 : decode cX4_why 141 = .ok (.istore 8, 2) := by decide +kernel
theorem dX4_why_143 : decode cX4_why 143 = .ok (.bipush 100, 2) := by decide +kernel
theorem dX4_why_145 : decode cX4_why 145 = .ok (.aload_n 0, 1) := by decide +kernel
theorem dX4_why_146 : decode cX4_why 146 = .ok (.bipush 60, 2) := by decide +kernel
theorem dX4_why_148 : decode cX4_why 148 = .ok (.invokevirtual 123, 3) := by decide +kernel
theorem dX4_why_151 : decode cX4_why 151 = .ok (.imul, 1) := by decide +kernel
theorem dX4_why_152 : decode cX4_why 152 = .ok (.aload_n 0, 1) := by decide +kernel
theorem dX4_why_153 : decode cX4_why 153 = .ok (.getfield 17, 3) := by decide +kernel
theorem dX4_why_156 : decode cX4_why 156 = .ok (.aload_n 0, 1) := by decide +kernel
theorem dX4_why_157 : decode cX4_why 157 = .ok (.bipush 60, 2) := by decide +kernel
theorem dX4_why_159 : decode cX4_why 159 = .ok (.invokevirtual 107, 3) := by decide +kernel
theorem dX4_why_162 : decode cX4_why 162 = .ok (.imul, 1) := by decide +kernel
theorem dX4_why_163 : decode cX4_why 163 = .ok (.if_icmp .ge 9, 3) := by decide +kernel
theorem dX4_why_166 : decode cX4_why 166 = .ok (.iconst 4, 1) := by decide +kernel
theorem dX4_why_167 : decode cX4_why 167 = .ok (.istore 8, 2) := by decide +kernel
theorem dX4_why_169 : decode cX4_why 169 = .ok (.goto 64, 3) := by decide +kernel
theorem dX4_why_172 : decode cX4_why 172 = .ok (.aload_n 0, 1) := by decide +kernel
theorem dX4_why_173 : decode cX4_why 173 = .ok (.getfield 55, 3) := by decide +kernel
theorem dX4_why_176 : decode cX4_why 176 = .ok (.ifCond .eq 28, 3) := by decide +kernel
theorem dX4_why_179 : decode cX4_why 179 = .ok (.aload_n 0, 1) := by decide +kernel
theorem dX4_why_180 : decode cX4_why 180 = .ok (.bipush 60, 2) := by decide +kernel
theorem dX4_why_182 : decode cX4_why 182 = .ok (.iconst 3, 1) := by decide +kernel
theorem dX4_why_183 : decode cX4_why 183 = .ok (.invokevirtual 76, 3) := by decide +kernel
theorem dX4_why_186 : decode cX4_why 186 = .ok (.ifCond .le 18, 3) := by decide +kernel
theorem dX4_why_189 : decode cX4_why 189 = .ok (.aload_n 0, 1) := by decide +kernel
theorem dX4_why_190 : decode cX4_why 190 = .ok (.bipush 60, 2) := by decide +kernel
theorem dX4_why_192 : decode cX4_why 192 = .ok (.invokevirtual 139, 3) := by decide +kernel
theorem dX4_why_195 : decode cX4_why 195 = .ok (.ifCond .ne 9, 3) := by decide +kernel
theorem dX4_why_198 : decode cX4_why 198 = .ok (.iconst 5, 1) := by decide +kernel
theorem dX4_why_199 : decode cX4_why 199 = .ok (.istore 8, 2) := by decide +kernel
theorem dX4_why_201 : decode cX4_why 201 = .ok (.goto 32, 3) := by decide +kernel
theorem dX4_why_204 : decode cX4_why 204 = .ok (.aload_n 0, 1) := by decide +kernel
theorem dX4_why_205 : decode cX4_why 205 = .ok (.invokevirtual 142, 3) := by decide +kernel
theorem dX4_why_208 : decode cX4_why 208 = .ok (.ifCond .eq 10, 3) := by decide +kernel
theorem dX4_why_211 : decode cX4_why 211 = .ok (.bipush 6, 2) := by decide +kernel
theorem dX4_why_213 : decode cX4_why 213 = .ok (.istore 8, 2) := by decide +kernel
theorem dX4_why_215 : decode cX4_why 215 = .ok (.goto 18, 3) := by decide +kernel
theorem dX4_why_218 : decode cX4_why 218 = .ok (.aload_n 0, 1) := by decide +kernel
theorem dX4_why_219 : decode cX4_why 219 = .ok (.invokevirtual 146, 3) := by decide +kernel
theorem dX4_why_222 : decode cX4_why 222 = .ok (.aload_n 0, 1) := by decide +kernel
theorem dX4_why_223 : decode cX4_why 223 = .ok (.getfield 20, 3) := by decide +kernel
theorem dX4_why_226 : decode cX4_why 226 = .ok (.if_icmp .le 7, 3) := by decide +kernel
theorem dX4_why_229 : decode cX4_why 229 = .ok (.bipush 7, 2) := by decide +kernel
theorem dX4_why_231 : decode cX4_why 231 = .ok (.istore 8, 2) := by decide +kernel
theorem dX4_why_233 : decode cX4_why 233 = .ok (.aload_n 0, 1) := by decide +kernel
theorem dX4_why_234 : decode cX4_why 234 = .ok (.aload_n 0, 1) := by decide +kernel
theorem dX4_why_235 : decode cX4_why 235 = .ok (.bipush 60, 2) := by decide +kernel
theorem dX4_why_237 : decode cX4_why 237 = .ok (.invokevirtual 123, 3) := by decide +kernel
theorem dX4_why_240 : decode cX4_why 240 = .ok (.putfield 149, 3) := by decide +kernel
theorem dX4_why_243 : decode cX4_why 243 = .ok (.aload_n 0, 1) := by decide +kernel
theorem dX4_why_244 : decode cX4_why 244 = .ok (.getfield 23, 3) := by decide +kernel
theorem dX4_why_247 : decode cX4_why 247 = .ok (.sipush 365, 3) := by decide +kernel
theorem dX4_why_250 : decode cX4_why 250 = .ok (.iconst 0, 1) := by decide +kernel
theorem dX4_why_251 : decode cX4_why 251 = .ok (.iastore, 1) := by decide +kernel
theorem dX4_why_252 : decode cX4_why 252 = .ok (.iload 8, 2) := by decide +kernel
theorem dX4_why_254 : decode cX4_why 254 = .ok (.ireturn, 1) := by decide +kernel
set_option maxRecDepth 20000 in
theorem ggX4_bestFor_X4_why : GoodIn wsX4_bestFor wsX4_why := goodIn_r _ [6, 7, 8, 9, 10, 11, 1, 12, 13, 14, 5, 15, 16, 17, 18, 19, 20, 21, 22, 23, 24, 25, 26, 27, 28, 29, 30, 31, 32, 33, 34, 35, 36, 37, 38, 39, 40, 41, 42, 43, 44, 45, 46, 47, 48, 49, 50, 51, 52, 53, 54, 55, 56, 57, 58, 59, 60, 61, 62, 63, 64, 65, 66, 67, 68, 69, 70, 71, 72, 73, 74, 75, 76, 77, 78, 79, 80, 81, 82, 83, 84, 85, 86, 87, 88, 89, 90, 91, 92, 93, 94, 95, 96, 97, 98, 99, 100, 101, 102, 103, 104, 105, 106, 107, 108, 109, 110, 111, 112, 113, 114, 115, 116, 117, 118, 119, 120, 121, 122, 123, 124] (by decide +kernel) (by decide +kernel)
set_option maxRecDepth 20000 in
theorem gX4_bestFor_X4_why : GoodIn wsX4_bestFor (wsV RX4 155 RX4 yX4_why wsX4_why) := goodIn_app (goodIn_of _ (by decide +kernel)) ggX4_bestFor_X4_why
set_option maxRecDepth 20000 in
theorem ggX4_bestFor_X4_get : GoodIn wsX4_bestFor wsX4_get := goodIn_r _ [48, 8, 111, 112, 113, 114, 115, 116, 117, 118, 119, 120, 121, 122, 123, 124] (by decide +kernel) (by decide +kernel)
set_option maxRecDepth 20000 in
theorem gX4_bestFor_X4_get : GoodIn wsX4_bestFor (wsV RX4 76 RX4 yX4_get wsX4_get) := goodIn_app (goodIn_of _ (by decide +kernel)) ggX4_bestFor_X4_get
theorem dX4_bestFor_0 : decode cX4_bestFor 0 = .ok (.iconst (-1), 1) := by decide +kernel
theorem dX4_bestFor_1 : decode cX4_bestFor 1 = .ok (.istore_n 2, 1) := by decide +kernel
theorem dX4_bestFor_2 : decode cX4_bestFor 2 = .ok (.iconst 0, 1) := by decide +kernel
theorem dX4_bestFor_3 : decode cX4_bestFor 3 = .ok (.istore_n 3, 1) := by decide +kernel
theorem dX4_bestFor_4 : decode cX4_bestFor 4 = .ok (.iconst 0, 1) := by decide +kernel
theorem dX4_bestFor_5 : decode cX4_bestFor 5 = .ok (.istore 4, 2) := by decide +kernel
theorem dX4_bestFor_7 : decode cX4_bestFor 7 = .ok (.iconst 0, 1) := by decide +kernel
theorem dX4_bestFor_8 : decode cX4_bestFor 8 = .ok (.istore 5, 2) := by decide +kernel
theorem dX4_bestFor_10 : decode cX4_bestFor 10 = .ok (.iload 5, 2) := by decide +kernel
theorem dX4_bestFor_12 : decode cX4_bestFor 12 = .ok (.sipush 240, 3) := by decide +kernel
theorem dX4_bestFor_15 : decode cX4_bestFor 15 = .ok (.if_icmp .ge 99, 3) := by decide +kernel
theorem dX4_bestFor_18 : decode cX4_bestFor 18 = .ok (.iload 5, 2) := by decide +kernel
theorem dX4_bestFor_20 : decode cX4_bestFor 20 = .ok (.iconst 2, 1) := by decide +kernel
theorem dX4_bestFor_21 : decode cX4_bestFor 21 = .ok (.idiv, 1) := by decide +kernel
theorem dX4_bestFor_22 : decode cX4_bestFor 22 = .ok (.istore 6, 2) := by decide +kernel
theorem dX4_bestFor_24 : decode cX4_bestFor 24 = .ok (.aload_n 0, 1) := by decide +kernel
theorem dX4_bestFor_25 : decode cX4_bestFor 25 = .ok (.iload_n 1, 1) := by decide +kernel
theorem dX4_bestFor_26 : decode cX4_bestFor 26 = .ok (.iload 6, 2) := by decide +kernel
theorem dX4_bestFor_28 : decode cX4_bestFor 28 = .ok (.bipush 12, 2) := by decide +kernel
theorem dX4_bestFor_30 : decode cX4_bestFor 30 = .ok (.irem, 1) := by decide +kernel
theorem dX4_bestFor_31 : decode cX4_bestFor 31 = .ok (.iload 6, 2) := by decide +kernel
theorem dX4_bestFor_33 : decode cX4_bestFor 33 = .ok (.bipush 12, 2) := by decide +kernel
theorem dX4_bestFor_35 : decode cX4_bestFor 35 = .ok (.idiv, 1) := by decide +kernel
theorem dX4_bestFor_36 : decode cX4_bestFor 36 = .ok (.iload 5, 2) := by decide +kernel
theorem dX4_bestFor_38 : decode cX4_bestFor 38 = .ok (.iconst 2, 1) := by decide +kernel
theorem dX4_bestFor_39 : decode cX4_bestFor 39 = .ok (.irem, 1) := by decide +kernel
theorem dX4_bestFor_40 : decode cX4_bestFor 40 = .ok (.iconst 1, 1) := by decide +kernel
theorem dX4_bestFor_41 : decode cX4_bestFor 41 = .ok (.if_icmp .ne 7, 3) := by decide +kernel
theorem dX4_bestFor_44 : decode cX4_bestFor 44 = .ok (.iconst 1, 1) := by decide +kernel
theorem dX4_bestFor_45 : decode cX4_bestFor 45 = .ok (.goto 4, 3) := by decide +kernel
theorem dX4_bestFor_48 : decode cX4_bestFor 48 = .ok (.iconst 0, 1) := by decide +kernel
theorem dX4_bestFor_49 : decode cX4_bestFor 49 = .ok (.invokevirtual 155, 3) := by decide +kernel
theorem dX4_bestFor_52 : decode cX4_bestFor 52 = .ok (.ifCond .eq 6, 3) := by decide +kernel
theorem dX4_bestFor_55 : decode cX4_bestFor 55 = .ok (.goto 53, 3) := by decide +kernel
theorem dX4_bestFor_58 : decode cX4_bestFor 58 = .ok (.aload_n 0, 1) := by decide +kernel
theorem dX4_bestFor_59 : decode cX4_bestFor 59 = .ok (.bipush 60, 2) := by decide +kernel
theorem dX4_bestFor_61 : decode cX4_bestFor 61 = .ok (.iconst 3, 1) := by decide +kernel
theorem dX4_bestFor_62 : decode cX4_bestFor 62 = .ok (.invokevirtual 76, 3) := by decide +kernel
theorem dX4_bestFor_65 : decode cX4_bestFor 65 = .ok (.istore 7, 2) := by decide +kernel
theorem dX4_bestFor_67 : decode cX4_bestFor 67 = .ok (.iload_n 2, 1) := by decide +kernel
theorem dX4_bestFor_68 : decode cX4_bestFor 68 = .ok (.iconst (-1), 1) := by decide +kernel
theorem dX4_bestFor_69 : decode cX4_bestFor 69 = .ok (.if_icmp .eq 27, 3) := by decide +kernel
theorem dX4_bestFor_72 : decode cX4_bestFor 72 = .ok (.iload 7, 2) := by decide +kernel
theorem dX4_bestFor_74 : decode cX4_bestFor 74 = .ok (.iload_n 3, 1) := by decide +kernel
theorem dX4_bestFor_75 : decode cX4_bestFor 75 = .ok (.if_icmp .gt 33, 3) := by decide +kernel
theorem dX4_bestFor_78 : decode cX4_bestFor 78 = .ok (.iload 7, 2) := by decide +kernel
theorem dX4_bestFor_80 : decode cX4_bestFor 80 = .ok (.iload_n 3, 1) := by decide +kernel
theorem dX4_bestFor_81 : decode cX4_bestFor 81 = .ok (.if_icmp .ne 15, 3) := by decide +kernel
theorem dX4_bestFor_84 : decode cX4_bestFor 84 = .ok (.aload_n 0, 1) := by decide +kernel
theorem dX4_bestFor_85 : decode cX4_bestFor 85 = .ok (.getfield 149, 3) := by decide +kernel
theorem dX4_bestFor_88 : decode cX4_bestFor 88 = .ok (.iload 4, 2) := by decide +kernel
theorem dX4_bestFor_90 : decode cX4_bestFor 90 = .ok (.if_icmp .gt 6, 3) := by decide +kernel
theorem dX4_bestFor_93 : decode cX4_bestFor 93 = .ok (.goto 15, 3) := by decide +kernel
theorem dX4_bestFor_96 : decode cX4_bestFor 96 = .ok (.iload 5, 2) := by decide +kernel
theorem dX4_bestFor_98 : decode cX4_bestFor 98 = .ok (.istore_n 2, 1) := by decide +kernel
theorem dX4_bestFor_99 : decode cX4_bestFor 99 = .ok (.iload 7, 2) := by decide +kernel
theorem dX4_bestFor_101 : decode cX4_bestFor 101 = .ok (.istore_n 3, 1) := by decide +kernel
theorem dX4_bestFor_102 : decode cX4_bestFor 102 = .ok (.aload_n 0, 1) := by decide +kernel
theorem dX4_bestFor_103 : decode cX4_bestFor 103 = .ok (.getfield 149, 3) := by decide +kernel
theorem dX4_bestFor_106 : decode cX4_bestFor 106 = .ok (.istore 4, 2) := by decide +kernel
theorem dX4_bestFor_108 : decode cX4_bestFor 108 = .ok (.iinc 5 1, 3) := by decide +kernel
theorem dX4_bestFor_111 : decode cX4_bestFor 111 = .ok (.goto (-101), 3) := by decide +kernel
theorem dX4_bestFor_114 : decode cX4_bestFor 114 = .ok (.iload_n 2, 1) := by decide +kernel
theorem dX4_bestFor_115 : decode cX4_bestFor 115 = .ok (.ireturn, 1) := by decide +kernel
set_option maxRecDepth 20000 in
theorem ggX4_putBest_X4_bestFor : GoodIn wsX4_putBest wsX4_bestFor := goodIn_r _ [6, 7, 8, 9, 10, 5, 11, 12, 13, 14, 15, 16, 17, 18, 19, 20, 21, 22, 23, 24, 25, 26, 27, 28, 29, 30, 31, 32, 33, 34, 35, 36, 1, 37, 38, 39, 40, 41, 42, 43, 44, 45, 46, 47, 48, 49, 50, 51, 52, 53, 54, 55, 56, 57, 58, 59, 60, 61, 62, 63, 64, 65, 66, 67, 68, 69, 70, 71, 72, 73, 74, 75, 76, 77, 78, 79, 80, 81, 82, 83, 84, 85, 86, 87, 88, 89, 90, 91, 92, 93, 94, 95, 96, 97, 98, 99, 100, 101, 102, 103, 104, 105, 106, 107, 108, 109, 110, 111, 112, 113, 114, 119, 120, 121, 122, 123, 124, 125, 126, 127, 128, 129, 130, 131, 132] (by decide +kernel) (by decide +kernel)
set_option maxRecDepth 20000 in
theorem gX4_putBest_X4_bestFor : GoodIn wsX4_putBest (wsV RX4 181 RX4 yX4_bestFor wsX4_bestFor) := goodIn_app (goodIn_of _ (by decide +kernel)) ggX4_putBest_X4_bestFor
theorem dX4_putBest_0 : decode cX4_putBest 0 = .ok (.aload_n 0, 1) := by decide +kernel
theorem dX4_putBest_1 : decode cX4_putBest 1 = .ok (.getfield 59, 3) := by decide +kernel
theorem dX4_putBest_4 : decode cX4_putBest 4 = .ok (.bipush 60, 2) := by decide +kernel
theorem dX4_putBest_6 : decode cX4_putBest 6 = .ok (.if_icmp .ne 7, 3) := by decide +kernel
theorem dX4_putBest_9 : decode cX4_putBest 9 = .ok (.iconst (-1), 1) := by decide +kernel
theorem dX4_putBest_10 : decode cX4_putBest 10 = .ok (.goto 8, 3) := by decide +kernel
theorem dX4_putBest_13 : decode cX4_putBest 13 = .ok (.aload_n 0, 1) := by decide +kernel
theorem dX4_putBest_14 : decode cX4_putBest 14 = .ok (.iload_n 1, 1) := by decide +kernel
theorem dX4_putBest_15 : decode cX4_putBest 15 = .ok (.invokevirtual 181, 3) := by decide +kernel
theorem dX4_putBest_18 : decode cX4_putBest 18 = .ok (.istore_n 2, 1) := by decide +kernel
theorem dX4_putBest_19 : decode cX4_putBest 19 = .ok (.iload_n 2, 1) := by decide +kernel
theorem dX4_putBest_20 : decode cX4_putBest 20 = .ok (.iconst (-1), 1) := by decide +kernel
theorem dX4_putBest_21 : decode cX4_putBest 21 = .ok (.if_icmp .ne 5, 3) := by decide +kernel
theorem dX4_putBest_24 : decode cX4_putBest 24 = .ok (.iconst 0, 1) := by decide +kernel
theorem dX4_putBest_25 : decode cX4_putBest 25 = .ok (.ireturn, 1) := by decide +kernel
theorem dX4_putBest_26 : decode cX4_putBest 26 = .ok (.aload_n 0, 1) := by decide +kernel
theorem dX4_putBest_27 : decode cX4_putBest 27 = .ok (.iload_n 1, 1) := by decide +kernel
theorem dX4_putBest_28 : decode cX4_putBest 28 = .ok (.iload_n 2, 1) := by decide +kernel
theorem dX4_putBest_29 : decode cX4_putBest 29 = .ok (.iconst 2, 1) := by decide +kernel
theorem dX4_putBest_30 : decode cX4_putBest 30 = .ok (.idiv, 1) := by decide +kernel
theorem dX4_putBest_31 : decode cX4_putBest 31 = .ok (.bipush 12, 2) := by decide +kernel
theorem dX4_putBest_33 : decode cX4_putBest 33 = .ok (.irem, 1) := by decide +kernel
theorem dX4_putBest_34 : decode cX4_putBest 34 = .ok (.iload_n 2, 1) := by decide +kernel
theorem dX4_putBest_35 : decode cX4_putBest 35 = .ok (.iconst 2, 1) := by decide +kernel
theorem dX4_putBest_36 : decode cX4_putBest 36 = .ok (.idiv, 1) := by decide +kernel
theorem dX4_putBest_37 : decode cX4_putBest 37 = .ok (.bipush 12, 2) := by decide +kernel
theorem dX4_putBest_39 : decode cX4_putBest 39 = .ok (.idiv, 1) := by decide +kernel
theorem dX4_putBest_40 : decode cX4_putBest 40 = .ok (.iload_n 2, 1) := by decide +kernel
theorem dX4_putBest_41 : decode cX4_putBest 41 = .ok (.iconst 2, 1) := by decide +kernel
theorem dX4_putBest_42 : decode cX4_putBest 42 = .ok (.irem, 1) := by decide +kernel
theorem dX4_putBest_43 : decode cX4_putBest 43 = .ok (.iconst 1, 1) := by decide +kernel
theorem dX4_putBest_44 : decode cX4_putBest 44 = .ok (.if_icmp .ne 7, 3) := by decide +kernel
theorem dX4_putBest_47 : decode cX4_putBest 47 = .ok (.iconst 1, 1) := by decide +kernel
theorem dX4_putBest_48 : decode cX4_putBest 48 = .ok (.goto 4, 3) := by decide +kernel
theorem dX4_putBest_51 : decode cX4_putBest 51 = .ok (.iconst 0, 1) := by decide +kernel
theorem dX4_putBest_52 : decode cX4_putBest 52 = .ok (.invokevirtual 159, 3) := by decide +kernel
theorem dX4_putBest_55 : decode cX4_putBest 55 = .ok (.iconst 1, 1) := by decide +kernel
theorem dX4_putBest_56 : decode cX4_putBest 56 = .ok (.ireturn, 1) := by decide +kernel
set_option maxRecDepth 20000 in
theorem ggX4_addLine_X4_isKind : GoodIn wsX4_addLine wsX4_isKind := goodIn_r _ [9, 10, 11, 12, 8, 13, 18, 19, 20, 21, 22, 23, 24, 25, 26, 27, 28, 29, 30, 31] (by decide +kernel) (by decide +kernel)
set_option maxRecDepth 20000 in
theorem gX4_addLine_X4_isKind : GoodIn wsX4_addLine (wsV RX4 152 RX4 yX4_isKind wsX4_isKind) := goodIn_app (goodIn_of _ (by decide +kernel)) ggX4_addLine_X4_isKind
set_option maxRecDepth 20000 in
theorem ggX4_addLine_X4_isIn : GoodIn wsX4_addLine wsX4_isIn := goodIn_r _ [13] (by decide +kernel) (by decide +kernel)
set_option maxRecDepth 20000 in
theorem gX4_addLine_X4_isIn : GoodIn wsX4_addLine (va_wsS RX4 41 yX4_isIn wsX4_isIn) := goodIn_app (goodIn_of _ (by decide +kernel)) ggX4_addLine_X4_isIn
theorem dX4_addLine_0 : decode cX4_addLine 0 = .ok (.aload_n 0, 1) := by decide +kernel
theorem dX4_addLine_1 : decode cX4_addLine 1 = .ok (.iconst 0, 1) := by decide +kernel
theorem dX4_addLine_2 : decode cX4_addLine 2 = .ok (.putfield 35, 3) := by decide +kernel
theorem dX4_addLine_5 : decode cX4_addLine 5 = .ok (.aload_n 0, 1) := by decide +kernel
theorem dX4_addLine_6 : decode cX4_addLine 6 = .ok (.iload_n 1, 1) := by decide +kernel
theorem dX4_addLine_7 : decode cX4_addLine 7 = .ok (.invokevirtual 152, 3) := by decide +kernel
theorem dX4_addLine_10 : decode cX4_addLine 10 = .ok (.ifCond .ne 9, 3) := by decide +kernel
theorem dX4_addLine_13 : decode cX4_addLine 13 = .ok (.aload_n 0, 1) := by decide +kernel
theorem dX4_addLine_14 : decode cX4_addLine 14 = .ok (.iconst 1, 1) := by decide +kernel
theorem dX4_addLine_15 : decode cX4_addLine 15 = .ok (.invokevirtual 45, 3) := by decide +kernel
theorem dX4_addLine_18 : decode cX4_addLine 18 = .ok (.ireturn, 1) := by decide +kernel
theorem dX4_addLine_19 : decode cX4_addLine 19 = .ok (.iload_n 2, 1) := by decide +kernel
theorem dX4_addLine_20 : decode cX4_addLine 20 = .ok (.iconst 1, 1) := by decide +kernel
theorem dX4_addLine_21 : decode cX4_addLine 21 = .ok (.bipush 20, 2) := by decide +kernel
theorem dX4_addLine_23 : decode cX4_addLine 23 = .ok (.invokestatic 41, 3) := by decide +kernel
theorem dX4_addLine_26 : decode cX4_addLine 26 = .ok (.ifCond .ne 9, 3) := by decide +kernel
theorem dX4_addLine_29 : decode cX4_addLine 29 = .ok (.aload_n 0, 1) := by decide +kernel
theorem dX4_addLine_30 : decode cX4_addLine 30 = .ok (.iconst 2, 1) := by decide +kernel
theorem dX4_addLine_31 : decode cX4_addLine 31 = .ok (.invokevirtual 45, 3) := by decide +kernel
theorem dX4_addLine_34 : decode cX4_addLine 34 = .ok (.ireturn, 1) := by decide +kernel
theorem dX4_addLine_35 : decode cX4_addLine 35 = .ok (.aload_n 0, 1) := by decide +kernel
theorem dX4_addLine_36 : decode cX4_addLine 36 = .ok (.getfield 70, 3) := by decide +kernel
theorem dX4_addLine_39 : decode cX4_addLine 39 = .ok (.bipush 20, 2) := by decide +kernel
theorem dX4_addLine_41 : decode cX4_addLine 41 = .ok (.if_icmp .ne 9, 3) := by decide +kernel
theorem dX4_addLine_44 : decode cX4_addLine 44 = .ok (.aload_n 0, 1) := by decide +kernel
theorem dX4_addLine_45 : decode cX4_addLine 45 = .ok (.iconst 3, 1) := by decide +kernel
theorem dX4_addLine_46 : decode cX4_addLine 46 = .ok (.invokevirtual 45, 3) := by decide +kernel
theorem dX4_addLine_49 : decode cX4_addLine 49 = .ok (.ireturn, 1) := by decide +kernel
theorem dX4_addLine_50 : decode cX4_addLine 50 = .ok (.aload_n 0, 1) := by decide +kernel
theorem dX4_addLine_51 : decode cX4_addLine 51 = .ok (.getfield 29, 3) := by decide +kernel
theorem dX4_addLine_54 : decode cX4_addLine 54 = .ok (.aload_n 0, 1) := by decide +kernel
theorem dX4_addLine_55 : decode cX4_addLine 55 = .ok (.getfield 70, 3) := by decide +kernel
theorem dX4_addLine_58 : decode cX4_addLine 58 = .ok (.iload_n 1, 1) := by decide +kernel
theorem dX4_addLine_59 : decode cX4_addLine 59 = .ok (.iastore, 1) := by decide +kernel
theorem dX4_addLine_60 : decode cX4_addLine 60 = .ok (.aload_n 0, 1) := by decide +kernel
theorem dX4_addLine_61 : decode cX4_addLine 61 = .ok (.getfield 32, 3) := by decide +kernel
theorem dX4_addLine_64 : decode cX4_addLine 64 = .ok (.aload_n 0, 1) := by decide +kernel
theorem dX4_addLine_65 : decode cX4_addLine 65 = .ok (.getfield 70, 3) := by decide +kernel
theorem dX4_addLine_68 : decode cX4_addLine 68 = .ok (.iload_n 2, 1) := by decide +kernel
theorem dX4_addLine_69 : decode cX4_addLine 69 = .ok (.iastore, 1) := by decide +kernel
theorem dX4_addLine_70 : decode cX4_addLine 70 = .ok (.aload_n 0, 1) := by decide +kernel
theorem dX4_addLine_71 : decode cX4_addLine 71 = .ok (.dup, 1) := by decide +kernel
theorem dX4_addLine_72 : decode cX4_addLine 72 = .ok (.getfield 70, 3) := by decide +kernel
theorem dX4_addLine_75 : decode cX4_addLine 75 = .ok (.iconst 1, 1) := by decide +kernel
theorem dX4_addLine_76 : decode cX4_addLine 76 = .ok (.iadd, 1) := by decide +kernel
theorem dX4_addLine_77 : decode cX4_addLine 77 = .ok (.putfield 70, 3) := by decide +kernel
theorem dX4_addLine_80 : decode cX4_addLine 80 = .ok (.aload_n 0, 1) := by decide +kernel
theorem dX4_addLine_81 : decode cX4_addLine 81 = .ok (.getfield 70, 3) := by decide +kernel
theorem dX4_addLine_84 : decode cX4_addLine 84 = .ok (.iconst 1, 1) := by decide +kernel
theorem dX4_addLine_85 : decode cX4_addLine 85 = .ok (.isub, 1) := by decide +kernel
theorem dX4_addLine_86 : decode cX4_addLine 86 = .ok (.ireturn, 1) := by decide +kernel
set_option maxRecDepth 20000 in
theorem ggX4_isAhead_X4_kind : GoodIn wsX4_isAhead wsX4_kind := goodIn_r _ [6, 7, 11, 12, 13, 14, 15, 16, 17, 18, 19, 20, 21, 22, 23, 24] (by decide +kernel) (by decide +kernel)
set_option maxRecDepth 20000 in
theorem gX4_isAhead_X4_kind : GoodIn wsX4_isAhead (wsV RX4 80 RX4 yX4_kind wsX4_kind) := goodIn_app (goodIn_of _ (by decide +kernel)) ggX4_isAhead_X4_kind
set_option maxRecDepth 20000 in
theorem ggX4_isAhead_X4_needsDeck : GoodIn wsX4_isAhead wsX4_needsDeck := goodIn_r _ [10] (by decide +kernel) (by decide +kernel)
set_option maxRecDepth 20000 in
theorem gX4_isAhead_X4_needsDeck : GoodIn wsX4_isAhead (va_wsS RX4 136 yX4_needsDeck wsX4_needsDeck) := goodIn_app (goodIn_of _ (by decide +kernel)) ggX4_isAhead_X4_needsDeck
theorem dX4_isAhead_0 : decode cX4_isAhead 0 = .ok (.aload_n 0, 1) := by decide +kernel
theorem dX4_isAhead_1 : decode cX4_isAhead 1 = .ok (.getfield 29, 3) := by decide +kernel
theorem dX4_isAhead_4 : decode cX4_isAhead 4 = .ok (.iload_n 1, 1) := by decide +kernel
theorem dX4_isAhead_5 : decode cX4_isAhead 5 = .ok (.iaload, 1) := by decide +kernel
theorem dX4_isAhead_6 : decode cX4_isAhead 6 = .ok (.istore_n 3, 1) := by decide +kernel
theorem dX4_isAhead_7 : decode cX4_isAhead 7 = .ok (.aload_n 0, 1) := by decide +kernel
theorem dX4_isAhead_8 : decode cX4_isAhead 8 = .ok (.getfield 29, 3) := by decide +kernel
theorem dX4_isAhead_11 : decode cX4_isAhead 11 = .ok (.iload_n 2, 1) := by decide +kernel
theorem dX4_isAhead_12 : decode cX4_isAhead 12 = .ok (.iaload, 1) := by decide +kernel
theorem dX4_isAhead_13 : decode cX4_isAhead 13 = .ok (.istore 4, 2) := by decide +kernel
theorem dX4_isAhead_15 : decode cX4_isAhead 15 = .ok (.aload_n 0, 1) := by decide +kernel
theorem dX4_isAhead_16 : decode cX4_isAhead 16 = .ok (.iload_n 3, 1) := by decide +kernel
theorem dX4_isAhead_17 : decode cX4_isAhead 17 = .ok (.iconst 5, 1) := by decide +kernel
theorem dX4_isAhead_18 : decode cX4_isAhead 18 = .ok (.invokevirtual 80, 3) := by decide +kernel
theorem dX4_isAhead_21 : decode cX4_isAhead 21 = .ok (.invokestatic 136, 3) := by decide +kernel
theorem dX4_isAhead_24 : decode cX4_isAhead 24 = .ok (.aload_n 0, 1) := by decide +kernel
theorem dX4_isAhead_25 : decode cX4_isAhead 25 = .ok (.iload 4, 2) := by decide +kernel
theorem dX4_isAhead_27 : decode cX4_isAhead 27 = .ok (.iconst 5, 1) := by decide +kernel
theorem dX4_isAhead_28 : decode cX4_isAhead 28 = .ok (.invokevirtual 80, 3) := by decide +kernel
theorem dX4_isAhead_31 : decode cX4_isAhead 31 = .ok (.invokestatic 136, 3) := by decide +kernel
theorem dX4_isAhead_34 : decode cX4_isAhead 34 = .ok (.if_icmp .eq 13, 3) := by decide +kernel
theorem dX4_isAhead_37 : decode cX4_isAhead 37 = .ok (.aload_n 0, 1) := by decide +kernel
theorem dX4_isAhead_38 : decode cX4_isAhead 38 = .ok (.iload_n 3, 1) := by decide +kernel
theorem dX4_isAhead_39 : decode cX4_isAhead 39 = .ok (.iconst 5, 1) := by decide +kernel
theorem dX4_isAhead_40 : decode cX4_isAhead 40 = .ok (.invokevirtual 80, 3) := by decide +kernel
theorem dX4_isAhead_43 : decode cX4_isAhead 43 = .ok (.invokestatic 136, 3) := by decide +kernel
theorem dX4_isAhead_46 : decode cX4_isAhead 46 = .ok (.ireturn, 1) := by decide +kernel
theorem dX4_isAhead_47 : decode cX4_isAhead 47 = .ok (.aload_n 0, 1) := by decide +kernel
theorem dX4_isAhead_48 : decode cX4_isAhead 48 = .ok (.iload_n 3, 1) := by decide +kernel
theorem dX4_isAhead_49 : decode cX4_isAhead 49 = .ok (.iconst 4, 1) := by decide +kernel
theorem dX4_isAhead_50 : decode cX4_isAhead 50 = .ok (.invokevirtual 80, 3) := by decide +kernel
theorem dX4_isAhead_53 : decode cX4_isAhead 53 = .ok (.aload_n 0, 1) := by decide +kernel
theorem dX4_isAhead_54 : decode cX4_isAhead 54 = .ok (.iload 4, 2) := by decide +kernel
theorem dX4_isAhead_56 : decode cX4_isAhead 56 = .ok (.iconst 4, 1) := by decide +kernel
theorem dX4_isAhead_57 : decode cX4_isAhead 57 = .ok (.invokevirtual 80, 3) := by decide +kernel
theorem dX4_isAhead_60 : decode cX4_isAhead 60 = .ok (.if_icmp .eq 25, 3) := by decide +kernel
theorem dX4_isAhead_63 : decode cX4_isAhead 63 = .ok (.aload_n 0, 1) := by decide +kernel
theorem dX4_isAhead_64 : decode cX4_isAhead 64 = .ok (.iload_n 3, 1) := by decide +kernel
theorem dX4_isAhead_65 : decode cX4_isAhead 65 = .ok (.iconst 4, 1) := by decide +kernel
theorem dX4_isAhead_66 : decode cX4_isAhead 66 = .ok (.invokevirtual 80, 3) := by decide +kernel
theorem dX4_isAhead_69 : decode cX4_isAhead 69 = .ok (.aload_n 0, 1) := by decide +kernel
theorem dX4_isAhead_70 : decode cX4_isAhead 70 = .ok (.iload 4, 2) := by decide +kernel
theorem dX4_isAhead_72 : decode cX4_isAhead 72 = .ok (.iconst 4, 1) := by decide +kernel
theorem dX4_isAhead_73 : decode cX4_isAhead 73 = .ok (.invokevirtual 80, 3) := by decide +kernel
theorem dX4_isAhead_76 : decode cX4_isAhead 76 = .ok (.if_icmp .le 7, 3) := by decide +kernel
theorem dX4_isAhead_79 : decode cX4_isAhead 79 = .ok (.iconst 1, 1) := by decide +kernel
theorem dX4_isAhead_80 : decode cX4_isAhead 80 = .ok (.goto 4, 3) := by decide +kernel
theorem dX4_isAhead_83 : decode cX4_isAhead 83 = .ok (.iconst 0, 1) := by decide +kernel
theorem dX4_isAhead_84 : decode cX4_isAhead 84 = .ok (.ireturn, 1) := by decide +kernel
theorem dX4_isAhead_85 : decode cX4_isAhead 85 = .ok (.aload_n 0, 1) := by decide +kernel
theorem dX4_isAhead_86 : decode cX4_isAhead 86 = .ok (.iload_n 3, 1) := by decide +kernel
theorem dX4_isAhead_87 : decode cX4_isAhead 87 = .ok (.iconst 3, 1) := by decide +kernel
theorem dX4_isAhead_88 : decode cX4_isAhead 88 = .ok (.invokevirtual 80, 3) := by decide +kernel
theorem dX4_isAhead_91 : decode cX4_isAhead 91 = .ok (.aload_n 0, 1) := by decide +kernel
theorem dX4_isAhead_92 : decode cX4_isAhead 92 = .ok (.iload 4, 2) := by decide +kernel
theorem dX4_isAhead_94 : decode cX4_isAhead 94 = .ok (.iconst 3, 1) := by decide +kernel
theorem dX4_isAhead_95 : decode cX4_isAhead 95 = .ok (.invokevirtual 80, 3) := by decide +kernel
theorem dX4_isAhead_98 : decode cX4_isAhead 98 = .ok (.if_icmp .le 7, 3) := by decide +kernel
theorem dX4_isAhead_101 : decode cX4_isAhead 101 = .ok (.iconst 1, 1) := by decide +kernel
theorem dX4_isAhead_102 : decode cX4_isAhead 102 = .ok (.goto 4, 3) := by decide +kernel
theorem dX4_isAhead_105 : decode cX4_isAhead 105 = .ok (.iconst 0, 1) := by decide +kernel
theorem dX4_isAhead_106 : decode cX4_isAhead 106 = .ok (.ireturn, 1) := by decide +kernel
set_option maxRecDepth 20000 in
theorem ggX4_stack_X4_isAhead : GoodIn wsX4_stack wsX4_isAhead := goodIn_r _ [10, 5, 11, 12, 13, 9, 14, 15, 16, 17, 18, 132, 133, 134, 135, 136, 137, 138, 139, 140, 141, 142, 143, 144, 145] (by decide +kernel) (by decide +kernel)
set_option maxRecDepth 20000 in
theorem gX4_stack_X4_isAhead : GoodIn wsX4_stack (wsV RX4 187 RX4 yX4_isAhead wsX4_isAhead) := goodIn_app (goodIn_of _ (by decide +kernel)) ggX4_stack_X4_isAhead
set_option maxRecDepth 20000 in
theorem ggX4_stack_X4_putBest : GoodIn wsX4_stack wsX4_putBest := goodIn_r _ [22, 23, 24, 25, 26, 9, 27, 28, 29, 30, 31, 32, 33, 34, 35, 36, 37, 11, 12, 13, 14, 15, 38, 39, 40, 41, 42, 43, 44, 45, 46, 47, 48, 49, 50, 51, 52, 53, 54, 55, 56, 57, 58, 59, 60, 61, 62, 63, 64, 65, 66, 67, 68, 69, 70, 71, 72, 73, 74, 75, 76, 77, 78, 79, 80, 81, 82, 83, 84, 85, 86, 16, 17, 18, 87, 88, 89, 90, 91, 92, 93, 94, 95, 96, 97, 98, 99, 100, 101, 102, 103, 104, 105, 106, 107, 108, 109, 110, 111, 112, 113, 114, 115, 116, 117, 118, 119, 120, 121, 122, 123, 124, 125, 126, 127, 128, 129, 130, 131, 132, 133, 134, 135, 136, 137, 138, 139, 140, 141, 142, 143, 144, 145] (by decide +kernel) (by decide +kernel)
set_option maxRecDepth 20000 in
theorem gX4_stack_X4_putBest : GoodIn wsX4_stack (wsV RX4 184 RX4 yX4_putBest wsX4_putBest) := goodIn_app (goodIn_of _ (by decide +kernel)) ggX4_stack_X4_putBest
theorem dX4_stack_0 : decode cX4_stack 0 = .ok (.aload_n 0, 1) := by decide +kernel
theorem dX4_stack_1 : decode cX4_stack 1 = .ok (.iconst 0, 1) := by decide +kernel
theorem dX4_stack_2 : decode cX4_stack 2 = .ok (.putfield 35, 3) := by decide +kernel
theorem dX4_stack_5 : decode cX4_stack 5 = .ok (.bipush 20, 2) := by decide +kernel
theorem dX4_stack_7 : decode cX4_stack 7 = .ok (.newarray .boolean, 2) := by decide +kernel
theorem dX4_stack_9 : decode cX4_stack 9 = .ok (.astore_n 1, 1) := by decide +kernel
theorem dX4_stack_10 : decode cX4_stack 10 = .ok (.iconst 0, 1) := by decide +kernel
theorem dX4_stack_11 : decode cX4_stack 11 = .ok (.istore_n 2, 1) := by decide +kernel
theorem dX4_stack_12 : decode cX4_stack 12 = .ok (.iconst 0, 1) := by decide +kernel
theorem dX4_stack_13 : decode cX4_stack 13 = .ok (.istore_n 3, 1) := by decide +kernel
theorem dX4_stack_14 : decode cX4_stack 14 = .ok (.iload_n 3, 1) := by decide +kernel
theorem dX4_stack_15 : decode cX4_stack 15 = .ok (.iconst (-1), 1) := by decide +kernel
theorem dX4_stack_16 : decode cX4_stack 16 = .ok (.if_icmp .eq 102, 3) := by decide +kernel
theorem dX4_stack_19 : decode cX4_stack 19 = .ok (.iconst (-1), 1) := by decide +kernel
theorem dX4_stack_20 : decode cX4_stack 20 = .ok (.istore_n 3, 1) := by decide +kernel
theorem dX4_stack_21 : decode cX4_stack 21 = .ok (.iconst 0, 1) := by decide +kernel
theorem dX4_stack_22 : decode cX4_stack 22 = .ok (.istore 4, 2) := by decide +kernel
theorem dX4_stack_24 : decode cX4_stack 24 = .ok (.iload 4, 2) := by decide +kernel
theorem dX4_stack_26 : decode cX4_stack 26 = .ok (.aload_n 0, 1) := by decide +kernel
theorem dX4_stack_27 : decode cX4_stack 27 = .ok (.getfield 70, 3) := by decide +kernel
theorem dX4_stack_30 : decode cX4_stack 30 = .ok (.if_icmp .ge 44, 3) := by decide +kernel
theorem dX4_stack_33 : decode cX4_stack 33 = .ok (.aload_n 1, 1) := by decide +kernel
theorem dX4_stack_34 : decode cX4_stack 34 = .ok (.iload 4, 2) := by decide +kernel
theorem dX4_stack_36 : decode cX4_stack 36 = .ok (.baload, 1) := by decide +kernel
theorem dX4_stack_37 : decode cX4_stack 37 = .ok (.ifCond .ne 31, 3) := by decide +kernel
theorem dX4_stack_40 : decode cX4_stack 40 = .ok (.aload_n 0, 1) := by decide +kernel
theorem dX4_stack_41 : decode cX4_stack 41 = .ok (.getfield 32, 3) := by decide +kernel
theorem dX4_stack_44 : decode cX4_stack 44 = .ok (.iload 4, 2) := by decide +kernel
theorem dX4_stack_46 : decode cX4_stack 46 = .ok (.iaload, 1) := by decide +kernel
theorem dX4_stack_47 : decode cX4_stack 47 = .ok (.ifCond .le 21, 3) := by decide +kernel
theorem dX4_stack_50 : decode cX4_stack 50 = .ok (.iload_n 3, 1) := by decide +kernel
theorem dX4_stack_51 : decode cX4_stack 51 = .ok (.iconst (-1), 1) := by decide +kernel
theorem dX4_stack_52 : decode cX4_stack 52 = .ok (.if_icmp .eq 13, 3) := by decide +kernel
theorem dX4_stack_55 : decode cX4_stack 55 = .ok (.aload_n 0, 1) := by decide +kernel
theorem dX4_stack_56 : decode cX4_stack 56 = .ok (.iload 4, 2) := by decide +kernel
theorem dX4_stack_58 : decode cX4_stack 58 = .ok (.iload_n 3, 1) := by decide +kernel
theorem dX4_stack_59 : decode cX4_stack 59 = .ok (.invokevirtual 187, 3) := by decide +kernel
theorem dX4_stack_62 : decode cX4_stack 62 = .ok (.ifCond .eq 6, 3) := by decide +kernel
theorem dX4_stack_65 : decode cX4_stack 65 = .ok (.iload 4, 2) := by decide +kernel
theorem dX4_stack_67 : decode cX4_stack 67 = .ok (.istore_n 3, 1) := by decide +kernel
theorem dX4_stack_68 : decode cX4_stack 68 = .ok (.iinc 4 1, 3) := by decide +kernel
theorem dX4_stack_71 : decode cX4_stack 71 = .ok (.goto (-47), 3) := by decide +kernel
theorem dX4_stack_74 : decode cX4_stack 74 = .ok (.iload_n 3, 1) := by decide +kernel
theorem dX4_stack_75 : decode cX4_stack 75 = .ok (.iconst (-1), 1) := by decide +kernel
theorem dX4_stack_76 : decode cX4_stack 76 = .ok (.if_icmp .ne 6, 3) := by decide +kernel
theorem dX4_stack_79 : decode cX4_stack 79 = .ok (.goto (-65), 3) := by decide +kernel
theorem dX4_stack_82 : decode cX4_stack 82 = .ok (.aload_n 0, 1) := by decide +kernel
theorem dX4_stack_83 : decode cX4_stack 83 = .ok (.aload_n 0, 1) := by decide +kernel
theorem dX4_stack_84 : decode cX4_stack 84 = .ok (.getfield 29, 3) := by decide +kernel
theorem dX4_stack_87 : decode cX4_stack 87 = .ok (.iload_n 3, 1) := by decide +kernel
theorem dX4_stack_88 : decode cX4_stack 88 = .ok (.iaload, 1) := by decide +kernel
theorem dX4_stack_89 : decode cX4_stack 89 = .ok (.invokevirtual 184, 3) := by decide +kernel
theorem dX4_stack_92 : decode cX4_stack 92 = .ok (.ifCond .eq 19, 3) := by decide +kernel
theorem dX4_stack_95 : decode cX4_stack 95 = .ok (.aload_n 0, 1) := by decide +kernel
theorem dX4_stack_96 : decode cX4_stack 96 = .ok (.getfield 32, 3) := by decide +kernel
theorem dX4_stack_99 : decode cX4_stack 99 = .ok (.iload_n 3, 1) := by decide +kernel
theorem dX4_stack_100 : decode cX4_stack 100 = .ok (.dup2, 1) := by decide +kernel
theorem dX4_stack_101 : decode cX4_stack 101 = .ok (.iaload, 1) := by decide +kernel
theorem dX4_stack_102 : decode cX4_stack 102 = .ok (.iconst 1, 1) := by decide +kernel
theorem dX4_stack_103 : decode cX4_stack 103 = .ok (.isub, 1) := by decide +kernel
theorem dX4_stack_104 : decode cX4_stack 104 = .ok (.iastore, 1) := by decide +kernel
theorem dX4_stack_105 : decode cX4_stack 105 = .ok (.iinc 2 1, 3) := by decide +kernel
theorem dX4_stack_108 : decode cX4_stack 108 = .ok (.goto (-94), 3) := by decide +kernel
theorem dX4_stack_111 : decode cX4_stack 111 = .ok (.aload_n 1, 1) := by decide +kernel
theorem dX4_stack_112 : decode cX4_stack 112 = .ok (.iload_n 3, 1) := by decide +kernel
theorem dX4_stack_113 : decode cX4_stack 113 = .ok (.iconst 1, 1) := by decide +kernel
theorem dX4_stack_114 : decode cX4_stack 114 = .ok (.bastore, 1) := by decide +kernel
theorem dX4_stack_115 : decode cX4_stack 115 = .ok (.goto (-101), 3) := by decide +kernel
theorem dX4_stack_118 : decode cX4_stack 118 = .ok (.iload_n 2, 1) := by decide +kernel
theorem dX4_stack_119 : decode cX4_stack 119 = .ok (.ireturn, 1) := by decide +kernel
