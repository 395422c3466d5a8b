theorem dX0_init_0 : decode cX0_init 0 = .ok (.aload_n 0, 1) := by decide +kernel
theorem dX0_init_1 : decode cX0_init 1 = .ok (.invokespecial 3, 3) := by decide +kernel
theorem dX0_init_4 : decode cX0_init 4 = .ok (.aload_n 0, 1) := by decide +kernel
theorem dX0_init_5 : decode cX0_init 5 = .ok (.iconst 0, 1) := by decide +kernel
theorem dX0_init_6 : decode cX0_init 6 = .ok (.putfield 9, 3) := by decide +kernel
theorem dX0_init_9 : decode cX0_init 9 = .ok (.aload_n 0, 1) := by decide +kernel
theorem dX0_init_10 : decode cX0_init 10 = .ok (.iconst 0, 1) := by decide +kernel
theorem dX0_init_11 : decode cX0_init 11 = .ok (.putfield 15, 3) := by decide +kernel
theorem dX0_init_14 : decode cX0_init 14 = .ok (.aload_n 0, 1) := by decide +kernel
theorem dX0_init_15 : decode cX0_init 15 = .ok (.iconst 0, 1) := by decide +kernel
theorem dX0_init_16 : decode cX0_init 16 = .ok (.putfield 18, 3) := by decide +kernel
theorem dX0_init_19 : decode cX0_init 19 = .ok (.aload_n 0, 1) := by decide +kernel
theorem dX0_init_20 : decode cX0_init 20 = .ok (.iconst 0, 1) := by decide +kernel
theorem dX0_init_21 : decode cX0_init 21 = .ok (.putfield 21, 3) := by decide +kernel
theorem dX0_init_24 : decode cX0_init 24 = .ok (.aload_n 0, 1) := by decide +kernel
theorem dX0_init_25 : decode cX0_init 25 = .ok (.iconst 0, 1) := by decide +kernel
theorem dX0_init_26 : decode cX0_init 26 = .ok (.putfield 25, 3) := by decide +kernel
theorem dX0_init_29 : decode cX0_init 29 = .ok (.aload_n 0, 1) := by decide +kernel
theorem dX0_init_30 : decode cX0_init 30 = .ok (.iconst 0, 1) := by decide +kernel
theorem dX0_init_31 : decode cX0_init 31 = .ok (.putfield 28, 3) := by decide +kernel
theorem dX0_init_34 : decode cX0_init 34 = .ok (.aload_n 0, 1) := by decide +kernel
theorem dX0_init_35 : decode cX0_init 35 = .ok (.iconst 0, 1) := by decide +kernel
theorem dX0_init_36 : decode cX0_init 36 = .ok (.putfield 31, 3) := by decide +kernel
theorem dX0_init_39 : decode cX0_init 39 = .ok (.aload_n 0, 1) := by decide +kernel
theorem dX0_init_40 : decode cX0_init 40 = .ok (.iconst 0, 1) := by decide +kernel
theorem dX0_init_41 : decode cX0_init 41 = .ok (.putfield 34, 3) := by decide +kernel
theorem dX0_init_44 : decode cX0_init 44 = .ok (.aload_n 0, 1) := by decide +kernel
theorem dX0_init_45 : decode cX0_init 45 = .ok (.iconst 0, 1) := by decide +kernel
theorem dX0_init_46 : decode cX0_init 46 = .ok (.putfield 37, 3) := by decide +kernel
theorem dX0_init_49 : decode cX0_init 49 = .ok (.aload_n 0, 1) := by decide +kernel
theorem dX0_init_50 : decode cX0_init 50 = .ok (.iconst 0, 1) := by decide +kernel
theorem dX0_init_51 : decode cX0_init 51 = .ok (.putfield 40, 3) := by decide +kernel
theorem dX0_init_54 : decode cX0_init 54 = .ok (.aload_n 0, 1) := by decide +kernel
theorem dX0_init_55 : decode cX0_init 55 = .ok (.iconst 0, 1) := by decide +kernel
theorem dX0_init_56 : decode cX0_init 56 = .ok (.putfield 43, 3) := by decide +kernel
theorem dX0_init_59 : decode cX0_init 59 = .ok (.aload_n 0, 1) := by decide +kernel
theorem dX0_init_60 : decode cX0_init 60 = .ok (.iconst 0, 1) := by decide +kernel
theorem dX0_init_61 : decode cX0_init 61 = .ok (.putfield 46, 3) := by decide +kernel
theorem dX0_init_64 : decode cX0_init 64 = .ok (.aload_n 0, 1) := by decide +kernel
theorem dX0_init_65 : decode cX0_init 65 = .ok (.iconst 0, 1) := by decide +kernel
theorem dX0_init_66 : decode cX0_init 66 = .ok (.putfield 49, 3) := by decide +kernel
theorem dX0_init_69 : decode cX0_init 69 = .ok (.aload_n 0, 1) := by decide +kernel
theorem dX0_init_70 : decode cX0_init 70 = .ok (.iconst 0, 1) := by decide +kernel
theorem dX0_init_71 : decode cX0_init 71 = .ok (.putfield 52, 3) := by decide +kernel
theorem dX0_init_74 : decode cX0_init 74 = .ok (.aload_n 0, 1) := by decide +kernel
theorem dX0_init_75 : decode cX0_init 75 = .ok (.iconst 0, 1) := by decide +kernel
theorem dX0_init_76 : decode cX0_init 76 = .ok (.putfield 55, 3) := by decide +kernel
theorem dX0_init_79 : decode cX0_init 79 = .ok (.aload_n 0, 1) := by decide +kernel
theorem dX0_init_80 : decode cX0_init 80 = .ok (.iconst 0, 1) := by decide +kernel
theorem dX0_init_81 : decode cX0_init 81 = .ok (.putfield 58, 3) := by decide +kernel
theorem dX0_init_84 : decode cX0_init 84 = .ok (.aload_n 0, 1) := by decide +kernel
theorem dX0_init_85 : decode cX0_init 85 = .ok (.bipush 36, 2) := by decide +kernel
theorem dX0_init_87 : decode cX0_init 87 = .ok (.anewarray 10, 3) := by decide +kernel
theorem dX0_init_90 : decode cX0_init 90 = .ok (.putfield 61, 3) := by decide +kernel
theorem dX0_init_93 : decode cX0_init 93 = .ok (.aload_n 0, 1) := by decide +kernel
theorem dX0_init_94 : decode cX0_init 94 = .ok (.bipush 36, 2) := by decide +kernel
theorem dX0_init_96 : decode cX0_init 96 = .ok (.newarray .int, 2) := by decide +kernel
theorem dX0_init_98 : decode cX0_init 98 = .ok (.putfield 65, 3) := by decide +kernel
theorem dX0_init_101 : decode cX0_init 101 = .ok (.return_, 1) := by decide +kernel
theorem dX1_init_0 : decode cX1_init 0 = .ok (.aload_n 0, 1) := by decide +kernel
theorem dX1_init_1 : decode cX1_init 1 = .ok (.invokespecial 1, 3) := by decide +kernel
theorem dX1_init_4 : decode cX1_init 4 = .ok (.aload_n 0, 1) := by decide +kernel
theorem dX1_init_5 : decode cX1_init 5 = .ok (.iload_n 1, 1) := by decide +kernel
theorem dX1_init_6 : decode cX1_init 6 = .ok (.putfield 7, 3) := by decide +kernel
theorem dX1_init_9 : decode cX1_init 9 = .ok (.aload_n 0, 1) := by decide +kernel
theorem dX1_init_10 : decode cX1_init 10 = .ok (.iload_n 2, 1) := by decide +kernel
theorem dX1_init_11 : decode cX1_init 11 = .ok (.putfield 13, 3) := by decide +kernel
theorem dX1_init_14 : decode cX1_init 14 = .ok (.aload_n 0, 1) := by decide +kernel
theorem dX1_init_15 : decode cX1_init 15 = .ok (.iload_n 3, 1) := by decide +kernel
theorem dX1_init_16 : decode cX1_init 16 = .ok (.putfield 16, 3) := by decide +kernel
theorem dX1_init_19 : decode cX1_init 19 = .ok (.aload_n 0, 1) := by decide +kernel
theorem dX1_init_20 : decode cX1_init 20 = .ok (.iload 4, 2) := by decide +kernel
theorem dX1_init_22 : decode cX1_init 22 = .ok (.putfield 19, 3) := by decide +kernel
theorem dX1_init_25 : decode cX1_init 25 = .ok (.aload_n 0, 1) := by decide +kernel
theorem dX1_init_26 : decode cX1_init 26 = .ok (.iload 5, 2) := by decide +kernel
theorem dX1_init_28 : decode cX1_init 28 = .ok (.putfield 22, 3) := by decide +kernel
theorem dX1_init_31 : decode cX1_init 31 = .ok (.aload_n 0, 1) := by decide +kernel
theorem dX1_init_32 : decode cX1_init 32 = .ok (.iload 6, 2) := by decide +kernel
theorem dX1_init_34 : decode cX1_init 34 = .ok (.putfield 25, 3) := by decide +kernel
theorem dX1_init_37 : decode cX1_init 37 = .ok (.aload_n 0, 1) := by decide +kernel
theorem dX1_init_38 : decode cX1_init 38 = .ok (.iload 7, 2) := by decide +kernel
theorem dX1_init_40 : decode cX1_init 40 = .ok (.iconst 1, 1) := by decide +kernel
theorem dX1_init_41 : decode cX1_init 41 = .ok (.if_icmp .eq 9, 3) := by decide +kernel
theorem dX1_init_44 : decode cX1_init 44 = .ok (.iload 7, 2) := by decide +kernel
theorem dX1_init_46 : decode cX1_init 46 = .ok (.iconst 3, 1) := by decide +kernel
theorem dX1_init_47 : decode cX1_init 47 = .ok (.if_icmp .ne 7, 3) := by decide +kernel
theorem dX1_init_50 : decode cX1_init 50 = .ok (.iconst 1, 1) := by decide +kernel
theorem dX1_init_51 : decode cX1_init 51 = .ok (.goto 4, 3) := by decide +kernel
theorem dX1_init_54 : decode cX1_init 54 = .ok (.iconst 0, 1) := by decide +kernel
theorem dX1_init_55 : decode cX1_init 55 = .ok (.putfield 28, 3) := by decide +kernel
theorem dX1_init_58 : decode cX1_init 58 = .ok (.aload_n 0, 1) := by decide +kernel
theorem dX1_init_59 : decode cX1_init 59 = .ok (.iload 7, 2) := by decide +kernel
theorem dX1_init_61 : decode cX1_init 61 = .ok (.iconst 2, 1) := by decide +kernel
theorem dX1_init_62 : decode cX1_init 62 = .ok (.if_icmp .eq 9, 3) := by decide +kernel
theorem dX1_init_65 : decode cX1_init 65 = .ok (.iload 7, 2) := by decide +kernel
theorem dX1_init_67 : decode cX1_init 67 = .ok (.iconst 3, 1) := by decide +kernel
theorem dX1_init_68 : decode cX1_init 68 = .ok (.if_icmp .ne 7, 3) := by decide +kernel
theorem dX1_init_71 : decode cX1_init 71 = .ok (.iconst 1, 1) := by decide +kernel
theorem dX1_init_72 : decode cX1_init 72 = .ok (.goto 4, 3) := by decide +kernel
theorem dX1_init_75 : decode cX1_init 75 = .ok (.iconst 0, 1) := by decide +kernel
theorem dX1_init_76 : decode cX1_init 76 = .ok (.putfield 32, 3) := by decide +kernel
theorem dX1_init_79 : decode cX1_init 79 = .ok (.return_, 1) := by decide +kernel
set_option maxRecDepth 20000 in
theorem ggX3_init_X0_init : GoodIn wsX3_init wsX0_init := goodIn_r _ [25, 26, 2, 3, 27, 28, 29, 30, 31, 32, 33, 34, 35, 36, 37, 38, 39, 40, 41, 42, 43, 44, 16, 45, 60, 61, 62, 63, 64, 65, 66, 67, 68, 69, 70, 71, 72, 73, 74, 75, 76, 77] (by decide +kernel) (by decide +kernel)
set_option maxRecDepth 20000 in
theorem gX3_init_X0_init_n51 : GoodIn wsX3_init (wsX0_init) := ggX3_init_X0_init
theorem dX3_init_0 : decode cX3_init 0 = .ok (.aload_n 0, 1) := by decide +kernel
theorem dX3_init_1 : decode cX3_init 1 = .ok (.invokespecial 3, 3) := by decide +kernel
theorem dX3_init_4 : decode cX3_init 4 = .ok (.aload_n 0, 1) := by decide +kernel
theorem dX3_init_5 : decode cX3_init 5 = .ok (.bipush 10, 2) := by decide +kernel
theorem dX3_init_7 : decode cX3_init 7 = .ok (.anewarray 9, 3) := by decide +kernel
theorem dX3_init_10 : decode cX3_init 10 = .ok (.putfield 11, 3) := by decide +kernel
theorem dX3_init_13 : decode cX3_init 13 = .ok (.aload_n 0, 1) := by decide +kernel
theorem dX3_init_14 : decode cX3_init 14 = .ok (.iconst 0, 1) := by decide +kernel
theorem dX3_init_15 : decode cX3_init 15 = .ok (.putfield 15, 3) := by decide +kernel
theorem dX3_init_18 : decode cX3_init 18 = .ok (.aload_n 0, 1) := by decide +kernel
theorem dX3_init_19 : decode cX3_init 19 = .ok (.bipush 20, 2) := by decide +kernel
theorem dX3_init_21 : decode cX3_init 21 = .ok (.putfield 19, 3) := by decide +kernel
theorem dX3_init_24 : decode cX3_init 24 = .ok (.aload_n 0, 1) := by decide +kernel
theorem dX3_init_25 : decode cX3_init 25 = .ok (.bipush 60, 2) := by decide +kernel
theorem dX3_init_27 : decode cX3_init 27 = .ok (.putfield 22, 3) := by decide +kernel
theorem dX3_init_30 : decode cX3_init 30 = .ok (.aload_n 0, 1) := by decide +kernel
theorem dX3_init_31 : decode cX3_init 31 = .ok (.sipush 2000, 3) := by decide +kernel
theorem dX3_init_34 : decode cX3_init 34 = .ok (.putfield 25, 3) := by decide +kernel
theorem dX3_init_37 : decode cX3_init 37 = .ok (.aload_n 0, 1) := by decide +kernel
theorem dX3_init_38 : decode cX3_init 38 = .ok (.iconst 0, 1) := by decide +kernel
theorem dX3_init_39 : decode cX3_init 39 = .ok (.putfield 28, 3) := by decide +kernel
theorem dX3_init_42 : decode cX3_init 42 = .ok (.aload_n 0, 1) := by decide +kernel
theorem dX3_init_43 : decode cX3_init 43 = .ok (.bipush 60, 2) := by decide +kernel
theorem dX3_init_45 : decode cX3_init 45 = .ok (.anewarray 32, 3) := by decide +kernel
theorem dX3_init_48 : decode cX3_init 48 = .ok (.putfield 34, 3) := by decide +kernel
theorem dX3_init_51 : decode cX3_init 51 = .ok (.aload_n 0, 1) := by decide +kernel
theorem dX3_init_52 : decode cX3_init 52 = .ok (.iconst 0, 1) := by decide +kernel
theorem dX3_init_53 : decode cX3_init 53 = .ok (.putfield 38, 3) := by decide +kernel
theorem dX3_init_56 : decode cX3_init 56 = .ok (.aload_n 0, 1) := by decide +kernel
theorem dX3_init_57 : decode cX3_init 57 = .ok (.iconst 0, 1) := by decide +kernel
theorem dX3_init_58 : decode cX3_init 58 = .ok (.putfield 41, 3) := by decide +kernel
theorem dX3_init_61 : decode cX3_init 61 = .ok (.aload_n 0, 1) := by decide +kernel
theorem dX3_init_62 : decode cX3_init 62 = .ok (.iconst 0, 1) := by decide +kernel
theorem dX3_init_63 : decode cX3_init 63 = .ok (.putfield 44, 3) := by decide +kernel
theorem dX3_init_66 : decode cX3_init 66 = .ok (.aload_n 0, 1) := by decide +kernel
theorem dX3_init_67 : decode cX3_init 67 = .ok (.bipush 120, 2) := by decide +kernel
theorem dX3_init_69 : decode cX3_init 69 = .ok (.newarray .int, 2) := by decide +kernel
theorem dX3_init_71 : decode cX3_init 71 = .ok (.putfield 47, 3) := by decide +kernel
theorem dX3_init_74 : decode cX3_init 74 = .ok (.aload_n 0, 1) := by decide +kernel
theorem dX3_init_75 : decode cX3_init 75 = .ok (.new 32, 3) := by decide +kernel
theorem dX3_init_78 : decode cX3_init 78 = .ok (.dup, 1) := by decide +kernel
theorem dX3_init_79 : decode cX3_init 79 = .ok (.invokespecial 51, 3) := by decide +kernel
theorem dX3_init_82 : decode cX3_init 82 = .ok (.putfield 52, 3) := by decide +kernel
theorem dX3_init_85 : decode cX3_init 85 = .ok (.aload_n 0, 1) := by decide +kernel
theorem dX3_init_86 : decode cX3_init 86 = .ok (.bipush 20, 2) := by decide +kernel
theorem dX3_init_88 : decode cX3_init 88 = .ok (.anewarray 56, 3) := by decide +kernel
theorem dX3_init_91 : decode cX3_init 91 = .ok (.putfield 58, 3) := by decide +kernel
theorem dX3_init_94 : decode cX3_init 94 = .ok (.aload_n 0, 1) := by decide +kernel
theorem dX3_init_95 : decode cX3_init 95 = .ok (.iconst 0, 1) := by decide +kernel
theorem dX3_init_96 : decode cX3_init 96 = .ok (.putfield 62, 3) := by decide +kernel
theorem dX3_init_99 : decode cX3_init 99 = .ok (.iconst 0, 1) := by decide +kernel
theorem dX3_init_100 : decode cX3_init 100 = .ok (.istore_n 1, 1) := by decide +kernel
theorem dX3_init_101 : decode cX3_init 101 = .ok (.iload_n 1, 1) := by decide +kernel
theorem dX3_init_102 : decode cX3_init 102 = .ok (.bipush 60, 2) := by decide +kernel
theorem dX3_init_104 : decode cX3_init 104 = .ok (.if_icmp .ge 22, 3) := by decide +kernel
theorem dX3_init_107 : decode cX3_init 107 = .ok (.aload_n 0, 1) := by decide +kernel
theorem dX3_init_108 : decode cX3_init 108 = .ok (.getfield 34, 3) := by decide +kernel
theorem dX3_init_111 : decode cX3_init 111 = .ok (.iload_n 1, 1) := by decide +kernel
theorem dX3_init_112 : decode cX3_init 112 = .ok (.new 32, 3) := by decide +kernel
theorem dX3_init_115 : decode cX3_init 115 = .ok (.dup, 1) := by decide +kernel
theorem dX3_init_116 : decode cX3_init 116 = .ok (.invokespecial 51, 3) := by decide +kernel
theorem dX3_init_119 : decode cX3_init 119 = .ok (.aastore, 1) := by decide +kernel
theorem dX3_init_120 : decode cX3_init 120 = .ok (.iinc 1 1, 3) := by decide +kernel
theorem dX3_init_123 : decode cX3_init 123 = .ok (.goto (-22), 3) := by decide +kernel
theorem dX3_init_126 : decode cX3_init 126 = .ok (.return_, 1) := by decide +kernel
set_option maxRecDepth 20000 in
theorem ggX3_addKind_X3_isWithin : GoodIn wsX3_addKind wsX3_isWithin := goodIn_r _ [13] (by decide +kernel) (by decide +kernel)
set_option maxRecDepth 20000 in
theorem gX3_addKind_X3_isWithin : GoodIn wsX3_addKind (va_wsS RX3 65 yX3_isWithin wsX3_isWithin) := goodIn_app (goodIn_of _ (by decide +kernel)) ggX3_addKind_X3_isWithin
set_option maxRecDepth 20000 in
theorem ggX3_addKind_X1_init : GoodIn wsX3_addKind wsX1_init := goodIn_r _ [16, 17, 18, 19, 20, 21, 22, 23, 24, 25, 26, 27, 42, 43, 44, 45, 46, 47, 48, 49] (by decide +kernel) (by decide +kernel)
set_option maxRecDepth 20000 in
theorem gX3_addKind_X1_init : GoodIn wsX3_addKind (wsX1_init) := ggX3_addKind_X1_init
theorem dX3_addKind_0 : decode cX3_addKind 0 = .ok (.iload_n 1, 1) := by decide +kernel
theorem dX3_addKind_1 : decode cX3_addKind 1 = .ok (.iconst 1, 1) := by decide +kernel
theorem dX3_addKind_2 : decode cX3_addKind 2 = .ok (.bipush 6, 2) := by decide +kernel
theorem dX3_addKind_4 : decode cX3_addKind 4 = .ok (.invokestatic 65, 3) := by decide +kernel
theorem dX3_addKind_7 : decode cX3_addKind 7 = .ok (.ifCond .eq 57, 3) := by decide +kernel
theorem dX3_addKind_10 : decode cX3_addKind 10 = .ok (.iload_n 2, 1) := by decide +kernel
theorem dX3_addKind_11 : decode cX3_addKind 11 = .ok (.iconst 1, 1) := by decide +kernel
theorem dX3_addKind_12 : decode cX3_addKind 12 = .ok (.bipush 6, 2) := by decide +kernel
theorem dX3_addKind_14 : decode cX3_addKind 14 = .ok (.invokestatic 65, 3) := by decide +kernel
theorem dX3_addKind_17 : decode cX3_addKind 17 = .ok (.ifCond .eq 47, 3) := by decide +kernel
theorem dX3_addKind_20 : decode cX3_addKind 20 = .ok (.iload_n 3, 1) := by decide +kernel
theorem dX3_addKind_21 : decode cX3_addKind 21 = .ok (.iconst 1, 1) := by decide +kernel
theorem dX3_addKind_22 : decode cX3_addKind 22 = .ok (.bipush 8, 2) := by decide +kernel
theorem dX3_addKind_24 : decode cX3_addKind 24 = .ok (.invokestatic 65, 3) := by decide +kernel
theorem dX3_addKind_27 : decode cX3_addKind 27 = .ok (.ifCond .eq 37, 3) := by decide +kernel
theorem dX3_addKind_30 : decode cX3_addKind 30 = .ok (.iload 4, 2) := by decide +kernel
theorem dX3_addKind_32 : decode cX3_addKind 32 = .ok (.iconst 1, 1) := by decide +kernel
theorem dX3_addKind_33 : decode cX3_addKind 33 = .ok (.sipush 500, 3) := by decide +kernel
theorem dX3_addKind_36 : decode cX3_addKind 36 = .ok (.invokestatic 65, 3) := by decide +kernel
theorem dX3_addKind_39 : decode cX3_addKind 39 = .ok (.ifCond .eq 25, 3) := by decide +kernel
theorem dX3_addKind_42 : decode cX3_addKind 42 = .ok (.iload 5, 2) := by decide +kernel
theorem dX3_addKind_44 : decode cX3_addKind 44 = .ok (.iconst 0, 1) := by decide +kernel
theorem dX3_addKind_45 : decode cX3_addKind 45 = .ok (.sipush 5000, 3) := by decide +kernel
theorem dX3_addKind_48 : decode cX3_addKind 48 = .ok (.invokestatic 65, 3) := by decide +kernel
theorem dX3_addKind_51 : decode cX3_addKind 51 = .ok (.ifCond .eq 13, 3) := by decide +kernel
theorem dX3_addKind_54 : decode cX3_addKind 54 = .ok (.iload 6, 2) := by decide +kernel
theorem dX3_addKind_56 : decode cX3_addKind 56 = .ok (.iconst 0, 1) := by decide +kernel
theorem dX3_addKind_57 : decode cX3_addKind 57 = .ok (.iconst 3, 1) := by decide +kernel
theorem dX3_addKind_58 : decode cX3_addKind 58 = .ok (.invokestatic 65, 3) := by decide +kernel
theorem dX3_addKind_61 : decode cX3_addKind 61 = .ok (.ifCond .ne 11, 3) := by decide +kernel
theorem dX3_addKind_64 : decode cX3_addKind 64 = .ok (.new 69, 3) := by decide +kernel
theorem dX3_addKind_67 : decode cX3_addKind 67 = .ok (.dup, 1) := by decide +kernel
theorem dX3_addKind_68 : decode cX3_addKind 68 = .ok (.invokespecial 71, 3) := by decide +kernel
theorem dX3_addKind_71 : decode cX3_addKind 71 = .ok (.athrow, 1) := by decide +kernel
theorem dX3_addKind_72 : decode cX3_addKind 72 = .ok (.aload_n 0, 1) := by decide +kernel
theorem dX3_addKind_73 : decode cX3_addKind 73 = .ok (.getfield 15, 3) := by decide +kernel
theorem dX3_addKind_76 : decode cX3_addKind 76 = .ok (.ifCond .lt 12, 3) := by decide +kernel
theorem dX3_addKind_79 : decode cX3_addKind 79 = .ok (.aload_n 0, 1) := by decide +kernel
theorem dX3_addKind_80 : decode cX3_addKind 80 = .ok (.getfield 15, 3) := by decide +kernel
theorem dX3_addKind_83 : decode cX3_addKind 83 = .ok (.bipush 10, 2) := by decide +kernel
theorem dX3_addKind_85 : decode cX3_addKind 85 = .ok (.if_icmp .lt 11, 3) := by decide +kernel
theorem dX3_addKind_88 : decode cX3_addKind 88 = .ok (.new 72, 3) := by decide +kernel
theorem dX3_addKind_91 : decode cX3_addKind 91 = .ok (.dup, 1) := by decide +kernel
theorem dX3_addKind_92 : decode cX3_addKind 92 = .ok (.invokespecial 74, 3) := by decide +kernel
theorem dX3_addKind_95 : decode cX3_addKind 95 = .ok (.athrow, 1) := by decide +kernel
theorem dX3_addKind_96 : decode cX3_addKind 96 = .ok (.aload_n 0, 1) := by decide +kernel
theorem dX3_addKind_97 : decode cX3_addKind 97 = .ok (.getfield 15, 3) := by decide +kernel
theorem dX3_addKind_100 : decode cX3_addKind 100 = .ok (.istore 7, 2) := by decide +kernel
theorem dX3_addKind_102 : decode cX3_addKind 102 = .ok (.aload_n 0, 1) := by decide +kernel
theorem dX3_addKind_103 : decode cX3_addKind 103 = .ok (.getfield 11, 3) := by decide +kernel
theorem dX3_addKind_106 : decode cX3_addKind 106 = .ok (.iload 7, 2) := by decide +kernel
theorem dX3_addKind_108 : decode cX3_addKind 108 = .ok (.new 9, 3) := by decide +kernel
theorem dX3_addKind_111 : decode cX3_addKind 111 = .ok (.dup, 1) := by decide +kernel
theorem dX3_addKind_112 : decode cX3_addKind 112 = .ok (.iload 7, 2) := by decide +kernel
theorem dX3_addKind_114 : decode cX3_addKind 114 = .ok (.iload_n 1, 1) := by decide +kernel
theorem dX3_addKind_115 : decode cX3_addKind 115 = .ok (.iload_n 2, 1) := by decide +kernel
theorem dX3_addKind_116 : decode cX3_addKind 116 = .ok (.iload_n 3, 1) := by decide +kernel
theorem dX3_addKind_117 : decode cX3_addKind 117 = .ok (.iload 4, 2) := by decide +kernel
theorem dX3_addKind_119 : decode cX3_addKind 119 = .ok (.iload 5, 2) := by decide +kernel
theorem dX3_addKind_121 : decode cX3_addKind 121 = .ok (.iload 6, 2) := by decide +kernel
theorem dX3_addKind_123 : decode cX3_addKind 123 = .ok (.invokespecial 75, 3) := by decide +kernel
theorem dX3_addKind_126 : decode cX3_addKind 126 = .ok (.aastore, 1) := by decide +kernel
theorem dX3_addKind_127 : decode cX3_addKind 127 = .ok (.aload_n 0, 1) := by decide +kernel
theorem dX3_addKind_128 : decode cX3_addKind 128 = .ok (.iload 7, 2) := by decide +kernel
theorem dX3_addKind_130 : decode cX3_addKind 130 = .ok (.iconst 1, 1) := by decide +kernel
theorem dX3_addKind_131 : decode cX3_addKind 131 = .ok (.iadd, 1) := by decide +kernel
theorem dX3_addKind_132 : decode cX3_addKind 132 = .ok (.putfield 15, 3) := by decide +kernel
theorem dX3_addKind_135 : decode cX3_addKind 135 = .ok (.iload 7, 2) := by decide +kernel
theorem dX3_addKind_137 : decode cX3_addKind 137 = .ok (.ireturn, 1) := by decide +kernel
set_option maxRecDepth 20000 in
theorem ggX3_setRules_X3_isWithin : GoodIn wsX3_setRules wsX3_isWithin := goodIn_r _ [10] (by decide +kernel) (by decide +kernel)
set_option maxRecDepth 20000 in
theorem gX3_setRules_X3_isWithin : GoodIn wsX3_setRules (va_wsS RX3 65 yX3_isWithin wsX3_isWithin) := goodIn_app (goodIn_of _ (by decide +kernel)) ggX3_setRules_X3_isWithin
theorem dX3_setRules_0 : decode cX3_setRules 0 = .ok (.iload_n 1, 1) := by decide +kernel
theorem dX3_setRules_1 : decode cX3_setRules 1 = .ok (.iconst 1, 1) := by decide +kernel
theorem dX3_setRules_2 : decode cX3_setRules 2 = .ok (.bipush 40, 2) := by decide +kernel
theorem dX3_setRules_4 : decode cX3_setRules 4 = .ok (.invokestatic 65, 3) := by decide +kernel
theorem dX3_setRules_7 : decode cX3_setRules 7 = .ok (.ifCond .eq 24, 3) := by decide +kernel
theorem dX3_setRules_10 : decode cX3_setRules 10 = .ok (.iload_n 2, 1) := by decide +kernel
theorem dX3_setRules_11 : decode cX3_setRules 11 = .ok (.iconst 0, 1) := by decide +kernel
theorem dX3_setRules_12 : decode cX3_setRules 12 = .ok (.bipush 100, 2) := by decide +kernel
theorem dX3_setRules_14 : decode cX3_setRules 14 = .ok (.invokestatic 65, 3) := by decide +kernel
theorem dX3_setRules_17 : decode cX3_setRules 17 = .ok (.ifCond .eq 14, 3) := by decide +kernel
theorem dX3_setRules_20 : decode cX3_setRules 20 = .ok (.iload_n 3, 1) := by decide +kernel
theorem dX3_setRules_21 : decode cX3_setRules 21 = .ok (.iconst 1, 1) := by decide +kernel
theorem dX3_setRules_22 : decode cX3_setRules 22 = .ok (.sipush 20000, 3) := by decide +kernel
theorem dX3_setRules_25 : decode cX3_setRules 25 = .ok (.invokestatic 65, 3) := by decide +kernel
theorem dX3_setRules_28 : decode cX3_setRules 28 = .ok (.ifCond .ne 11, 3) := by decide +kernel
theorem dX3_setRules_31 : decode cX3_setRules 31 = .ok (.new 69, 3) := by decide +kernel
theorem dX3_setRules_34 : decode cX3_setRules 34 = .ok (.dup, 1) := by decide +kernel
theorem dX3_setRules_35 : decode cX3_setRules 35 = .ok (.invokespecial 71, 3) := by decide +kernel
theorem dX3_setRules_38 : decode cX3_setRules 38 = .ok (.athrow, 1) := by decide +kernel
theorem dX3_setRules_39 : decode cX3_setRules 39 = .ok (.aload_n 0, 1) := by decide +kernel
theorem dX3_setRules_40 : decode cX3_setRules 40 = .ok (.getfield 19, 3) := by decide +kernel
theorem dX3_setRules_43 : decode cX3_setRules 43 = .ok (.istore 5, 2) := by decide +kernel
theorem dX3_setRules_45 : decode cX3_setRules 45 = .ok (.aload_n 0, 1) := by decide +kernel
theorem dX3_setRules_46 : decode cX3_setRules 46 = .ok (.iload_n 1, 1) := by decide +kernel
theorem dX3_setRules_47 : decode cX3_setRules 47 = .ok (.putfield 19, 3) := by decide +kernel
theorem dX3_setRules_50 : decode cX3_setRules 50 = .ok (.aload_n 0, 1) := by decide +kernel
theorem dX3_setRules_51 : decode cX3_setRules 51 = .ok (.iload_n 2, 1) := by decide +kernel
theorem dX3_setRules_52 : decode cX3_setRules 52 = .ok (.putfield 22, 3) := by decide +kernel
theorem dX3_setRules_55 : decode cX3_setRules 55 = .ok (.aload_n 0, 1) := by decide +kernel
theorem dX3_setRules_56 : decode cX3_setRules 56 = .ok (.iload_n 3, 1) := by decide +kernel
theorem dX3_setRules_57 : decode cX3_setRules 57 = .ok (.putfield 25, 3) := by decide +kernel
theorem dX3_setRules_60 : decode cX3_setRules 60 = .ok (.aload_n 0, 1) := by decide +kernel
theorem dX3_setRules_61 : decode cX3_setRules 61 = .ok (.iload 4, 2) := by decide +kernel
theorem dX3_setRules_63 : decode cX3_setRules 63 = .ok (.putfield 28, 3) := by decide +kernel
theorem dX3_setRules_66 : decode cX3_setRules 66 = .ok (.iload 5, 2) := by decide +kernel
theorem dX3_setRules_68 : decode cX3_setRules 68 = .ok (.ireturn, 1) := by decide +kernel
set_option maxRecDepth 20000 in
theorem ggX3_count_X3_isWithin : GoodIn wsX3_count wsX3_isWithin := goodIn_r _ [6] (by decide +kernel) (by decide +kernel)
set_option maxRecDepth 20000 in
theorem gX3_count_X3_isWithin : GoodIn wsX3_count (va_wsS RX3 65 yX3_isWithin wsX3_isWithin) := goodIn_app (goodIn_of _ (by decide +kernel)) ggX3_count_X3_isWithin
set_option maxRecDepth 20000 in
theorem ggX3_count_X3_countOf : GoodIn wsX3_count wsX3_countOf := goodIn_r _ [10, 11, 12, 13, 14, 15, 16, 17, 18, 19, 20, 21, 22, 23, 24, 25, 26, 27, 28] (by decide +kernel) (by decide +kernel)
set_option maxRecDepth 20000 in
theorem gX3_count_X3_countOf : GoodIn wsX3_count (wsV RX3 81 RX3 yX3_countOf wsX3_countOf) := goodIn_app (goodIn_of _ (by decide +kernel)) ggX3_count_X3_countOf
theorem dX3_count_0 : decode cX3_count 0 = .ok (.iload_n 1, 1) := by decide +kernel
theorem dX3_count_1 : decode cX3_count 1 = .ok (.iconst 0, 1) := by decide +kernel
theorem dX3_count_2 : decode cX3_count 2 = .ok (.iconst 3, 1) := by decide +kernel
theorem dX3_count_3 : decode cX3_count 3 = .ok (.invokestatic 65, 3) := by decide +kernel
theorem dX3_count_6 : decode cX3_count 6 = .ok (.ifCond .ne 11, 3) := by decide +kernel
theorem dX3_count_9 : decode cX3_count 9 = .ok (.new 78, 3) := by decide +kernel
theorem dX3_count_12 : decode cX3_count 12 = .ok (.dup, 1) := by decide +kernel
theorem dX3_count_13 : decode cX3_count 13 = .ok (.invokespecial 80, 3) := by decide +kernel
theorem dX3_count_16 : decode cX3_count 16 = .ok (.athrow, 1) := by decide +kernel
theorem dX3_count_17 : decode cX3_count 17 = .ok (.aload_n 0, 1) := by decide +kernel
theorem dX3_count_18 : decode cX3_count 18 = .ok (.iload_n 1, 1) := by decide +kernel
theorem dX3_count_19 : decode cX3_count 19 = .ok (.invokevirtual 81, 3) := by decide +kernel
theorem dX3_count_22 : decode cX3_count 22 = .ok (.ireturn, 1) := by decide +kernel
set_option maxRecDepth 20000 in
theorem ggX3_reason_X3_kindOf : GoodIn wsX3_reason wsX3_kindOf := goodIn_r _ [7, 8, 9, 10, 11, 6, 12, 128, 129, 130, 131, 132, 133, 134, 135, 136, 137, 138, 139, 140, 141] (by decide +kernel) (by decide +kernel)
set_option maxRecDepth 20000 in
theorem gX3_reason_X3_kindOf : GoodIn wsX3_reason (wsV RX3 85 RX3 yX3_kindOf wsX3_kindOf) := goodIn_app (goodIn_of _ (by decide +kernel)) ggX3_reason_X3_kindOf
theorem dX3_reason_0 : decode cX3_reason 0 = .ok (.aload_n 0, 1) := by decide +kernel
theorem dX3_reason_1 : decode cX3_reason 1 = .ok (.iload_n 1, 1) := by decide +kernel
theorem dX3_reason_2 : decode cX3_reason 2 = .ok (.invokevirtual 85, 3) := by decide +kernel
theorem dX3_reason_5 : decode cX3_reason 5 = .ok (.astore 5, 2) := by decide +kernel
theorem dX3_reason_7 : decode cX3_reason 7 = .ok (.aload 5, 2) := by decide +kernel
theorem dX3_reason_9 : decode cX3_reason 9 = .ok (.ifnonnull 11, 3) := by decide +kernel
theorem dX3_reason_12 : decode cX3_reason 12 = .ok (.new 78, 3) := by decide +kernel
theorem dX3_reason_15 : decode cX3_reason 15 = .ok (.dup, 1) := by decide +kernel
theorem dX3_reason_16 : decode cX3_reason 16 = .ok (.invokespecial 80, 3) := by decide +kernel
theorem dX3_reason_19 : decode cX3_reason 19 = .ok (.athrow, 1) := by decide +kernel
theorem dX3_reason_20 : decode cX3_reason 20 = .ok (.aload_n 0, 1) := by decide +kernel
theorem dX3_reason_21 : decode cX3_reason 21 = .ok (.aload 5, 2) := by decide +kernel
theorem dX3_reason_23 : decode cX3_reason 23 = .ok (.iload_n 2, 1) := by decide +kernel
theorem dX3_reason_24 : decode cX3_reason 24 = .ok (.iload_n 3, 1) := by decide +kernel
theorem dX3_reason_25 : decode cX3_reason 25 = .ok (.iload 4, 2) := by decide +kernel
theorem dX3_reason_27 : decode cX3_reason 27 = .ok (.invokevirtual 89, 3) := by decide +kernel
theorem dX3_reason_30 : decode cX3_reason 30 = .ok (.ireturn, 1) := by decide +kernel
set_option maxRecDepth 20000 in
theorem ggX3_put_X3_kindOf : GoodIn wsX3_put wsX3_kindOf := goodIn_r _ [10, 11, 12, 13, 14, 9, 15, 147, 148, 149, 150, 151, 152, 153, 154, 155, 156, 157, 158, 159, 160] (by decide +kernel) (by decide +kernel)
set_option maxRecDepth 20000 in
theorem gX3_put_X3_kindOf : GoodIn wsX3_put (wsV RX3 85 RX3 yX3_kindOf wsX3_kindOf) := goodIn_app (goodIn_of _ (by decide +kernel)) ggX3_put_X3_kindOf
theorem dX3_put_0 : decode cX3_put 0 = .ok (.aload_n 0, 1) := by decide +kernel
theorem dX3_put_1 : decode cX3_put 1 = .ok (.iload_n 1, 1) := by decide +kernel
theorem dX3_put_2 : decode cX3_put 2 = .ok (.invokevirtual 85, 3) := by decide +kernel
theorem dX3_put_5 : decode cX3_put 5 = .ok (.astore 5, 2) := by decide +kernel
theorem dX3_put_7 : decode cX3_put 7 = .ok (.aload 5, 2) := by decide +kernel
theorem dX3_put_9 : decode cX3_put 9 = .ok (.ifnonnull 11, 3) := by decide +kernel
theorem dX3_put_12 : decode cX3_put 12 = .ok (.new 78, 3) := by decide +kernel
theorem dX3_put_15 : decode cX3_put 15 = .ok (.dup, 1) := by decide +kernel
theorem dX3_put_16 : decode cX3_put 16 = .ok (.invokespecial 80, 3) := by decide +kernel
theorem dX3_put_19 : decode cX3_put 19 = .ok (.athrow, 1) := by decide +kernel
theorem dX3_put_20 : decode cX3_put 20 = .ok (.aload_n 0, 1) := by decide +kernel
theorem dX3_put_21 : decode cX3_put 21 = .ok (.getfield 38, 3) := by decide +kernel
theorem dX3_put_24 : decode cX3_put 24 = .ok (.bipush 60, 2) := by decide +kernel
theorem dX3_put_26 : decode cX3_put 26 = .ok (.if_icmp .ge 16, 3) := by decide +kernel
theorem dX3_put_29 : decode cX3_put 29 = .ok (.aload_n 0, 1) := by decide +kernel
theorem dX3_put_30 : decode cX3_put 30 = .ok (.aload 5, 2) := by decide +kernel
theorem dX3_put_32 : decode cX3_put 32 = .ok (.iload_n 2, 1) := by decide +kernel
theorem dX3_put_33 : decode cX3_put 33 = .ok (.iload_n 3, 1) := by decide +kernel
theorem dX3_put_34 : decode cX3_put 34 = .ok (.iload 4, 2) := by decide +kernel
theorem dX3_put_36 : decode cX3_put 36 = .ok (.invokevirtual 89, 3) := by decide +kernel
theorem dX3_put_39 : decode cX3_put 39 = .ok (.ifCond .eq 11, 3) := by decide +kernel
theorem dX3_put_42 : decode cX3_put 42 = .ok (.new 72, 3) := by decide +kernel
theorem dX3_put_45 : decode cX3_put 45 = .ok (.dup, 1) := by decide +kernel
theorem dX3_put_46 : decode cX3_put 46 = .ok (.invokespecial 74, 3) := by decide +kernel
theorem dX3_put_49 : decode cX3_put 49 = .ok (.athrow, 1) := by decide +kernel
theorem dX3_put_50 : decode cX3_put 50 = .ok (.aload_n 0, 1) := by decide +kernel
theorem dX3_put_51 : decode cX3_put 51 = .ok (.invokevirtual 93, 3) := by decide +kernel
theorem dX3_put_54 : decode cX3_put 54 = .ok (.aload_n 0, 1) := by decide +kernel
theorem dX3_put_55 : decode cX3_put 55 = .ok (.getfield 38, 3) := by decide +kernel
theorem dX3_put_58 : decode cX3_put 58 = .ok (.iconst 1, 1) := by decide +kernel
theorem dX3_put_59 : decode cX3_put 59 = .ok (.isub, 1) := by decide +kernel
theorem dX3_put_60 : decode cX3_put 60 = .ok (.ireturn, 1) := by decide +kernel
set_option maxRecDepth 20000 in
theorem ggX3_takeOff_X3_itemOf : GoodIn wsX3_takeOff wsX3_itemOf := goodIn_r _ [13, 14, 15, 5, 100, 101, 102, 103, 104, 105, 106, 107, 108, 109, 110, 111, 112, 113, 82, 83, 84, 85, 86, 87, 88, 89, 90, 91, 92, 93, 94, 95, 96, 97, 98, 99] (by decide +kernel) (by decide +kernel)
set_option maxRecDepth 20000 in
theorem gX3_takeOff_X3_itemOf : GoodIn wsX3_takeOff (wsV RX3 96 RX3 yX3_itemOf wsX3_itemOf) := goodIn_app (goodIn_of _ (by decide +kernel)) ggX3_takeOff_X3_itemOf
set_option maxRecDepth 20000 in
theorem ggX3_takeOff_X3_layAllTops : GoodIn wsX3_takeOff wsX3_layAllTops := goodIn_r _ [45, 46, 14, 9, 10, 11, 12, 13, 15, 5, 47, 48, 49, 50, 51, 52, 53, 54, 55, 56, 57, 58, 59, 60, 61, 100, 101, 102, 103, 104, 105, 106, 107, 108, 109, 110, 111, 112, 113, 82, 83, 84, 85, 86, 87, 88, 89, 90, 91, 92, 93, 94, 95, 96, 97, 98, 99] (by decide +kernel) (by decide +kernel)
set_option maxRecDepth 20000 in
theorem gX3_takeOff_X3_layAllTops : GoodIn wsX3_takeOff (wsV RX3 110 RX3 yX3_layAllTops wsX3_layAllTops) := goodIn_app (goodIn_of _ (by decide +kernel)) ggX3_takeOff_X3_layAllTops
theorem dX3_takeOff_0 : decode cX3_takeOff 0 = .ok (.aload_n 0, 1) := by decide +kernel
theorem dX3_takeOff_1 : decode cX3_takeOff 1 = .ok (.iload_n 1, 1) := by decide +kernel
theorem dX3_takeOff_2 : decode cX3_takeOff 2 = .ok (.invokevirtual 96, 3) := by decide +kernel
theorem dX3_takeOff_5 : decode cX3_takeOff 5 = .ok (.astore_n 2, 1) := by decide +kernel
theorem dX3_takeOff_6 : decode cX3_takeOff 6 = .ok (.aload_n 2, 1) := by decide +kernel
theorem dX3_takeOff_7 : decode cX3_takeOff 7 = .ok (.ifnonnull 11, 3) := by decide +kernel
theorem dX3_takeOff_10 : decode cX3_takeOff 10 = .ok (.new 78, 3) := by decide +kernel
theorem dX3_takeOff_13 : decode cX3_takeOff 13 = .ok (.dup, 1) := by decide +kernel
theorem dX3_takeOff_14 : decode cX3_takeOff 14 = .ok (.invokespecial 80, 3) := by decide +kernel
theorem dX3_takeOff_17 : decode cX3_takeOff 17 = .ok (.athrow, 1) := by decide +kernel
theorem dX3_takeOff_18 : decode cX3_takeOff 18 = .ok (.aload_n 0, 1) := by decide +kernel
theorem dX3_takeOff_19 : decode cX3_takeOff 19 = .ok (.aload_n 2, 1) := by decide +kernel
theorem dX3_takeOff_20 : decode cX3_takeOff 20 = .ok (.invokevirtual 100, 3) := by decide +kernel
theorem dX3_takeOff_23 : decode cX3_takeOff 23 = .ok (.ifCond .le 11, 3) := by decide +kernel
theorem dX3_takeOff_26 : decode cX3_takeOff 26 = .ok (.new 72, 3) := by decide +kernel
theorem dX3_takeOff_29 : decode cX3_takeOff 29 = .ok (.dup, 1) := by decide +kernel
theorem dX3_takeOff_30 : decode cX3_takeOff 30 = .ok (.invokespecial 74, 3) := by decide +kernel
theorem dX3_takeOff_33 : decode cX3_takeOff 33 = .ok (.athrow, 1) := by decide +kernel
theorem dX3_takeOff_34 : decode cX3_takeOff 34 = .ok (.aload_n 2, 1) := by decide +kernel
theorem dX3_takeOff_35 : decode cX3_takeOff 35 = .ok (.iconst 0, 1) := by decide +kernel
theorem dX3_takeOff_36 : decode cX3_takeOff 36 = .ok (.putfield 104, 3) := by decide +kernel
theorem dX3_takeOff_39 : decode cX3_takeOff 39 = .ok (.aload_n 0, 1) := by decide +kernel
theorem dX3_takeOff_40 : decode cX3_takeOff 40 = .ok (.dup, 1) := by decide +kernel
theorem dX3_takeOff_41 : decode cX3_takeOff 41 = .ok (.getfield 41, 3) := by decide +kernel
theorem dX3_takeOff_44 : decode cX3_takeOff 44 = .ok (.iconst 1, 1) := by decide +kernel
theorem dX3_takeOff_45 : decode cX3_takeOff 45 = .ok (.isub, 1) := by decide +kernel
theorem dX3_takeOff_46 : decode cX3_takeOff 46 = .ok (.putfield 41, 3) := by decide +kernel
theorem dX3_takeOff_49 : decode cX3_takeOff 49 = .ok (.aload_n 0, 1) := by decide +kernel
theorem dX3_takeOff_50 : decode cX3_takeOff 50 = .ok (.dup, 1) := by decide +kernel
theorem dX3_takeOff_51 : decode cX3_takeOff 51 = .ok (.getfield 44, 3) := by decide +kernel
theorem dX3_takeOff_54 : decode cX3_takeOff 54 = .ok (.aload_n 2, 1) := by decide +kernel
theorem dX3_takeOff_55 : decode cX3_takeOff 55 = .ok (.getfield 107, 3) := by decide +kernel
theorem dX3_takeOff_58 : decode cX3_takeOff 58 = .ok (.isub, 1) := by decide +kernel
theorem dX3_takeOff_59 : decode cX3_takeOff 59 = .ok (.putfield 44, 3) := by decide +kernel
theorem dX3_takeOff_62 : decode cX3_takeOff 62 = .ok (.aload_n 0, 1) := by decide +kernel
theorem dX3_takeOff_63 : decode cX3_takeOff 63 = .ok (.invokevirtual 110, 3) := by decide +kernel
theorem dX3_takeOff_66 : decode cX3_takeOff 66 = .ok (.aload_n 0, 1) := by decide +kernel
theorem dX3_takeOff_67 : decode cX3_takeOff 67 = .ok (.invokevirtual 113, 3) := by decide +kernel
theorem dX3_takeOff_70 : decode cX3_takeOff 70 = .ok (.aload_n 0, 1) := by decide +kernel
theorem dX3_takeOff_71 : decode cX3_takeOff 71 = .ok (.getfield 41, 3) := by decide +kernel
theorem dX3_takeOff_74 : decode cX3_takeOff 74 = .ok (.ireturn, 1) := by decide +kernel
set_option maxRecDepth 20000 in
theorem ggX3_item_X3_itemOf : GoodIn wsX3_item wsX3_itemOf := goodIn_r _ [7, 8, 9, 10, 53, 54, 55, 56, 57, 58, 59, 60, 61, 62, 63, 64, 65, 66, 67, 68, 69, 70, 71, 72, 73, 74, 75, 76, 77, 78, 79, 80, 81, 82, 83, 84] (by decide +kernel) (by decide +kernel)
set_option maxRecDepth 20000 in
theorem gX3_item_X3_itemOf : GoodIn wsX3_item (wsV RX3 96 RX3 yX3_itemOf wsX3_itemOf) := goodIn_app (goodIn_of _ (by decide +kernel)) ggX3_item_X3_itemOf
set_option maxRecDepth 20000 in
theorem ggX3_item_X3_isWithin : GoodIn wsX3_item wsX3_isWithin := goodIn_r _ [13] (by decide +kernel) (by decide +kernel)
set_option maxRecDepth 20000 in
theorem gX3_item_X3_isWithin : GoodIn wsX3_item (va_wsS RX3 65 yX3_isWithin wsX3_isWithin) := goodIn_app (goodIn_of _ (by decide +kernel)) ggX3_item_X3_isWithin
theorem dX3_item_0 : decode cX3_item 0 = .ok (.aload_n 0, 1) := by decide +kernel
theorem dX3_item_1 : decode cX3_item 1 = .ok (.iload_n 1, 1) := by decide +kernel
theorem dX3_item_2 : decode cX3_item 2 = .ok (.invokevirtual 96, 3) := by decide +kernel
theorem dX3_item_5 : decode cX3_item 5 = .ok (.astore_n 3, 1) := by decide +kernel
theorem dX3_item_6 : decode cX3_item 6 = .ok (.aload_n 3, 1) := by decide +kernel
theorem dX3_item_7 : decode cX3_item 7 = .ok (.ifnull 13, 3) := by decide +kernel
theorem dX3_item_10 : decode cX3_item 10 = .ok (.iload_n 2, 1) := by decide +kernel
theorem dX3_item_11 : decode cX3_item 11 = .ok (.iconst 0, 1) := by decide +kernel
theorem dX3_item_12 : decode cX3_item 12 = .ok (.bipush 9, 2) := by decide +kernel
theorem dX3_item_14 : decode cX3_item 14 = .ok (.invokestatic 65, 3) := by decide +kernel
theorem dX3_item_17 : decode cX3_item 17 = .ok (.ifCond .ne 11, 3) := by decide +kernel
theorem dX3_item_20 : decode cX3_item 20 = .ok (.new 78, 3) := by decide +kernel
theorem dX3_item_23 : decode cX3_item 23 = .ok (.dup, 1) := by decide +kernel
theorem dX3_item_24 : decode cX3_item 24 = .ok (.invokespecial 80, 3) := by decide +kernel
theorem dX3_item_27 : decode cX3_item 27 = .ok (.athrow, 1) := by decide +kernel
theorem dX3_item_28 : decode cX3_item 28 = .ok (.aload_n 0, 1) := by decide +kernel
theorem dX3_item_29 : decode cX3_item 29 = .ok (.aload_n 3, 1) := by decide +kernel
theorem dX3_item_30 : decode cX3_item 30 = .ok (.iload_n 2, 1) := by decide +kernel
theorem dX3_item_31 : decode cX3_item 31 = .ok (.invokevirtual 116, 3) := by decide +kernel
theorem dX3_item_34 : decode cX3_item 34 = .ok (.ireturn, 1) := by decide +kernel
set_option maxRecDepth 20000 in
theorem ggX3_top_X3_isCell : GoodIn wsX3_top wsX3_isCell := goodIn_r _ [6, 7, 8, 5, 9] (by decide +kernel) (by decide +kernel)
set_option maxRecDepth 20000 in
theorem gX3_top_X3_isCell : GoodIn wsX3_top (va_wsS RX3 120 yX3_isCell wsX3_isCell) := goodIn_app (goodIn_of _ (by decide +kernel)) ggX3_top_X3_isCell
set_option maxRecDepth 20000 in
theorem ggX3_top_X3_topOf : GoodIn wsX3_top wsX3_topOf := goodIn_r _ [13, 14, 15, 16, 17, 18, 19, 20, 21, 22, 23, 24, 25, 26, 27, 28] (by decide +kernel) (by decide +kernel)
set_option maxRecDepth 20000 in
theorem gX3_top_X3_topOf : GoodIn wsX3_top (wsV RX3 124 RX3 yX3_topOf wsX3_topOf) := goodIn_app (goodIn_of _ (by decide +kernel)) ggX3_top_X3_topOf
theorem dX3_top_0 : decode cX3_top 0 = .ok (.iload_n 1, 1) := by decide +kernel
theorem dX3_top_1 : decode cX3_top 1 = .ok (.iload_n 2, 1) := by decide +kernel
theorem dX3_top_2 : decode cX3_top 2 = .ok (.invokestatic 120, 3) := by decide +kernel
theorem dX3_top_5 : decode cX3_top 5 = .ok (.ifCond .ne 11, 3) := by decide +kernel
theorem dX3_top_8 : decode cX3_top 8 = .ok (.new 78, 3) := by decide +kernel
theorem dX3_top_11 : decode cX3_top 11 = .ok (.dup, 1) := by decide +kernel
theorem dX3_top_12 : decode cX3_top 12 = .ok (.invokespecial 80, 3) := by decide +kernel
theorem dX3_top_15 : decode cX3_top 15 = .ok (.athrow, 1) := by decide +kernel
theorem dX3_top_16 : decode cX3_top 16 = .ok (.aload_n 0, 1) := by decide +kernel
theorem dX3_top_17 : decode cX3_top 17 = .ok (.iload_n 1, 1) := by decide +kernel
theorem dX3_top_18 : decode cX3_top 18 = .ok (.iload_n 2, 1) := by decide +kernel
theorem dX3_top_19 : decode cX3_top 19 = .ok (.invokevirtual 124, 3) := by decide +kernel
theorem dX3_top_22 : decode cX3_top 22 = .ok (.ireturn, 1) := by decide +kernel
set_option maxRecDepth 20000 in
theorem ggX3_at_X3_isCell : GoodIn wsX3_at wsX3_isCell := goodIn_r _ [9, 10, 11, 8, 12] (by decide +kernel) (by decide +kernel)
set_option maxRecDepth 20000 in
theorem gX3_at_X3_isCell : GoodIn wsX3_at (va_wsS RX3 120 yX3_isCell wsX3_isCell) := goodIn_app (goodIn_of _ (by decide +kernel)) ggX3_at_X3_isCell
set_option maxRecDepth 20000 in
theorem ggX3_at_X3_isWithin : GoodIn wsX3_at wsX3_isWithin := goodIn_r _ [12] (by decide +kernel) (by decide +kernel)
set_option maxRecDepth 20000 in
theorem gX3_at_X3_isWithin : GoodIn wsX3_at (va_wsS RX3 65 yX3_isWithin wsX3_isWithin) := goodIn_app (goodIn_of _ (by decide +kernel)) ggX3_at_X3_isWithin
set_option maxRecDepth 20000 in
theorem ggX3_at_X3_itemOf : GoodIn wsX3_at wsX3_itemOf := goodIn_r _ [16, 3, 17, 18, 28, 29, 30, 31, 32, 33, 34, 35, 36, 37, 38, 39, 40, 41, 42, 43, 44, 45, 46, 47, 48, 49, 50, 51, 52, 53, 54, 55, 56, 57, 58, 59] (by decide +kernel) (by decide +kernel)
set_option maxRecDepth 20000 in
theorem gX3_at_X3_itemOf : GoodIn wsX3_at (wsV RX3 96 RX3 yX3_itemOf wsX3_itemOf) := goodIn_app (goodIn_of _ (by decide +kernel)) ggX3_at_X3_itemOf
theorem dX3_at_0 : decode cX3_at 0 = .ok (.iload_n 1, 1) := by decide +kernel
theorem dX3_at_1 : decode cX3_at 1 = .ok (.iload_n 2, 1) := by decide +kernel
theorem dX3_at_2 : decode cX3_at 2 = .ok (.invokestatic 120, 3) := by decide +kernel
theorem dX3_at_5 : decode cX3_at 5 = .ok (.ifCond .eq 13, 3) := by decide +kernel
theorem dX3_at_8 : decode cX3_at 8 = .ok (.iload_n 3, 1) := by decide +kernel
theorem dX3_at_9 : decode cX3_at 9 = .ok (.iconst 0, 1) := by decide +kernel
theorem dX3_at_10 : decode cX3_at 10 = .ok (.bipush 39, 2) := by decide +kernel
theorem dX3_at_12 : decode cX3_at 12 = .ok (.invokestatic 65, 3) := by decide +kernel
theorem dX3_at_15 : decode cX3_at 15 = .ok (.ifCond .ne 11, 3) := by decide +kernel
theorem dX3_at_18 : decode cX3_at 18 = .ok (.new 78, 3) := by decide +kernel
theorem dX3_at_21 : decode cX3_at 21 = .ok (.dup, 1) := by decide +kernel
theorem dX3_at_22 : decode cX3_at 22 = .ok (.invokespecial 80, 3) := by decide +kernel
theorem dX3_at_25 : decode cX3_at 25 = .ok (.athrow, 1) := by decide +kernel
theorem dX3_at_26 : decode cX3_at 26 = .ok (.iconst 0, 1) := by decide +kernel
theorem dX3_at_27 : decode cX3_at 27 = .ok (.istore 4, 2) := by decide +kernel
theorem dX3_at_29 : decode cX3_at 29 = .ok (.iload 4, 2) := by decide +kernel
theorem dX3_at_31 : decode cX3_at 31 = .ok (.aload_n 0, 1) := by decide +kernel
theorem dX3_at_32 : decode cX3_at 32 = .ok (.getfield 38, 3) := by decide +kernel
theorem dX3_at_35 : decode cX3_at 35 = .ok (.if_icmp .ge 53, 3) := by decide +kernel
theorem dX3_at_38 : decode cX3_at 38 = .ok (.aload_n 0, 1) := by decide +kernel
theorem dX3_at_39 : decode cX3_at 39 = .ok (.iload 4, 2) := by decide +kernel
theorem dX3_at_41 : decode cX3_at 41 = .ok (.invokevirtual 96, 3) := by decide +kernel
theorem dX3_at_44 : decode cX3_at 44 = .ok (.astore 5, 2) := by decide +kernel
theorem dX3_at_46 : decode cX3_at 46 = .ok (.aload 5, 2) := by decide +kernel
theorem dX3_at_48 : decode cX3_at 48 = .ok (.ifnull 34, 3) := by decide +kernel
theorem dX3_at_51 : decode cX3_at 51 = .ok (.aload 5, 2) := by decide +kernel
theorem dX3_at_53 : decode cX3_at 53 = .ok (.iload_n 1, 1) := by decide +kernel
theorem dX3_at_54 : decode cX3_at 54 = .ok (.iload_n 2, 1) := by decide +kernel
theorem dX3_at_55 : decode cX3_at 55 = .ok (.invokevirtual 128, 3) := by decide +kernel
theorem dX3_at_58 : decode cX3_at 58 = .ok (.ifCond .eq 24, 3) := by decide +kernel
theorem dX3_at_61 : decode cX3_at 61 = .ok (.aload 5, 2) := by decide +kernel
theorem dX3_at_63 : decode cX3_at 63 = .ok (.getfield 131, 3) := by decide +kernel
theorem dX3_at_66 : decode cX3_at 66 = .ok (.iload_n 3, 1) := by decide +kernel
theorem dX3_at_67 : decode cX3_at 67 = .ok (.if_icmp .gt 15, 3) := by decide +kernel
theorem dX3_at_70 : decode cX3_at 70 = .ok (.iload_n 3, 1) := by decide +kernel
theorem dX3_at_71 : decode cX3_at 71 = .ok (.aload 5, 2) := by decide +kernel
theorem dX3_at_73 : decode cX3_at 73 = .ok (.getfield 134, 3) := by decide +kernel
theorem dX3_at_76 : decode cX3_at 76 = .ok (.if_icmp .ge 6, 3) := by decide +kernel
theorem dX3_at_79 : decode cX3_at 79 = .ok (.iload 4, 2) := by decide +kernel
theorem dX3_at_81 : decode cX3_at 81 = .ok (.ireturn, 1) := by decide +kernel
theorem dX3_at_82 : decode cX3_at 82 = .ok (.iinc 4 1, 3) := by decide +kernel
theorem dX3_at_85 : decode cX3_at 85 = .ok (.goto (-56), 3) := by decide +kernel
theorem dX3_at_88 : decode cX3_at 88 = .ok (.iconst (-1), 1) := by decide +kernel
theorem dX3_at_89 : decode cX3_at 89 = .ok (.ireturn, 1) := by decide +kernel
set_option maxRecDepth 20000 in
theorem ggX3_restsOn_X3_itemOf : GoodIn wsX3_restsOn wsX3_itemOf := goodIn_r _ [7, 8, 9, 10, 24, 25, 26, 27, 28, 29, 30, 31, 32, 33, 34, 35, 36, 37, 38, 39, 40, 41, 42, 43, 44, 45, 46, 47, 48, 49, 50, 51, 52, 53, 54, 55] (by decide +kernel) (by decide +kernel)
set_option maxRecDepth 20000 in
theorem gX3_restsOn_X3_itemOf : GoodIn wsX3_restsOn (wsV RX3 96 RX3 yX3_itemOf wsX3_itemOf) := goodIn_app (goodIn_of _ (by decide +kernel)) ggX3_restsOn_X3_itemOf
theorem dX3_restsOn_0 : decode cX3_restsOn 0 = .ok (.aload_n 0, 1) := by decide +kernel
theorem dX3_restsOn_1 : decode cX3_restsOn 1 = .ok (.iload_n 1, 1) := by decide +kernel
theorem dX3_restsOn_2 : decode cX3_restsOn 2 = .ok (.invokevirtual 96, 3) := by decide +kernel
theorem dX3_restsOn_5 : decode cX3_restsOn 5 = .ok (.astore_n 3, 1) := by decide +kernel
theorem dX3_restsOn_6 : decode cX3_restsOn 6 = .ok (.aload_n 0, 1) := by decide +kernel
theorem dX3_restsOn_7 : decode cX3_restsOn 7 = .ok (.iload_n 2, 1) := by decide +kernel
theorem dX3_restsOn_8 : decode cX3_restsOn 8 = .ok (.invokevirtual 96, 3) := by decide +kernel
theorem dX3_restsOn_11 : decode cX3_restsOn 11 = .ok (.astore 4, 2) := by decide +kernel
theorem dX3_restsOn_13 : decode cX3_restsOn 13 = .ok (.aload_n 3, 1) := by decide +kernel
theorem dX3_restsOn_14 : decode cX3_restsOn 14 = .ok (.ifnull 8, 3) := by decide +kernel
theorem dX3_restsOn_17 : decode cX3_restsOn 17 = .ok (.aload 4, 2) := by decide +kernel
theorem dX3_restsOn_19 : decode cX3_restsOn 19 = .ok (.ifnonnull 11, 3) := by decide +kernel
theorem dX3_restsOn_22 : decode cX3_restsOn 22 = .ok (.new 78, 3) := by decide +kernel
theorem dX3_restsOn_25 : decode cX3_restsOn 25 = .ok (.dup, 1) := by decide +kernel
theorem dX3_restsOn_26 : decode cX3_restsOn 26 = .ok (.invokespecial 80, 3) := by decide +kernel
theorem dX3_restsOn_29 : decode cX3_restsOn 29 = .ok (.athrow, 1) := by decide +kernel
theorem dX3_restsOn_30 : decode cX3_restsOn 30 = .ok (.aload_n 0, 1) := by decide +kernel
theorem dX3_restsOn_31 : decode cX3_restsOn 31 = .ok (.aload_n 3, 1) := by decide +kernel
theorem dX3_restsOn_32 : decode cX3_restsOn 32 = .ok (.aload 4, 2) := by decide +kernel
theorem dX3_restsOn_34 : decode cX3_restsOn 34 = .ok (.invokevirtual 137, 3) := by decide +kernel
theorem dX3_restsOn_37 : decode cX3_restsOn 37 = .ok (.ireturn, 1) := by decide +kernel
set_option maxRecDepth 20000 in
theorem ggX3_best_X3_kindOf : GoodIn wsX3_best wsX3_kindOf := goodIn_r _ [7, 8, 9, 10, 11, 6, 12, 137, 138, 139, 140, 141, 142, 143, 144, 145, 146, 147, 148, 149, 150] (by decide +kernel) (by decide +kernel)
set_option maxRecDepth 20000 in
theorem gX3_best_X3_kindOf : GoodIn wsX3_best (wsV RX3 85 RX3 yX3_kindOf wsX3_kindOf) := goodIn_app (goodIn_of _ (by decide +kernel)) ggX3_best_X3_kindOf
theorem dX3_best_0 : decode cX3_best 0 = .ok (.aload_n 0, 1) := by decide +kernel
theorem dX3_best_1 : decode cX3_best 1 = .ok (.iload_n 1, 1) := by decide +kernel
theorem dX3_best_2 : decode cX3_best 2 = .ok (.invokevirtual 85, 3) := by decide +kernel
theorem dX3_best_5 : decode cX3_best 5 = .ok (.astore_n 2, 1) := by decide +kernel
theorem dX3_best_6 : decode cX3_best 6 = .ok (.aload_n 2, 1) := by decide +kernel
theorem dX3_best_7 : decode cX3_best 7 = .ok (.ifnonnull 11, 3) := by decide +kernel
theorem dX3_best_10 : decode cX3_best 10 = .ok (.new 78, 3) := by decide +kernel
theorem dX3_best_13 : decode cX3_best 13 = .ok (.dup, 1) := by decide +kernel
theorem dX3_best_14 : decode cX3_best 14 = .ok (.invokespecial 80, 3) := by decide +kernel
theorem dX3_best_17 : decode cX3_best 17 = .ok (.athrow, 1) := by decide +kernel
theorem dX3_best_18 : decode cX3_best 18 = .ok (.aload_n 0, 1) := by decide +kernel
theorem dX3_best_19 : decode cX3_best 19 = .ok (.aload_n 2, 1) := by decide +kernel
theorem dX3_best_20 : decode cX3_best 20 = .ok (.invokevirtual 141, 3) := by decide +kernel
theorem dX3_best_23 : decode cX3_best 23 = .ok (.ireturn, 1) := by decide +kernel
set_option maxRecDepth 20000 in
theorem ggX3_fill_X3_kindOf : GoodIn wsX3_fill wsX3_kindOf := goodIn_r _ [9, 10, 11, 12, 13, 8, 14, 160, 161, 162, 163, 164, 165, 166, 167, 168, 169, 170, 171, 172, 173] (by decide +kernel) (by decide +kernel)
set_option maxRecDepth 20000 in
theorem gX3_fill_X3_kindOf : GoodIn wsX3_fill (wsV RX3 85 RX3 yX3_kindOf wsX3_kindOf) := goodIn_app (goodIn_of _ (by decide +kernel)) ggX3_fill_X3_kindOf
set_option maxRecDepth 20000 in
theorem ggX3_fill_X3_isWithin : GoodIn wsX3_fill wsX3_isWithin := goodIn_r _ [14] (by decide +kernel) (by decide +kernel)
set_option maxRecDepth 20000 in
theorem gX3_fill_X3_isWithin : GoodIn wsX3_fill (va_wsS RX3 65 yX3_isWithin wsX3_isWithin) := goodIn_app (goodIn_of _ (by decide +kernel)) ggX3_fill_X3_isWithin
theorem dX3_fill_0 : decode cX3_fill 0 = .ok (.aload_n 0, 1) := by decide +kernel
theorem dX3_fill_1 : decode cX3_fill 1 = .ok (.iload_n 1, 1) := by decide +kernel
theorem dX3_fill_2 : decode cX3_fill 2 = .ok (.invokevirtual 85, 3) := by decide +kernel
theorem dX3_fill_5 : decode cX3_fill 5 = .ok (.astore_n 3, 1) := by decide +kernel
theorem dX3_fill_6 : decode cX3_fill 6 = .ok (.aload_n 3, 1) := by decide +kernel
theorem dX3_fill_7 : decode cX3_fill 7 = .ok (.ifnonnull 11, 3) := by decide +kernel
theorem dX3_fill_10 : decode cX3_fill 10 = .ok (.new 78, 3) := by decide +kernel
theorem dX3_fill_13 : decode cX3_fill 13 = .ok (.dup, 1) := by decide +kernel
theorem dX3_fill_14 : decode cX3_fill 14 = .ok (.invokespecial 80, 3) := by decide +kernel
theorem dX3_fill_17 : decode cX3_fill 17 = .ok (.athrow, 1) := by decide +kernel
theorem dX3_fill_18 : decode cX3_fill 18 = .ok (.iload_n 2, 1) := by decide +kernel
theorem dX3_fill_19 : decode cX3_fill 19 = .ok (.iconst 1, 1) := by decide +kernel
theorem dX3_fill_20 : decode cX3_fill 20 = .ok (.bipush 60, 2) := by decide +kernel
theorem dX3_fill_22 : decode cX3_fill 22 = .ok (.invokestatic 65, 3) := by decide +kernel
theorem dX3_fill_25 : decode cX3_fill 25 = .ok (.ifCond .ne 11, 3) := by decide +kernel
theorem dX3_fill_28 : decode cX3_fill 28 = .ok (.new 69, 3) := by decide +kernel
theorem dX3_fill_31 : decode cX3_fill 31 = .ok (.dup, 1) := by decide +kernel
theorem dX3_fill_32 : decode cX3_fill 32 = .ok (.invokespecial 71, 3) := by decide +kernel
theorem dX3_fill_35 : decode cX3_fill 35 = .ok (.athrow, 1) := by decide +kernel
theorem dX3_fill_36 : decode cX3_fill 36 = .ok (.iconst 0, 1) := by decide +kernel
theorem dX3_fill_37 : decode cX3_fill 37 = .ok (.istore 4, 2) := by decide +kernel
theorem dX3_fill_39 : decode cX3_fill 39 = .ok (.iload 4, 2) := by decide +kernel
theorem dX3_fill_41 : decode cX3_fill 41 = .ok (.iload_n 2, 1) := by decide +kernel
theorem dX3_fill_42 : decode cX3_fill 42 = .ok (.if_icmp .ge 20, 3) := by decide +kernel
theorem dX3_fill_45 : decode cX3_fill 45 = .ok (.aload_n 0, 1) := by decide +kernel
theorem dX3_fill_46 : decode cX3_fill 46 = .ok (.aload_n 3, 1) := by decide +kernel
theorem dX3_fill_47 : decode cX3_fill 47 = .ok (.invokevirtual 145, 3) := by decide +kernel
theorem dX3_fill_50 : decode cX3_fill 50 = .ok (.ifCond .ne 6, 3) := by decide +kernel
theorem dX3_fill_53 : decode cX3_fill 53 = .ok (.iload 4, 2) := by decide +kernel
theorem dX3_fill_55 : decode cX3_fill 55 = .ok (.ireturn, 1) := by decide +kernel
theorem dX3_fill_56 : decode cX3_fill 56 = .ok (.iinc 4 1, 3) := by decide +kernel
theorem dX3_fill_59 : decode cX3_fill 59 = .ok (.goto (-20), 3) := by decide +kernel
theorem dX3_fill_62 : decode cX3_fill 62 = .ok (.iload_n 2, 1) := by decide +kernel
theorem dX3_fill_63 : decode cX3_fill 63 = .ok (.ireturn, 1) := by decide +kernel
set_option maxRecDepth 20000 in
theorem ggX3_addLine_X3_kindOf : GoodIn wsX3_addLine wsX3_kindOf := goodIn_r _ [16, 17, 18, 19, 20, 15, 21, 31, 32, 33, 34, 35, 36, 37, 38, 39, 40, 41, 42, 43, 44] (by decide +kernel) (by decide +kernel)
set_option maxRecDepth 20000 in
theorem gX3_addLine_X3_kindOf : GoodIn wsX3_addLine (wsV RX3 85 RX3 yX3_kindOf wsX3_kindOf) := goodIn_app (goodIn_of _ (by decide +kernel)) ggX3_addLine_X3_kindOf
set_option maxRecDepth 20000 in
theorem ggX3_addLine_X3_isWithin : GoodIn wsX3_addLine wsX3_isWithin := goodIn_r _ [21] (by decide +kernel) (by decide +kernel)
set_option maxRecDepth 20000 in
theorem gX3_addLine_X3_isWithin : GoodIn wsX3_addLine (va_wsS RX3 65 yX3_isWithin wsX3_isWithin) := goodIn_app (goodIn_of _ (by decide +kernel)) ggX3_addLine_X3_isWithin
theorem dX3_addLine_0 : decode cX3_addLine 0 = .ok (.aload_n 0, 1) := by decide +kernel
theorem dX3_addLine_1 : decode cX3_addLine 1 = .ok (.iload_n 1, 1) := by decide +kernel
theorem dX3_addLine_2 : decode cX3_addLine 2 = .ok (.invokevirtual 85, 3) := by decide +kernel
theorem dX3_addLine_5 : decode cX3_addLine 5 = .ok (.astore_n 3, 1) := by decide +kernel
theorem dX3_addLine_6 : decode cX3_addLine 6 = .ok (.aload_n 3, 1) := by decide +kernel
theorem dX3_addLine_7 : decode cX3_addLine 7 = .ok (.ifnonnull 11, 3) := by decide +kernel
theorem dX3_addLine_10 : decode cX3_addLine 10 = .ok (.new 78, 3) := by decide +kernel
theorem dX3_addLine_13 : decode cX3_addLine 13 = .ok (.dup, 1) := by decide +kernel
theorem dX3_addLine_14 : decode cX3_addLine 14 = .ok (.invokespecial 80, 3) := by decide +kernel
theorem dX3_addLine_17 : decode cX3_addLine 17 = .ok (.athrow, 1) := by decide +kernel
theorem dX3_addLine_18 : decode cX3_addLine 18 = .ok (.iload_n 2, 1) := by decide +kernel
theorem dX3_addLine_19 : decode cX3_addLine 19 = .ok (.iconst 1, 1) := by decide +kernel
theorem dX3_addLine_20 : decode cX3_addLine 20 = .ok (.bipush 20, 2) := by decide +kernel
theorem dX3_addLine_22 : decode cX3_addLine 22 = .ok (.invokestatic 65, 3) := by decide +kernel
theorem dX3_addLine_25 : decode cX3_addLine 25 = .ok (.ifCond .ne 11, 3) := by decide +kernel
theorem dX3_addLine_28 : decode cX3_addLine 28 = .ok (.new 69, 3) := by decide +kernel
theorem dX3_addLine_31 : decode cX3_addLine 31 = .ok (.dup, 1) := by decide +kernel
theorem dX3_addLine_32 : decode cX3_addLine 32 = .ok (.invokespecial 71, 3) := by decide +kernel
theorem dX3_addLine_35 : decode cX3_addLine 35 = .ok (.athrow, 1) := by decide +kernel
theorem dX3_addLine_36 : decode cX3_addLine 36 = .ok (.aload_n 0, 1) := by decide +kernel
theorem dX3_addLine_37 : decode cX3_addLine 37 = .ok (.getfield 62, 3) := by decide +kernel
theorem dX3_addLine_40 : decode cX3_addLine 40 = .ok (.ifCond .lt 12, 3) := by decide +kernel
theorem dX3_addLine_43 : decode cX3_addLine 43 = .ok (.aload_n 0, 1) := by decide +kernel
theorem dX3_addLine_44 : decode cX3_addLine 44 = .ok (.getfield 62, 3) := by decide +kernel
theorem dX3_addLine_47 : decode cX3_addLine 47 = .ok (.bipush 20, 2) := by decide +kernel
theorem dX3_addLine_49 : decode cX3_addLine 49 = .ok (.if_icmp .lt 11, 3) := by decide +kernel
theorem dX3_addLine_52 : decode cX3_addLine 52 = .ok (.new 72, 3) := by decide +kernel
theorem dX3_addLine_55 : decode cX3_addLine 55 = .ok (.dup, 1) := by decide +kernel
theorem dX3_addLine_56 : decode cX3_addLine 56 = .ok (.invokespecial 74, 3) := by decide +kernel
theorem dX3_addLine_59 : decode cX3_addLine 59 = .ok (.athrow, 1) := by decide +kernel
theorem dX3_addLine_60 : decode cX3_addLine 60 = .ok (.aload_n 0, 1) := by decide +kernel
theorem dX3_addLine_61 : decode cX3_addLine 61 = .ok (.getfield 62, 3) := by decide +kernel
theorem dX3_addLine_64 : decode cX3_addLine 64 = .ok (.istore 4, 2) := by decide +kernel
theorem dX3_addLine_66 : decode cX3_addLine 66 = .ok (.aload_n 0, 1) := by decide +kernel
theorem dX3_addLine_67 : decode cX3_addLine 67 = .ok (.getfield 58, 3) := by decide +kernel
theorem dX3_addLine_70 : decode cX3_addLine 70 = .ok (.iload 4, 2) := by decide +kernel
theorem dX3_addLine_72 : decode cX3_addLine 72 = .ok (.new 56, 3) := by decide +kernel
theorem dX3_addLine_75 : decode cX3_addLine 75 = .ok (.dup, 1) := by decide +kernel
theorem dX3_addLine_76 : decode cX3_addLine 76 = .ok (.aload_n 3, 1) := by decide +kernel
theorem dX3_addLine_77 : decode cX3_addLine 77 = .ok (.iload_n 2, 1) := by decide +kernel
theorem dX3_addLine_78 : decode cX3_addLine 78 = .ok (.invokespecial 149, 3) := by decide +kernel
theorem dX3_addLine_81 : decode cX3_addLine 81 = .ok (.aastore, 1) := by decide +kernel
theorem dX3_addLine_82 : decode cX3_addLine 82 = .ok (.aload_n 0, 1) := by decide +kernel
theorem dX3_addLine_83 : decode cX3_addLine 83 = .ok (.iload 4, 2) := by decide +kernel
theorem dX3_addLine_85 : decode cX3_addLine 85 = .ok (.iconst 1, 1) := by decide +kernel
theorem dX3_addLine_86 : decode cX3_addLine 86 = .ok (.iadd, 1) := by decide +kernel
theorem dX3_addLine_87 : decode cX3_addLine 87 = .ok (.putfield 62, 3) := by decide +kernel
theorem dX3_addLine_90 : decode cX3_addLine 90 = .ok (.iload 4, 2) := by decide +kernel
theorem dX3_addLine_92 : decode cX3_addLine 92 = .ok (.ireturn, 1) := by decide +kernel
set_option maxRecDepth 20000 in
theorem ggX3_stack_X3_lineOf : GoodIn wsX3_stack wsX3_lineOf := goodIn_r _ [9, 1, 10, 11, 12, 8, 13, 171, 172, 173, 174, 175, 176, 177, 178, 179, 180, 181, 182, 183, 184] (by decide +kernel) (by decide +kernel)
set_option maxRecDepth 20000 in
theorem gX3_stack_X3_lineOf : GoodIn wsX3_stack (wsV RX3 152 RX3 yX3_lineOf wsX3_lineOf) := goodIn_app (goodIn_of _ (by decide +kernel)) ggX3_stack_X3_lineOf
set_option maxRecDepth 20000 in
theorem ggX3_stack_X3_nextLine : GoodIn wsX3_stack wsX3_nextLine := goodIn_r _ [17, 1, 4, 2, 3, 5, 6, 7, 8, 9, 10, 11, 12, 13, 18, 19, 20, 21, 22, 23, 24, 25, 171, 172, 173, 174, 175, 176, 177, 178, 179, 180, 181, 182, 183, 184, 185, 186, 187, 188, 189, 190, 191, 192, 193, 194, 195] (by decide +kernel) (by decide +kernel)
set_option maxRecDepth 20000 in
theorem gX3_stack_X3_nextLine : GoodIn wsX3_stack (wsV RX3 159 RX3 yX3_nextLine wsX3_nextLine) := goodIn_app (goodIn_of _ (by decide +kernel)) ggX3_stack_X3_nextLine
theorem dX3_stack_0 : decode cX3_stack 0 = .ok (.iconst 0, 1) := by decide +kernel
theorem dX3_stack_1 : decode cX3_stack 1 = .ok (.istore_n 1, 1) := by decide +kernel
theorem dX3_stack_2 : decode cX3_stack 2 = .ok (.iload_n 1, 1) := by decide +kernel
theorem dX3_stack_3 : decode cX3_stack 3 = .ok (.aload_n 0, 1) := by decide +kernel
theorem dX3_stack_4 : decode cX3_stack 4 = .ok (.getfield 62, 3) := by decide +kernel
theorem dX3_stack_7 : decode cX3_stack 7 = .ok (.if_icmp .ge 24, 3) := by decide +kernel
theorem dX3_stack_10 : decode cX3_stack 10 = .ok (.aload_n 0, 1) := by decide +kernel
theorem dX3_stack_11 : decode cX3_stack 11 = .ok (.iload_n 1, 1) := by decide +kernel
theorem dX3_stack_12 : decode cX3_stack 12 = .ok (.invokevirtual 152, 3) := by decide +kernel
theorem dX3_stack_15 : decode cX3_stack 15 = .ok (.astore_n 2, 1) := by decide +kernel
theorem dX3_stack_16 : decode cX3_stack 16 = .ok (.aload_n 2, 1) := by decide +kernel
theorem dX3_stack_17 : decode cX3_stack 17 = .ok (.ifnull 8, 3) := by decide +kernel
theorem dX3_stack_20 : decode cX3_stack 20 = .ok (.aload_n 2, 1) := by decide +kernel
theorem dX3_stack_21 : decode cX3_stack 21 = .ok (.iconst 0, 1) := by decide +kernel
theorem dX3_stack_22 : decode cX3_stack 22 = .ok (.putfield 156, 3) := by decide +kernel
theorem dX3_stack_25 : decode cX3_stack 25 = .ok (.iinc 1 1, 3) := by decide +kernel
theorem dX3_stack_28 : decode cX3_stack 28 = .ok (.goto (-26), 3) := by decide +kernel
theorem dX3_stack_31 : decode cX3_stack 31 = .ok (.iconst 0, 1) := by decide +kernel
theorem dX3_stack_32 : decode cX3_stack 32 = .ok (.istore_n 1, 1) := by decide +kernel
theorem dX3_stack_33 : decode cX3_stack 33 = .ok (.iconst 0, 1) := by decide +kernel
theorem dX3_stack_34 : decode cX3_stack 34 = .ok (.istore_n 2, 1) := by decide +kernel
theorem dX3_stack_35 : decode cX3_stack 35 = .ok (.iload_n 2, 1) := by decide +kernel
theorem dX3_stack_36 : decode cX3_stack 36 = .ok (.bipush 80, 2) := by decide +kernel
theorem dX3_stack_38 : decode cX3_stack 38 = .ok (.if_icmp .ge 52, 3) := by decide +kernel
theorem dX3_stack_41 : decode cX3_stack 41 = .ok (.aload_n 0, 1) := by decide +kernel
theorem dX3_stack_42 : decode cX3_stack 42 = .ok (.invokevirtual 159, 3) := by decide +kernel
theorem dX3_stack_45 : decode cX3_stack 45 = .ok (.astore_n 3, 1) := by decide +kernel
theorem dX3_stack_46 : decode cX3_stack 46 = .ok (.aload_n 3, 1) := by decide +kernel
theorem dX3_stack_47 : decode cX3_stack 47 = .ok (.ifnonnull 5, 3) := by decide +kernel
theorem dX3_stack_50 : decode cX3_stack 50 = .ok (.iload_n 1, 1) := by decide +kernel
theorem dX3_stack_51 : decode cX3_stack 51 = .ok (.ireturn, 1) := by decide +kernel
theorem dX3_stack_52 : decode cX3_stack 52 = .ok (.aload_n 0, 1) := by decide +kernel
theorem dX3_stack_53 : decode cX3_stack 53 = .ok (.aload_n 3, 1) := by decide +kernel
theorem dX3_stack_54 : decode cX3_stack 54 = .ok (.getfield 163, 3) := by decide +kernel
theorem dX3_stack_57 : decode cX3_stack 57 = .ok (.invokevirtual 145, 3) := by decide +kernel
theorem dX3_stack_60 : decode cX3_stack 60 = .ok (.ifCond .eq 19, 3) := by decide +kernel
theorem dX3_stack_63 : decode cX3_stack 63 = .ok (.aload_n 3, 1) := by decide +kernel
theorem dX3_stack_64 : decode cX3_stack 64 = .ok (.dup, 1) := by decide +kernel
theorem dX3_stack_65 : decode cX3_stack 65 = .ok (.getfield 167, 3) := by decide +kernel
theorem dX3_stack_68 : decode cX3_stack 68 = .ok (.iconst 1, 1) := by decide +kernel
theorem dX3_stack_69 : decode cX3_stack 69 = .ok (.isub, 1) := by decide +kernel
theorem dX3_stack_70 : decode cX3_stack 70 = .ok (.putfield 167, 3) := by decide +kernel
theorem dX3_stack_73 : decode cX3_stack 73 = .ok (.iinc 1 1, 3) := by decide +kernel
theorem dX3_stack_76 : decode cX3_stack 76 = .ok (.goto 8, 3) := by decide +kernel
theorem dX3_stack_79 : decode cX3_stack 79 = .ok (.aload_n 3, 1) := by decide +kernel
theorem dX3_stack_80 : decode cX3_stack 80 = .ok (.iconst 1, 1) := by decide +kernel
theorem dX3_stack_81 : decode cX3_stack 81 = .ok (.putfield 156, 3) := by decide +kernel
theorem dX3_stack_84 : decode cX3_stack 84 = .ok (.iinc 2 1, 3) := by decide +kernel
theorem dX3_stack_87 : decode cX3_stack 87 = .ok (.goto (-52), 3) := by decide +kernel
theorem dX3_stack_90 : decode cX3_stack 90 = .ok (.iload_n 1, 1) := by decide +kernel
theorem dX3_stack_91 : decode cX3_stack 91 = .ok (.ireturn, 1) := by decide +kernel
set_option maxRecDepth 20000 in
theorem ggX3_line_X3_lineOf : GoodIn wsX3_line wsX3_lineOf := goodIn_r _ [10, 11, 12, 13, 14, 9, 15, 27, 28, 29, 30, 31, 32, 33, 34, 35, 36, 37, 38, 39, 40] (by decide +kernel) (by decide +kernel)
set_option maxRecDepth 20000 in
theorem gX3_line_X3_lineOf : GoodIn wsX3_line (wsV RX3 152 RX3 yX3_lineOf wsX3_lineOf) := goodIn_app (goodIn_of _ (by decide +kernel)) ggX3_line_X3_lineOf
theorem dX3_line_0 : decode cX3_line 0 = .ok (.aload_n 0, 1) := by decide +kernel
theorem dX3_line_1 : decode cX3_line 1 = .ok (.iload_n 1, 1) := by decide +kernel
theorem dX3_line_2 : decode cX3_line 2 = .ok (.invokevirtual 152, 3) := by decide +kernel
theorem dX3_line_5 : decode cX3_line 5 = .ok (.astore_n 3, 1) := by decide +kernel
theorem dX3_line_6 : decode cX3_line 6 = .ok (.aload_n 3, 1) := by decide +kernel
theorem dX3_line_7 : decode cX3_line 7 = .ok (.ifnonnull 11, 3) := by decide +kernel
theorem dX3_line_10 : decode cX3_line 10 = .ok (.new 78, 3) := by decide +kernel
theorem dX3_line_13 : decode cX3_line 13 = .ok (.dup, 1) := by decide +kernel
theorem dX3_line_14 : decode cX3_line 14 = .ok (.invokespecial 80, 3) := by decide +kernel
theorem dX3_line_17 : decode cX3_line 17 = .ok (.athrow, 1) := by decide +kernel
theorem dX3_line_18 : decode cX3_line 18 = .ok (.iload_n 2, 1) := by decide +kernel
theorem dX3_line_19 : decode cX3_line 19 = .ok (.ifCond .eq 10, 3) := by decide +kernel
theorem dX3_line_22 : decode cX3_line 22 = .ok (.aload_n 3, 1) := by decide +kernel
theorem dX3_line_23 : decode cX3_line 23 = .ok (.getfield 167, 3) := by decide +kernel
theorem dX3_line_26 : decode cX3_line 26 = .ok (.goto 10, 3) := by decide +kernel
theorem dX3_line_29 : decode cX3_line 29 = .ok (.aload_n 3, 1) := by decide +kernel
theorem dX3_line_30 : decode cX3_line 30 = .ok (.getfield 163, 3) := by decide +kernel
theorem dX3_line_33 : decode cX3_line 33 = .ok (.getfield 170, 3) := by decide +kernel
theorem dX3_line_36 : decode cX3_line 36 = .ok (.ireturn, 1) := by decide +kernel
set_option maxRecDepth 20000 in
theorem ggX3_clear_X3_itemOf : GoodIn wsX3_clear wsX3_itemOf := goodIn_r _ [10, 2, 11, 3, 32, 33, 34, 35, 36, 37, 38, 39, 40, 41, 42, 43, 44, 45, 46, 47, 48, 49, 50, 51, 52, 53, 54, 55, 56, 57, 58, 59, 60, 61, 62, 63] (by decide +kernel) (by decide +kernel)
set_option maxRecDepth 20000 in
theorem gX3_clear_X3_itemOf : GoodIn wsX3_clear (wsV RX3 96 RX3 yX3_itemOf wsX3_itemOf) := goodIn_app (goodIn_of _ (by decide +kernel)) ggX3_clear_X3_itemOf
set_option maxRecDepth 20000 in
theorem ggX3_clear_X3_layAllTops : GoodIn wsX3_clear wsX3_layAllTops := goodIn_r _ [15, 16, 2, 6, 7, 8, 9, 10, 11, 3, 17, 18, 19, 20, 21, 22, 23, 24, 25, 26, 27, 28, 29, 30, 31, 32, 33, 34, 35, 36, 37, 38, 39, 40, 41, 42, 43, 44, 45, 46, 47, 48, 49, 50, 51, 52, 53, 54, 55, 56, 57, 58, 59, 60, 61, 62, 63] (by decide +kernel) (by decide +kernel)
set_option maxRecDepth 20000 in
theorem gX3_clear_X3_layAllTops : GoodIn wsX3_clear (wsV RX3 110 RX3 yX3_layAllTops wsX3_layAllTops) := goodIn_app (goodIn_of _ (by decide +kernel)) ggX3_clear_X3_layAllTops
theorem dX3_clear_0 : decode cX3_clear 0 = .ok (.aload_n 0, 1) := by decide +kernel
theorem dX3_clear_1 : decode cX3_clear 1 = .ok (.getfield 41, 3) := by decide +kernel
theorem dX3_clear_4 : decode cX3_clear 4 = .ok (.istore_n 1, 1) := by decide +kernel
theorem dX3_clear_5 : decode cX3_clear 5 = .ok (.iconst 0, 1) := by decide +kernel
theorem dX3_clear_6 : decode cX3_clear 6 = .ok (.istore_n 2, 1) := by decide +kernel
theorem dX3_clear_7 : decode cX3_clear 7 = .ok (.iload_n 2, 1) := by decide +kernel
theorem dX3_clear_8 : decode cX3_clear 8 = .ok (.aload_n 0, 1) := by decide +kernel
theorem dX3_clear_9 : decode cX3_clear 9 = .ok (.getfield 38, 3) := by decide +kernel
theorem dX3_clear_12 : decode cX3_clear 12 = .ok (.if_icmp .ge 24, 3) := by decide +kernel
theorem dX3_clear_15 : decode cX3_clear 15 = .ok (.aload_n 0, 1) := by decide +kernel
theorem dX3_clear_16 : decode cX3_clear 16 = .ok (.iload_n 2, 1) := by decide +kernel
theorem dX3_clear_17 : decode cX3_clear 17 = .ok (.invokevirtual 96, 3) := by decide +kernel
theorem dX3_clear_20 : decode cX3_clear 20 = .ok (.astore_n 3, 1) := by decide +kernel
theorem dX3_clear_21 : decode cX3_clear 21 = .ok (.aload_n 3, 1) := by decide +kernel
theorem dX3_clear_22 : decode cX3_clear 22 = .ok (.ifnull 8, 3) := by decide +kernel
theorem dX3_clear_25 : decode cX3_clear 25 = .ok (.aload_n 3, 1) := by decide +kernel
theorem dX3_clear_26 : decode cX3_clear 26 = .ok (.iconst 0, 1) := by decide +kernel
theorem dX3_clear_27 : decode cX3_clear 27 = .ok (.putfield 104, 3) := by decide +kernel
theorem dX3_clear_30 : decode cX3_clear 30 = .ok (.iinc 2 1, 3) := by decide +kernel
theorem dX3_clear_33 : decode cX3_clear 33 = .ok (.goto (-26), 3) := by decide +kernel
theorem dX3_clear_36 : decode cX3_clear 36 = .ok (.aload_n 0, 1) := by decide +kernel
theorem dX3_clear_37 : decode cX3_clear 37 = .ok (.iconst 0, 1) := by decide +kernel
theorem dX3_clear_38 : decode cX3_clear 38 = .ok (.putfield 38, 3) := by decide +kernel
theorem dX3_clear_41 : decode cX3_clear 41 = .ok (.aload_n 0, 1) := by decide +kernel
theorem dX3_clear_42 : decode cX3_clear 42 = .ok (.iconst 0, 1) := by decide +kernel
theorem dX3_clear_43 : decode cX3_clear 43 = .ok (.putfield 41, 3) := by decide +kernel
theorem dX3_clear_46 : decode cX3_clear 46 = .ok (.aload_n 0, 1) := by decide +kernel
theorem dX3_clear_47 : decode cX3_clear 47 = .ok (.iconst 0, 1) := by decide +kernel
theorem dX3_clear_48 : decode cX3_clear 48 = .ok (.putfield 44, 3) := by decide +kernel
theorem dX3_clear_51 : decode cX3_clear 51 = .ok (.aload_n 0, 1) := by decide +kernel
theorem dX3_clear_52 : decode cX3_clear 52 = .ok (.iconst 0, 1) := by decide +kernel
theorem dX3_clear_53 : decode cX3_clear 53 = .ok (.putfield 62, 3) := by decide +kernel
theorem dX3_clear_56 : decode cX3_clear 56 = .ok (.aload_n 0, 1) := by decide +kernel
theorem dX3_clear_57 : decode cX3_clear 57 = .ok (.invokevirtual 110, 3) := by decide +kernel
theorem dX3_clear_60 : decode cX3_clear 60 = .ok (.iload_n 1, 1) := by decide +kernel
theorem dX3_clear_61 : decode cX3_clear 61 = .ok (.ireturn, 1) := by decide +kernel
set_option maxRecDepth 20000 in
theorem ggX3_sum_X3_isWithin : GoodIn wsX3_sum wsX3_isWithin := goodIn_r _ [6] (by decide +kernel) (by decide +kernel)
set_option maxRecDepth 20000 in
theorem gX3_sum_X3_isWithin : GoodIn wsX3_sum (va_wsS RX3 65 yX3_isWithin wsX3_isWithin) := goodIn_app (goodIn_of _ (by decide +kernel)) ggX3_sum_X3_isWithin
set_option maxRecDepth 20000 in
theorem ggX3_sum_X3_sumOf : GoodIn wsX3_sum wsX3_sumOf := goodIn_r _ [10, 11, 12, 13, 14, 5, 15, 16, 17, 18, 19, 20, 21, 22, 23, 24, 25, 26, 27, 28, 29, 30, 31, 32, 33, 34, 35, 36, 37, 38, 39, 40, 41, 42, 43, 44, 45, 46, 47, 48, 49, 50, 51, 52, 53, 54, 55, 56, 57, 58, 59, 60, 61, 62, 63, 64, 65, 66, 67, 68, 69, 70, 71, 72] (by decide +kernel) (by decide +kernel)
set_option maxRecDepth 20000 in
theorem gX3_sum_X3_sumOf : GoodIn wsX3_sum (wsV RX3 173 RX3 yX3_sumOf wsX3_sumOf) := goodIn_app (goodIn_of _ (by decide +kernel)) ggX3_sum_X3_sumOf
theorem dX3_sum_0 : decode cX3_sum 0 = .ok (.iload_n 1, 1) := by decide +kernel
theorem dX3_sum_1 : decode cX3_sum 1 = .ok (.iconst 0, 1) := by decide +kernel
theorem dX3_sum_2 : decode cX3_sum 2 = .ok (.iconst 3, 1) := by decide +kernel
theorem dX3_sum_3 : decode cX3_sum 3 = .ok (.invokestatic 65, 3) := by decide +kernel
theorem dX3_sum_6 : decode cX3_sum 6 = .ok (.ifCond .ne 11, 3) := by decide +kernel
theorem dX3_sum_9 : decode cX3_sum 9 = .ok (.new 78, 3) := by decide +kernel
theorem dX3_sum_12 : decode cX3_sum 12 = .ok (.dup, 1) := by decide +kernel
theorem dX3_sum_13 : decode cX3_sum 13 = .ok (.invokespecial 80, 3) := by decide +kernel
theorem dX3_sum_16 : decode cX3_sum 16 = .ok (.athrow, 1) := by decide +kernel
theorem dX3_sum_17 : decode cX3_sum 17 = .ok (.aload_n 0, 1) := by decide +kernel
theorem dX3_sum_18 : decode cX3_sum 18 = .ok (.iload_n 1, 1) := by decide +kernel
theorem dX3_sum_19 : decode cX3_sum 19 = .ok (.invokevirtual 173, 3) := by decide +kernel
theorem dX3_sum_22 : decode cX3_sum 22 = .ok (.ireturn, 1) := by decide +kernel
set_option maxRecDepth 20000 in
theorem ggX3_middle_X3_itemOf : GoodIn wsX3_middle wsX3_itemOf := goodIn_r _ [12, 1, 13, 14, 15, 16, 17, 18, 19, 20, 21, 22, 23, 24, 25, 26, 27, 28, 29, 30, 31, 32, 33, 34, 35, 36, 37, 38, 39, 40, 41, 42, 43, 44, 45, 46] (by decide +kernel) (by decide +kernel)
set_option maxRecDepth 20000 in
theorem gX3_middle_X3_itemOf : GoodIn wsX3_middle (wsV RX3 96 RX3 yX3_itemOf wsX3_itemOf) := goodIn_app (goodIn_of _ (by decide +kernel)) ggX3_middle_X3_itemOf
theorem dX3_middle_0 : decode cX3_middle 0 = .ok (.iconst 0, 1) := by decide +kernel
theorem dX3_middle_1 : decode cX3_middle 1 = .ok (.istore_n 2, 1) := by decide +kernel
theorem dX3_middle_2 : decode cX3_middle 2 = .ok (.iconst 0, 1) := by decide +kernel
theorem dX3_middle_3 : decode cX3_middle 3 = .ok (.istore_n 3, 1) := by decide +kernel
theorem dX3_middle_4 : decode cX3_middle 4 = .ok (.iload_n 3, 1) := by decide +kernel
theorem dX3_middle_5 : decode cX3_middle 5 = .ok (.aload_n 0, 1) := by decide +kernel
theorem dX3_middle_6 : decode cX3_middle 6 = .ok (.getfield 38, 3) := by decide +kernel
theorem dX3_middle_9 : decode cX3_middle 9 = .ok (.if_icmp .ge 63, 3) := by decide +kernel
theorem dX3_middle_12 : decode cX3_middle 12 = .ok (.aload_n 0, 1) := by decide +kernel
theorem dX3_middle_13 : decode cX3_middle 13 = .ok (.iload_n 3, 1) := by decide +kernel
theorem dX3_middle_14 : decode cX3_middle 14 = .ok (.invokevirtual 96, 3) := by decide +kernel
theorem dX3_middle_17 : decode cX3_middle 17 = .ok (.astore 4, 2) := by decide +kernel
theorem dX3_middle_19 : decode cX3_middle 19 = .ok (.aload 4, 2) := by decide +kernel
theorem dX3_middle_21 : decode cX3_middle 21 = .ok (.ifnull 45, 3) := by decide +kernel
theorem dX3_middle_24 : decode cX3_middle 24 = .ok (.iload_n 2, 1) := by decide +kernel
theorem dX3_middle_25 : decode cX3_middle 25 = .ok (.aload 4, 2) := by decide +kernel
theorem dX3_middle_27 : decode cX3_middle 27 = .ok (.getfield 107, 3) := by decide +kernel
theorem dX3_middle_30 : decode cX3_middle 30 = .ok (.iload_n 1, 1) := by decide +kernel
theorem dX3_middle_31 : decode cX3_middle 31 = .ok (.ifCond .eq 19, 3) := by decide +kernel
theorem dX3_middle_34 : decode cX3_middle 34 = .ok (.iconst 2, 1) := by decide +kernel
theorem dX3_middle_35 : decode cX3_middle 35 = .ok (.aload 4, 2) := by decide +kernel
theorem dX3_middle_37 : decode cX3_middle 37 = .ok (.getfield 176, 3) := by decide +kernel
theorem dX3_middle_40 : decode cX3_middle 40 = .ok (.imul, 1) := by decide +kernel
theorem dX3_middle_41 : decode cX3_middle 41 = .ok (.aload 4, 2) := by decide +kernel
theorem dX3_middle_43 : decode cX3_middle 43 = .ok (.getfield 179, 3) := by decide +kernel
theorem dX3_middle_46 : decode cX3_middle 46 = .ok (.iadd, 1) := by decide +kernel
theorem dX3_middle_47 : decode cX3_middle 47 = .ok (.goto 16, 3) := by decide +kernel
theorem dX3_middle_50 : decode cX3_middle 50 = .ok (.iconst 2, 1) := by decide +kernel
theorem dX3_middle_51 : decode cX3_middle 51 = .ok (.aload 4, 2) := by decide +kernel
theorem dX3_middle_53 : decode cX3_middle 53 = .ok (.getfield 182, 3) := by decide +kernel
theorem dX3_middle_56 : decode cX3_middle 56 = .ok (.imul, 1) := by decide +kernel
theorem dX3_middle_57 : decode cX3_middle 57 = .ok (.aload 4, 2) := by decide +kernel
theorem dX3_middle_59 : decode cX3_middle 59 = .ok (.getfield 185, 3) := by decide +kernel
theorem dX3_middle_62 : decode cX3_middle 62 = .ok (.iadd, 1) := by decide +kernel
theorem dX3_middle_63 : decode cX3_middle 63 = .ok (.imul, 1) := by decide +kernel
theorem dX3_middle_64 : decode cX3_middle 64 = .ok (.iadd, 1) := by decide +kernel
theorem dX3_middle_65 : decode cX3_middle 65 = .ok (.istore_n 2, 1) := by decide +kernel
theorem dX3_middle_66 : decode cX3_middle 66 = .ok (.iinc 3 1, 3) := by decide +kernel
theorem dX3_middle_69 : decode cX3_middle 69 = .ok (.goto (-65), 3) := by decide +kernel
theorem dX3_middle_72 : decode cX3_middle 72 = .ok (.aload_n 0, 1) := by decide +kernel
theorem dX3_middle_73 : decode cX3_middle 73 = .ok (.getfield 44, 3) := by decide +kernel
theorem dX3_middle_76 : decode cX3_middle 76 = .ok (.ifCond .gt 7, 3) := by decide +kernel
theorem dX3_middle_79 : decode cX3_middle 79 = .ok (.dconst 0, 1) := by decide +kernel
theorem dX3_middle_80 : decode cX3_middle 80 = .ok (.goto 13, 3) := by decide +kernel
theorem dX3_middle_83 : decode cX3_middle 83 = .ok (.iload_n 2, 1) := by decide +kernel
theorem dX3_middle_84 : decode cX3_middle 84 = .ok (.i2d, 1) := by decide +kernel
theorem dX3_middle_85 : decode cX3_middle 85 = .ok (.iconst 2, 1) := by decide +kernel
theorem dX3_middle_86 : decode cX3_middle 86 = .ok (.aload_n 0, 1) := by decide +kernel
theorem dX3_middle_87 : decode cX3_middle 87 = .ok (.getfield 44, 3) := by decide +kernel
theorem dX3_middle_90 : decode cX3_middle 90 = .ok (.imul, 1) := by decide +kernel
theorem dX3_middle_91 : decode cX3_middle 91 = .ok (.i2d, 1) := by decide +kernel
theorem dX3_middle_92 : decode cX3_middle 92 = .ok (.ddiv, 1) := by decide +kernel
theorem dX3_middle_93 : decode cX3_middle 93 = .ok (.dreturn, 1) := by decide +kernel
set_option maxRecDepth 20000 in
theorem ggX3_filled_X3_itemOf : GoodIn wsX3_filled wsX3_itemOf := goodIn_r _ [8, 1, 9, 10, 22, 23, 24, 25, 26, 27, 28, 29, 30, 31, 32, 33, 34, 35, 36, 37, 38, 39, 40, 41, 42, 43, 44, 45, 46, 47, 48, 49, 50, 51, 52, 53] (by decide +kernel) (by decide +kernel)
set_option maxRecDepth 20000 in
theorem gX3_filled_X3_itemOf : GoodIn wsX3_filled (wsV RX3 96 RX3 yX3_itemOf wsX3_itemOf) := goodIn_app (goodIn_of _ (by decide +kernel)) ggX3_filled_X3_itemOf
set_option maxRecDepth 20000 in
theorem ggX3_filled_X3_greatestTop : GoodIn wsX3_filled wsX3_greatestTop := goodIn_r _ [21, 1, 2, 4, 5, 6, 7, 8, 9, 10, 22, 23, 24, 25, 26, 27, 28, 29, 30, 31, 32, 33, 34, 35, 36, 37, 38, 39, 40, 41, 42, 43, 44, 45, 46, 47, 48, 49, 50, 51, 52, 53] (by decide +kernel) (by decide +kernel)
set_option maxRecDepth 20000 in
theorem gX3_filled_X3_greatestTop : GoodIn wsX3_filled (wsV RX3 192 RX3 yX3_greatestTop wsX3_greatestTop) := goodIn_app (goodIn_of _ (by decide +kernel)) ggX3_filled_X3_greatestTop
theorem dX3_filled_0 : decode cX3_filled 0 = .ok (.iconst 0, 1) := by decide +kernel
theorem dX3_filled_1 : decode cX3_filled 1 = .ok (.istore_n 1, 1) := by decide +kernel
theorem dX3_filled_2 : decode cX3_filled 2 = .ok (.iconst 0, 1) := by decide +kernel
theorem dX3_filled_3 : decode cX3_filled 3 = .ok (.istore_n 2, 1) := by decide +kernel
theorem dX3_filled_4 : decode cX3_filled 4 = .ok (.iload_n 2, 1) := by decide +kernel
theorem dX3_filled_5 : decode cX3_filled 5 = .ok (.aload_n 0, 1) := by decide +kernel
theorem dX3_filled_6 : decode cX3_filled 6 = .ok (.getfield 38, 3) := by decide +kernel
theorem dX3_filled_9 : decode cX3_filled 9 = .ok (.if_icmp .ge 36, 3) := by decide +kernel
theorem dX3_filled_12 : decode cX3_filled 12 = .ok (.aload_n 0, 1) := by decide +kernel
theorem dX3_filled_13 : decode cX3_filled 13 = .ok (.iload_n 2, 1) := by decide +kernel
theorem dX3_filled_14 : decode cX3_filled 14 = .ok (.invokevirtual 96, 3) := by decide +kernel
theorem dX3_filled_17 : decode cX3_filled 17 = .ok (.astore_n 3, 1) := by decide +kernel
theorem dX3_filled_18 : decode cX3_filled 18 = .ok (.aload_n 3, 1) := by decide +kernel
theorem dX3_filled_19 : decode cX3_filled 19 = .ok (.ifnull 20, 3) := by decide +kernel
theorem dX3_filled_22 : decode cX3_filled 22 = .ok (.iload_n 1, 1) := by decide +kernel
theorem dX3_filled_23 : decode cX3_filled 23 = .ok (.aload_n 3, 1) := by decide +kernel
theorem dX3_filled_24 : decode cX3_filled 24 = .ok (.invokevirtual 188, 3) := by decide +kernel
theorem dX3_filled_27 : decode cX3_filled 27 = .ok (.aload_n 3, 1) := by decide +kernel
theorem dX3_filled_28 : decode cX3_filled 28 = .ok (.getfield 134, 3) := by decide +kernel
theorem dX3_filled_31 : decode cX3_filled 31 = .ok (.aload_n 3, 1) := by decide +kernel
theorem dX3_filled_32 : decode cX3_filled 32 = .ok (.getfield 131, 3) := by decide +kernel
theorem dX3_filled_35 : decode cX3_filled 35 = .ok (.isub, 1) := by decide +kernel
theorem dX3_filled_36 : decode cX3_filled 36 = .ok (.imul, 1) := by decide +kernel
theorem dX3_filled_37 : decode cX3_filled 37 = .ok (.iadd, 1) := by decide +kernel
theorem dX3_filled_38 : decode cX3_filled 38 = .ok (.istore_n 1, 1) := by decide +kernel
theorem dX3_filled_39 : decode cX3_filled 39 = .ok (.iinc 2 1, 3) := by decide +kernel
theorem dX3_filled_42 : decode cX3_filled 42 = .ok (.goto (-38), 3) := by decide +kernel
theorem dX3_filled_45 : decode cX3_filled 45 = .ok (.aload_n 0, 1) := by decide +kernel
theorem dX3_filled_46 : decode cX3_filled 46 = .ok (.invokevirtual 192, 3) := by decide +kernel
theorem dX3_filled_49 : decode cX3_filled 49 = .ok (.istore_n 2, 1) := by decide +kernel
theorem dX3_filled_50 : decode cX3_filled 50 = .ok (.iload_n 2, 1) := by decide +kernel
theorem dX3_filled_51 : decode cX3_filled 51 = .ok (.ifCond .gt 7, 3) := by decide +kernel
theorem dX3_filled_54 : decode cX3_filled 54 = .ok (.dconst 0, 1) := by decide +kernel
theorem dX3_filled_55 : decode cX3_filled 55 = .ok (.goto 11, 3) := by decide +kernel
theorem dX3_filled_58 : decode cX3_filled 58 = .ok (.iload_n 1, 1) := by decide +kernel
theorem dX3_filled_59 : decode cX3_filled 59 = .ok (.i2d, 1) := by decide +kernel
theorem dX3_filled_60 : decode cX3_filled 60 = .ok (.bipush 120, 2) := by decide +kernel
theorem dX3_filled_62 : decode cX3_filled 62 = .ok (.iload_n 2, 1) := by decide +kernel
theorem dX3_filled_63 : decode cX3_filled 63 = .ok (.imul, 1) := by decide +kernel
theorem dX3_filled_64 : decode cX3_filled 64 = .ok (.i2d, 1) := by decide +kernel
theorem dX3_filled_65 : decode cX3_filled 65 = .ok (.ddiv, 1) := by decide +kernel
theorem dX3_filled_66 : decode cX3_filled 66 = .ok (.dreturn, 1) := by decide +kernel
set_option maxRecDepth 20000 in
theorem ggX3_digest_X3_countOf : GoodIn wsX3_digest wsX3_countOf := goodIn_r _ [12, 13, 14, 3, 4, 93, 94, 95, 96, 97, 98, 99, 100, 101, 102, 103, 104, 105, 106] (by decide +kernel) (by decide +kernel)
set_option maxRecDepth 20000 in
theorem gX3_digest_X3_countOf : GoodIn wsX3_digest (wsV RX3 81 RX3 yX3_countOf wsX3_countOf) := goodIn_app (goodIn_of _ (by decide +kernel)) ggX3_digest_X3_countOf
set_option maxRecDepth 20000 in
theorem ggX3_digest_X3_itemOf : GoodIn wsX3_digest wsX3_itemOf := goodIn_r _ [18, 3, 19, 20, 93, 94, 95, 96, 97, 98, 99, 100, 101, 102, 103, 104, 105, 106, 118, 119, 120, 121, 122, 123, 124, 125, 126, 127, 128, 129, 130, 131, 132, 133, 134, 135] (by decide +kernel) (by decide +kernel)
set_option maxRecDepth 20000 in
theorem gX3_digest_X3_itemOf : GoodIn wsX3_digest (wsV RX3 96 RX3 yX3_itemOf wsX3_itemOf) := goodIn_app (goodIn_of _ (by decide +kernel)) ggX3_digest_X3_itemOf
set_option maxRecDepth 20000 in
theorem ggX3_digest_X3_lineOf : GoodIn wsX3_digest wsX3_lineOf := goodIn_r _ [67, 4, 68, 69, 70, 11, 71, 93, 94, 95, 96, 97, 98, 99, 100, 101, 102, 103, 104, 105, 106] (by decide +kernel) (by decide +kernel)
set_option maxRecDepth 20000 in
theorem gX3_digest_X3_lineOf : GoodIn wsX3_digest (wsV RX3 152 RX3 yX3_lineOf wsX3_lineOf) := goodIn_app (goodIn_of _ (by decide +kernel)) ggX3_digest_X3_lineOf
set_option maxRecDepth 20000 in
theorem ggX3_digest_X3_sumOf : GoodIn wsX3_digest wsX3_sumOf := goodIn_r _ [75, 76, 77, 78, 79, 11, 80, 3, 33, 15, 16, 17, 18, 19, 20, 81, 82, 83, 84, 35, 85, 86, 87, 88, 32, 89, 90, 91, 45, 92, 54, 63, 93, 94, 95, 96, 97, 98, 99, 100, 101, 102, 103, 104, 105, 106, 118, 119, 120, 121, 122, 123, 124, 125, 126, 127, 128, 129, 130, 131, 132, 133, 134, 135] (by decide +kernel) (by decide +kernel)
set_option maxRecDepth 20000 in
theorem gX3_digest_X3_sumOf : GoodIn wsX3_digest (wsV RX3 173 RX3 yX3_sumOf wsX3_sumOf) := goodIn_app (goodIn_of _ (by decide +kernel)) ggX3_digest_X3_sumOf
theorem dX3_digest_0 : decode cX3_digest 0 = .ok (.ldc2_w 195, 3) := by decide +kernel
theorem dX3_digest_3 : decode cX3_digest 3 = .ok (.lstore_n 1, 1) := by decide +kernel
theorem dX3_digest_4 : decode cX3_digest 4 = .ok (.iconst 0, 1) := by decide +kernel
theorem dX3_digest_5 : decode cX3_digest 5 = .ok (.istore_n 3, 1) := by decide +kernel
theorem dX3_digest_6 : decode cX3_digest 6 = .ok (.iload_n 3, 1) := by decide +kernel
theorem dX3_digest_7 : decode cX3_digest 7 = .ok (.iconst 4, 1) := by decide +kernel
theorem dX3_digest_8 : decode cX3_digest 8 = .ok (.if_icmp .ge 22, 3) := by decide +kernel
theorem dX3_digest_11 : decode cX3_digest 11 = .ok (.lload_n 1, 1) := by decide +kernel
theorem dX3_digest_12 : decode cX3_digest 12 = .ok (.ldc2_w 197, 3) := by decide +kernel
theorem dX3_digest_15 : decode cX3_digest 15 = .ok (.lmul, 1) := by decide +kernel
theorem dX3_digest_16 : decode cX3_digest 16 = .ok (.aload_n 0, 1) := by decide +kernel
theorem dX3_digest_17 : decode cX3_digest 17 = .ok (.iload_n 3, 1) := by decide +kernel
theorem dX3_digest_18 : decode cX3_digest 18 = .ok (.invokevirtual 81, 3) := by decide +kernel
theorem dX3_digest_21 : decode cX3_digest 21 = .ok (.i2l, 1) := by decide +kernel
theorem dX3_digest_22 : decode cX3_digest 22 = .ok (.ladd, 1) := by decide +kernel
theorem dX3_digest_23 : decode cX3_digest 23 = .ok (.lstore_n 1, 1) := by decide +kernel
theorem dX3_digest_24 : decode cX3_digest 24 = .ok (.iinc 3 1, 3) := by decide +kernel
theorem dX3_digest_27 : decode cX3_digest 27 = .ok (.goto (-21), 3) := by decide +kernel
theorem dX3_digest_30 : decode cX3_digest 30 = .ok (.iconst 0, 1) := by decide +kernel
theorem dX3_digest_31 : decode cX3_digest 31 = .ok (.istore_n 3, 1) := by decide +kernel
theorem dX3_digest_32 : decode cX3_digest 32 = .ok (.iload_n 3, 1) := by decide +kernel
theorem dX3_digest_33 : decode cX3_digest 33 = .ok (.aload_n 0, 1) := by decide +kernel
theorem dX3_digest_34 : decode cX3_digest 34 = .ok (.getfield 38, 3) := by decide +kernel
theorem dX3_digest_37 : decode cX3_digest 37 = .ok (.if_icmp .ge 36, 3) := by decide +kernel
theorem dX3_digest_40 : decode cX3_digest 40 = .ok (.aload_n 0, 1) := by decide +kernel
theorem dX3_digest_41 : decode cX3_digest 41 = .ok (.iload_n 3, 1) := by decide +kernel
theorem dX3_digest_42 : decode cX3_digest 42 = .ok (.invokevirtual 96, 3) := by decide +kernel
theorem dX3_digest_45 : decode cX3_digest 45 = .ok (.astore 4, 2) := by decide +kernel
theorem dX3_digest_47 : decode cX3_digest 47 = .ok (.aload 4, 2) := by decide +kernel
theorem dX3_digest_49 : decode cX3_digest 49 = .ok (.ifnull 18, 3) := by decide +kernel
theorem dX3_digest_52 : decode cX3_digest 52 = .ok (.aload_n 0, 1) := by decide +kernel
theorem dX3_digest_53 : decode cX3_digest 53 = .ok (.lload_n 1, 1) := by decide +kernel
theorem dX3_digest_54 : decode cX3_digest 54 = .ok (.ldc2_w 197, 3) := by decide +kernel
theorem dX3_digest_57 : decode cX3_digest 57 = .ok (.lmul, 1) := by decide +kernel
theorem dX3_digest_58 : decode cX3_digest 58 = .ok (.iload_n 3, 1) := by decide +kernel
theorem dX3_digest_59 : decode cX3_digest 59 = .ok (.i2l, 1) := by decide +kernel
theorem dX3_digest_60 : decode cX3_digest 60 = .ok (.ladd, 1) := by decide +kernel
theorem dX3_digest_61 : decode cX3_digest 61 = .ok (.aload 4, 2) := by decide +kernel
theorem dX3_digest_63 : decode cX3_digest 63 = .ok (.invokevirtual 199, 3) := by decide +kernel
theorem dX3_digest_66 : decode cX3_digest 66 = .ok (.lstore_n 1, 1) := by decide +kernel
theorem dX3_digest_67 : decode cX3_digest 67 = .ok (.iinc 3 1, 3) := by decide +kernel
theorem dX3_digest_70 : decode cX3_digest 70 = .ok (.goto (-38), 3) := by decide +kernel
theorem dX3_digest_73 : decode cX3_digest 73 = .ok (.iconst 0, 1) := by decide +kernel
theorem dX3_digest_74 : decode cX3_digest 74 = .ok (.istore_n 3, 1) := by decide +kernel
theorem dX3_digest_75 : decode cX3_digest 75 = .ok (.iload_n 3, 1) := by decide +kernel
theorem dX3_digest_76 : decode cX3_digest 76 = .ok (.aload_n 0, 1) := by decide +kernel
theorem dX3_digest_77 : decode cX3_digest 77 = .ok (.getfield 62, 3) := by decide +kernel
theorem dX3_digest_80 : decode cX3_digest 80 = .ok (.if_icmp .ge 48, 3) := by decide +kernel
theorem dX3_digest_83 : decode cX3_digest 83 = .ok (.aload_n 0, 1) := by decide +kernel
theorem dX3_digest_84 : decode cX3_digest 84 = .ok (.iload_n 3, 1) := by decide +kernel
theorem dX3_digest_85 : decode cX3_digest 85 = .ok (.invokevirtual 152, 3) := by decide +kernel
theorem dX3_digest_88 : decode cX3_digest 88 = .ok (.astore 4, 2) := by decide +kernel
theorem dX3_digest_90 : decode cX3_digest 90 = .ok (.aload 4, 2) := by decide +kernel
theorem dX3_digest_92 : decode cX3_digest 92 = .ok (.ifnull 30, 3) := by decide +kernel
theorem dX3_digest_95 : decode cX3_digest 95 = .ok (.lload_n 1, 1) := by decide +kernel
theorem dX3_digest_96 : decode cX3_digest 96 = .ok (.ldc2_w 197, 3) := by decide +kernel
theorem dX3_digest_99 : decode cX3_digest 99 = .ok (.lmul, 1) := by decide +kernel
theorem dX3_digest_100 : decode cX3_digest 100 = .ok (.aload 4, 2) := by decide +kernel
theorem dX3_digest_102 : decode cX3_digest 102 = .ok (.getfield 163, 3) := by decide +kernel
theorem dX3_digest_105 : decode cX3_digest 105 = .ok (.getfield 170, 3) := by decide +kernel
theorem dX3_digest_108 : decode cX3_digest 108 = .ok (.i2l, 1) := by decide +kernel
theorem dX3_digest_109 : decode cX3_digest 109 = .ok (.ladd, 1) := by decide +kernel
theorem dX3_digest_110 : decode cX3_digest 110 = .ok (.ldc2_w 197, 3) := by decide +kernel
theorem dX3_digest_113 : decode cX3_digest 113 = .ok (.lmul, 1) := by decide +kernel
theorem dX3_digest_114 : decode cX3_digest 114 = .ok (.aload 4, 2) := by decide +kernel
theorem dX3_digest_116 : decode cX3_digest 116 = .ok (.getfield 167, 3) := by decide +kernel
theorem dX3_digest_119 : decode cX3_digest 119 = .ok (.i2l, 1) := by decide +kernel
theorem dX3_digest_120 : decode cX3_digest 120 = .ok (.ladd, 1) := by decide +kernel
theorem dX3_digest_121 : decode cX3_digest 121 = .ok (.lstore_n 1, 1) := by decide +kernel
theorem dX3_digest_122 : decode cX3_digest 122 = .ok (.iinc 3 1, 3) := by decide +kernel
theorem dX3_digest_125 : decode cX3_digest 125 = .ok (.goto (-50), 3) := by decide +kernel
theorem dX3_digest_128 : decode cX3_digest 128 = .ok (.iconst 0, 1) := by decide +kernel
theorem dX3_digest_129 : decode cX3_digest 129 = .ok (.istore_n 3, 1) := by decide +kernel
theorem dX3_digest_130 : decode cX3_digest 130 = .ok (.iload_n 3, 1) := by decide +kernel
theorem dX3_digest_131 : decode cX3_digest 131 = .ok (.iconst 4, 1) := by decide +kernel
theorem dX3_digest_132 : decode cX3_digest 132 = .ok (.if_icmp .ge 22, 3) := by decide +kernel
theorem dX3_digest_135 : decode cX3_digest 135 = .ok (.lload_n 1, 1) := by decide +kernel
theorem dX3_digest_136 : decode cX3_digest 136 = .ok (.ldc2_w 197, 3) := by decide +kernel
theorem dX3_digest_139 : decode cX3_digest 139 = .ok (.lmul, 1) := by decide +kernel
theorem dX3_digest_140 : decode cX3_digest 140 = .ok (.aload_n 0, 1) := by decide +kernel
theorem dX3_digest_141 : decode cX3_digest 141 = .ok (.iload_n 3, 1) := by decide +kernel
theorem dX3_digest_142 : decode cX3_digest 142 = .ok (.invokevirtual 173, 3) := by decide +kernel
theorem dX3_digest_145 : decode cX3_digest 145 = .ok (.i2l, 1) := by decide +kernel
theorem dX3_digest_146 : decode cX3_digest 146 = .ok (.ladd, 1) := by decide +kernel
theorem dX3_digest_147 : decode cX3_digest 147 = .ok (.lstore_n 1, 1) := by decide +kernel
theorem dX3_digest_148 : decode cX3_digest 148 = .ok (.iinc 3 1, 3) := by decide +kernel
theorem dX3_digest_151 : decode cX3_digest 151 = .ok (.goto (-21), 3) := by decide +kernel
theorem dX3_digest_154 : decode cX3_digest 154 = .ok (.lload_n 1, 1) := by decide +kernel
theorem dX3_digest_155 : decode cX3_digest 155 = .ok (.lreturn, 1) := by decide +kernel
theorem dX3_isWithin_0 : decode cX3_isWithin 0 = .ok (.iload_n 0, 1) := by decide +kernel
theorem dX3_isWithin_1 : decode cX3_isWithin 1 = .ok (.iload_n 1, 1) := by decide +kernel
theorem dX3_isWithin_2 : decode cX3_isWithin 2 = .ok (.if_icmp .lt 12, 3) := by decide +kernel
theorem dX3_isWithin_5 : decode cX3_isWithin 5 = .ok (.iload_n 0, 1) := by decide +kernel
theorem dX3_isWithin_6 : decode cX3_isWithin 6 = .ok (.iload_n 2, 1) := by decide +kernel
theorem dX3_isWithin_7 : decode cX3_isWithin 7 = .ok (.if_icmp .gt 7, 3) := by decide +kernel
theorem dX3_isWithin_10 : decode cX3_isWithin 10 = .ok (.iconst 1, 1) := by decide +kernel
theorem dX3_isWithin_11 : decode cX3_isWithin 11 = .ok (.goto 4, 3) := by decide +kernel
theorem dX3_isWithin_14 : decode cX3_isWithin 14 = .ok (.iconst 0, 1) := by decide +kernel
theorem dX3_isWithin_15 : decode cX3_isWithin 15 = .ok (.ireturn, 1) := by decide +kernel
set_option maxRecDepth 20000 in
theorem ggX3_isCell_X3_isWithin : GoodIn wsX3_isCell wsX3_isWithin := goodIn_r _ [4] (by decide +kernel) (by decide +kernel)
set_option maxRecDepth 20000 in
theorem gX3_isCell_X3_isWithin : GoodIn wsX3_isCell (va_wsS RX3 65 yX3_isWithin wsX3_isWithin) := goodIn_app (goodIn_of _ (by decide +kernel)) ggX3_isCell_X3_isWithin
theorem dX3_isCell_0 : decode cX3_isCell 0 = .ok (.iload_n 0, 1) := by decide +kernel
theorem dX3_isCell_1 : decode cX3_isCell 1 = .ok (.iconst 0, 1) := by decide +kernel
theorem dX3_isCell_2 : decode cX3_isCell 2 = .ok (.bipush 11, 2) := by decide +kernel
theorem dX3_isCell_4 : decode cX3_isCell 4 = .ok (.invokestatic 65, 3) := by decide +kernel
theorem dX3_isCell_7 : decode cX3_isCell 7 = .ok (.ifCond .eq 17, 3) := by decide +kernel
theorem dX3_isCell_10 : decode cX3_isCell 10 = .ok (.iload_n 1, 1) := by decide +kernel
theorem dX3_isCell_11 : decode cX3_isCell 11 = .ok (.iconst 0, 1) := by decide +kernel
theorem dX3_isCell_12 : decode cX3_isCell 12 = .ok (.bipush 9, 2) := by decide +kernel
theorem dX3_isCell_14 : decode cX3_isCell 14 = .ok (.invokestatic 65, 3) := by decide +kernel
theorem dX3_isCell_17 : decode cX3_isCell 17 = .ok (.ifCond .eq 7, 3) := by decide +kernel
theorem dX3_isCell_20 : decode cX3_isCell 20 = .ok (.iconst 1, 1) := by decide +kernel
theorem dX3_isCell_21 : decode cX3_isCell 21 = .ok (.goto 4, 3) := by decide +kernel
theorem dX3_isCell_24 : decode cX3_isCell 24 = .ok (.iconst 0, 1) := by decide +kernel
theorem dX3_isCell_25 : decode cX3_isCell 25 = .ok (.ireturn, 1) := by decide +kernel
set_option maxRecDepth 20000 in
theorem ggX3_kindOf_X3_isWithin : GoodIn wsX3_kindOf wsX3_isWithin := goodIn_r _ [6] (by decide +kernel) (by decide +kernel)
set_option maxRecDepth 20000 in
theorem gX3_kindOf_X3_isWithin : GoodIn wsX3_kindOf (va_wsS RX3 65 yX3_isWithin wsX3_isWithin) := goodIn_app (goodIn_of _ (by decide +kernel)) ggX3_kindOf_X3_isWithin
theorem dX3_kindOf_0 : decode cX3_kindOf 0 = .ok (.iload_n 1, 1) := by decide +kernel
theorem dX3_kindOf_1 : decode cX3_kindOf 1 = .ok (.iconst 0, 1) := by decide +kernel
theorem dX3_kindOf_2 : decode cX3_kindOf 2 = .ok (.bipush 9, 2) := by decide +kernel
theorem dX3_kindOf_4 : decode cX3_kindOf 4 = .ok (.invokestatic 65, 3) := by decide +kernel
theorem dX3_kindOf_7 : decode cX3_kindOf 7 = .ok (.ifCond .eq 20, 3) := by decide +kernel
theorem dX3_kindOf_10 : decode cX3_kindOf 10 = .ok (.iload_n 1, 1) := by decide +kernel
theorem dX3_kindOf_11 : decode cX3_kindOf 11 = .ok (.aload_n 0, 1) := by decide +kernel
theorem dX3_kindOf_12 : decode cX3_kindOf 12 = .ok (.getfield 15, 3) := by decide +kernel
theorem dX3_kindOf_15 : decode cX3_kindOf 15 = .ok (.if_icmp .ge 12, 3) := by decide +kernel
theorem dX3_kindOf_18 : decode cX3_kindOf 18 = .ok (.aload_n 0, 1) := by decide +kernel
theorem dX3_kindOf_19 : decode cX3_kindOf 19 = .ok (.getfield 11, 3) := by decide +kernel
theorem dX3_kindOf_22 : decode cX3_kindOf 22 = .ok (.iload_n 1, 1) := by decide +kernel
theorem dX3_kindOf_23 : decode cX3_kindOf 23 = .ok (.aaload, 1) := by decide +kernel
theorem dX3_kindOf_24 : decode cX3_kindOf 24 = .ok (.goto 4, 3) := by decide +kernel
theorem dX3_kindOf_27 : decode cX3_kindOf 27 = .ok (.aconst_null, 1) := by decide +kernel
theorem dX3_kindOf_28 : decode cX3_kindOf 28 = .ok (.areturn, 1) := by decide +kernel
theorem dX3_itemOf_0 : decode cX3_itemOf 0 = .ok (.iload_n 1, 1) := by decide +kernel
theorem dX3_itemOf_1 : decode cX3_itemOf 1 = .ok (.ifCond .lt 17, 3) := by decide +kernel
theorem dX3_itemOf_4 : decode cX3_itemOf 4 = .ok (.iload_n 1, 1) := by decide +kernel
theorem dX3_itemOf_5 : decode cX3_itemOf 5 = .ok (.bipush 60, 2) := by decide +kernel
theorem dX3_itemOf_7 : decode cX3_itemOf 7 = .ok (.if_icmp .ge 11, 3) := by decide +kernel
theorem dX3_itemOf_10 : decode cX3_itemOf 10 = .ok (.iload_n 1, 1) := by decide +kernel
theorem dX3_itemOf_11 : decode cX3_itemOf 11 = .ok (.aload_n 0, 1) := by decide +kernel
theorem dX3_itemOf_12 : decode cX3_itemOf 12 = .ok (.getfield 38, 3) := by decide +kernel
theorem dX3_itemOf_15 : decode cX3_itemOf 15 = .ok (.if_icmp .lt 5, 3) := by decide +kernel
theorem dX3_itemOf_18 : decode cX3_itemOf 18 = .ok (.aconst_null, 1) := by decide +kernel
theorem dX3_itemOf_19 : decode cX3_itemOf 19 = .ok (.areturn, 1) := by decide +kernel
theorem dX3_itemOf_20 : decode cX3_itemOf 20 = .ok (.aload_n 0, 1) := by decide +kernel
theorem dX3_itemOf_21 : decode cX3_itemOf 21 = .ok (.getfield 34, 3) := by decide +kernel
theorem dX3_itemOf_24 : decode cX3_itemOf 24 = .ok (.iload_n 1, 1) := by decide +kernel
theorem dX3_itemOf_25 : decode cX3_itemOf 25 = .ok (.aaload, 1) := by decide +kernel
theorem dX3_itemOf_26 : decode cX3_itemOf 26 = .ok (.astore_n 2, 1) := by decide +kernel
theorem dX3_itemOf_27 : decode cX3_itemOf 27 = .ok (.aload_n 2, 1) := by decide +kernel
theorem dX3_itemOf_28 : decode cX3_itemOf 28 = .ok (.ifnull 14, 3) := by decide +kernel
theorem dX3_itemOf_31 : decode cX3_itemOf 31 = .ok (.aload_n 2, 1) := by decide +kernel
theorem dX3_itemOf_32 : decode cX3_itemOf 32 = .ok (.getfield 104, 3) := by decide +kernel
theorem dX3_itemOf_35 : decode cX3_itemOf 35 = .ok (.ifCond .eq 7, 3) := by decide +kernel
theorem dX3_itemOf_38 : decode cX3_itemOf 38 = .ok (.aload_n 2, 1) := by decide +kernel
theorem dX3_itemOf_39 : decode cX3_itemOf 39 = .ok (.goto 4, 3) := by decide +kernel
theorem dX3_itemOf_42 : decode cX3_itemOf 42 = .ok (.aconst_null, 1) := by decide +kernel
theorem dX3_itemOf_43 : decode cX3_itemOf 43 = .ok (.areturn, 1) := by decide +kernel
set_option maxRecDepth 20000 in
theorem ggX3_lineOf_X3_isWithin : GoodIn wsX3_lineOf wsX3_isWithin := goodIn_r _ [6] (by decide +kernel) (by decide +kernel)
set_option maxRecDepth 20000 in
theorem gX3_lineOf_X3_isWithin : GoodIn wsX3_lineOf (va_wsS RX3 65 yX3_isWithin wsX3_isWithin) := goodIn_app (goodIn_of _ (by decide +kernel)) ggX3_lineOf_X3_isWithin
theorem dX3_lineOf_0 : decode cX3_lineOf 0 = .ok (.iload_n 1, 1) := by decide +kernel
theorem dX3_lineOf_1 : decode cX3_lineOf 1 = .ok (.iconst 0, 1) := by decide +kernel
theorem dX3_lineOf_2 : decode cX3_lineOf 2 = .ok (.bipush 19, 2) := by decide +kernel
theorem dX3_lineOf_4 : decode cX3_lineOf 4 = .ok (.invokestatic 65, 3) := by decide +kernel
theorem dX3_lineOf_7 : decode cX3_lineOf 7 = .ok (.ifCond .eq 20, 3) := by decide +kernel
theorem dX3_lineOf_10 : decode cX3_lineOf 10 = .ok (.iload_n 1, 1) := by decide +kernel
theorem dX3_lineOf_11 : decode cX3_lineOf 11 = .ok (.aload_n 0, 1) := by decide +kernel
theorem dX3_lineOf_12 : decode cX3_lineOf 12 = .ok (.getfield 62, 3) := by decide +kernel
theorem dX3_lineOf_15 : decode cX3_lineOf 15 = .ok (.if_icmp .ge 12, 3) := by decide +kernel
theorem dX3_lineOf_18 : decode cX3_lineOf 18 = .ok (.aload_n 0, 1) := by decide +kernel
theorem dX3_lineOf_19 : decode cX3_lineOf 19 = .ok (.getfield 58, 3) := by decide +kernel
theorem dX3_lineOf_22 : decode cX3_lineOf 22 = .ok (.iload_n 1, 1) := by decide +kernel
theorem dX3_lineOf_23 : decode cX3_lineOf 23 = .ok (.aaload, 1) := by decide +kernel
theorem dX3_lineOf_24 : decode cX3_lineOf 24 = .ok (.goto 4, 3) := by decide +kernel
theorem dX3_lineOf_27 : decode cX3_lineOf 27 = .ok (.aconst_null, 1) := by decide +kernel
theorem dX3_lineOf_28 : decode cX3_lineOf 28 = .ok (.areturn, 1) := by decide +kernel
theorem dX3_topOf_0 : decode cX3_topOf 0 = .ok (.iload_n 2, 1) := by decide +kernel
theorem dX3_topOf_1 : decode cX3_topOf 1 = .ok (.bipush 12, 2) := by decide +kernel
theorem dX3_topOf_3 : decode cX3_topOf 3 = .ok (.imul, 1) := by decide +kernel
theorem dX3_topOf_4 : decode cX3_topOf 4 = .ok (.iload_n 1, 1) := by decide +kernel
theorem dX3_topOf_5 : decode cX3_topOf 5 = .ok (.iadd, 1) := by decide +kernel
theorem dX3_topOf_6 : decode cX3_topOf 6 = .ok (.istore_n 3, 1) := by decide +kernel
theorem dX3_topOf_7 : decode cX3_topOf 7 = .ok (.iload_n 3, 1) := by decide +kernel
theorem dX3_topOf_8 : decode cX3_topOf 8 = .ok (.ifCond .lt 18, 3) := by decide +kernel
theorem dX3_topOf_11 : decode cX3_topOf 11 = .ok (.iload_n 3, 1) := by decide +kernel
theorem dX3_topOf_12 : decode cX3_topOf 12 = .ok (.bipush 120, 2) := by decide +kernel
theorem dX3_topOf_14 : decode cX3_topOf 14 = .ok (.if_icmp .ge 12, 3) := by decide +kernel
theorem dX3_topOf_17 : decode cX3_topOf 17 = .ok (.aload_n 0, 1) := by decide +kernel
theorem dX3_topOf_18 : decode cX3_topOf 18 = .ok (.getfield 47, 3) := by decide +kernel
theorem dX3_topOf_21 : decode cX3_topOf 21 = .ok (.iload_n 3, 1) := by decide +kernel
theorem dX3_topOf_22 : decode cX3_topOf 22 = .ok (.iaload, 1) := by decide +kernel
theorem dX3_topOf_23 : decode cX3_topOf 23 = .ok (.goto 4, 3) := by decide +kernel
theorem dX3_topOf_26 : decode cX3_topOf 26 = .ok (.iconst 0, 1) := by decide +kernel
theorem dX3_topOf_27 : decode cX3_topOf 27 = .ok (.ireturn, 1) := by decide +kernel
theorem dX3_countOf_0 : decode cX3_countOf 0 = .ok (.iload_n 1, 1) := by decide +kernel
theorem dX3_countOf_1 : decode cX3_countOf 1 = .ok (.tableswitch 42 0 2 #[27, 32, 37], 27) := by decide +kernel
theorem dX3_countOf_28 : decode cX3_countOf 28 = .ok (.aload_n 0, 1) := by decide +kernel
theorem dX3_countOf_29 : decode cX3_countOf 29 = .ok (.getfield 15, 3) := by decide +kernel
theorem dX3_countOf_32 : decode cX3_countOf 32 = .ok (.ireturn, 1) := by decide +kernel
theorem dX3_countOf_33 : decode cX3_countOf 33 = .ok (.aload_n 0, 1) := by decide +kernel
theorem dX3_countOf_34 : decode cX3_countOf 34 = .ok (.getfield 41, 3) := by decide +kernel
theorem dX3_countOf_37 : decode cX3_countOf 37 = .ok (.ireturn, 1) := by decide +kernel
theorem dX3_countOf_38 : decode cX3_countOf 38 = .ok (.aload_n 0, 1) := by decide +kernel
theorem dX3_countOf_39 : decode cX3_countOf 39 = .ok (.getfield 38, 3) := by decide +kernel
theorem dX3_countOf_42 : decode cX3_countOf 42 = .ok (.ireturn, 1) := by decide +kernel
theorem dX3_countOf_43 : decode cX3_countOf 43 = .ok (.aload_n 0, 1) := by decide +kernel
theorem dX3_countOf_44 : decode cX3_countOf 44 = .ok (.getfield 62, 3) := by decide +kernel
theorem dX3_countOf_47 : decode cX3_countOf 47 = .ok (.ireturn, 1) := by decide +kernel
set_option maxRecDepth 20000 in
theorem ggX3_sumOf_X3_greatestTop : GoodIn wsX3_sumOf wsX3_greatestTop := goodIn_r _ [6, 7, 8, 9, 10, 11, 5, 12, 13, 14, 32, 33, 34, 35, 36, 37, 38, 39, 40, 41, 42, 43, 44, 45, 46, 47, 48, 49, 50, 51, 52, 53, 54, 55, 56, 57, 58, 59, 60, 61, 62, 63] (by decide +kernel) (by decide +kernel)
set_option maxRecDepth 20000 in
theorem gX3_sumOf_X3_greatestTop : GoodIn wsX3_sumOf (wsV RX3 192 RX3 yX3_greatestTop wsX3_greatestTop) := goodIn_app (goodIn_of _ (by decide +kernel)) ggX3_sumOf_X3_greatestTop
set_option maxRecDepth 20000 in
theorem ggX3_sumOf_X3_greatestLoad : GoodIn wsX3_sumOf wsX3_greatestLoad := goodIn_r _ [18, 7, 19, 9, 10, 11, 5, 12, 13, 14, 32, 33, 34, 35, 36, 37, 38, 39, 40, 41, 42, 43, 44, 45, 46, 47, 48, 49, 50, 51, 52, 53, 54, 55, 56, 57, 58, 59, 60, 61, 62, 63] (by decide +kernel) (by decide +kernel)
set_option maxRecDepth 20000 in
theorem gX3_sumOf_X3_greatestLoad : GoodIn wsX3_sumOf (wsV RX3 217 RX3 yX3_greatestLoad wsX3_greatestLoad) := goodIn_app (goodIn_of _ (by decide +kernel)) ggX3_sumOf_X3_greatestLoad
set_option maxRecDepth 20000 in
theorem ggX3_sumOf_X3_coveredDeck : GoodIn wsX3_sumOf wsX3_coveredDeck := goodIn_r _ [23, 7, 24, 9, 10, 11, 5, 12, 13, 14, 25, 26, 27, 28, 29, 30, 31, 32, 33, 34, 35, 36, 37, 38, 39, 40, 41, 42, 43, 44, 45, 46, 47, 48, 49, 50, 51, 52, 53, 54, 55, 56, 57, 58, 59, 60, 61, 62, 63] (by decide +kernel) (by decide +kernel)
set_option maxRecDepth 20000 in
theorem gX3_sumOf_X3_coveredDeck : GoodIn wsX3_sumOf (wsV RX3 220 RX3 yX3_coveredDeck wsX3_coveredDeck) := goodIn_app (goodIn_of _ (by decide +kernel)) ggX3_sumOf_X3_coveredDeck
theorem dX3_sumOf_0 : decode cX3_sumOf 0 = .ok (.iload_n 1, 1) := by decide +kernel
theorem dX3_sumOf_1 : decode cX3_sumOf 1 = .ok (.tableswitch 42 0 2 #[27, 32, 37], 27) := by decide +kernel
theorem dX3_sumOf_28 : decode cX3_sumOf 28 = .ok (.aload_n 0, 1) := by decide +kernel
theorem dX3_sumOf_29 : decode cX3_sumOf 29 = .ok (.getfield 44, 3) := by decide +kernel
theorem dX3_sumOf_32 : decode cX3_sumOf 32 = .ok (.ireturn, 1) := by decide +kernel
theorem dX3_sumOf_33 : decode cX3_sumOf 33 = .ok (.aload_n 0, 1) := by decide +kernel
theorem dX3_sumOf_34 : decode cX3_sumOf 34 = .ok (.invokevirtual 192, 3) := by decide +kernel
theorem dX3_sumOf_37 : decode cX3_sumOf 37 = .ok (.ireturn, 1) := by decide +kernel
theorem dX3_sumOf_38 : decode cX3_sumOf 38 = .ok (.aload_n 0, 1) := by decide +kernel
theorem dX3_sumOf_39 : decode cX3_sumOf 39 = .ok (.invokevirtual 217, 3) := by decide +kernel
theorem dX3_sumOf_42 : decode cX3_sumOf 42 = .ok (.ireturn, 1) := by decide +kernel
theorem dX3_sumOf_43 : decode cX3_sumOf 43 = .ok (.aload_n 0, 1) := by decide +kernel
theorem dX3_sumOf_44 : decode cX3_sumOf 44 = .ok (.invokevirtual 220, 3) := by decide +kernel
theorem dX3_sumOf_47 : decode cX3_sumOf 47 = .ok (.ireturn, 1) := by decide +kernel
set_option maxRecDepth 20000 in
theorem ggX3_greatestTop_X3_itemOf : GoodIn wsX3_greatestTop wsX3_itemOf := goodIn_r _ [7, 1, 8, 9, 10, 11, 12, 13, 14, 15, 16, 17, 18, 19, 20, 21, 22, 23, 24, 25, 26, 27, 28, 29, 30, 31, 32, 33, 34, 35, 36, 37, 38, 39, 40, 41] (by decide +kernel) (by decide +kernel)
set_option maxRecDepth 20000 in
theorem gX3_greatestTop_X3_itemOf : GoodIn wsX3_greatestTop (wsV RX3 96 RX3 yX3_itemOf wsX3_itemOf) := goodIn_app (goodIn_of _ (by decide +kernel)) ggX3_greatestTop_X3_itemOf
theorem dX3_greatestTop_0 : decode cX3_greatestTop 0 = .ok (.iconst 0, 1) := by decide +kernel
theorem dX3_greatestTop_1 : decode cX3_greatestTop 1 = .ok (.istore_n 1, 1) := by decide +kernel
theorem dX3_greatestTop_2 : decode cX3_greatestTop 2 = .ok (.iconst 0, 1) := by decide +kernel
theorem dX3_greatestTop_3 : decode cX3_greatestTop 3 = .ok (.istore_n 2, 1) := by decide +kernel
theorem dX3_greatestTop_4 : decode cX3_greatestTop 4 = .ok (.iload_n 2, 1) := by decide +kernel
theorem dX3_greatestTop_5 : decode cX3_greatestTop 5 = .ok (.aload_n 0, 1) := by decide +kernel
theorem dX3_greatestTop_6 : decode cX3_greatestTop 6 = .ok (.getfield 38, 3) := by decide +kernel
theorem dX3_greatestTop_9 : decode cX3_greatestTop 9 = .ok (.if_icmp .ge 32, 3) := by decide +kernel
theorem dX3_greatestTop_12 : decode cX3_greatestTop 12 = .ok (.aload_n 0, 1) := by decide +kernel
theorem dX3_greatestTop_13 : decode cX3_greatestTop 13 = .ok (.iload_n 2, 1) := by decide +kernel
theorem dX3_greatestTop_14 : decode cX3_greatestTop 14 = .ok (.invokevirtual 96, 3) := by decide +kernel
theorem dX3_greatestTop_17 : decode cX3_greatestTop 17 = .ok (.astore_n 3, 1) := by decide +kernel
theorem dX3_greatestTop_18 : decode cX3_greatestTop 18 = .ok (.aload_n 3, 1) := by decide +kernel
theorem dX3_greatestTop_19 : decode cX3_greatestTop 19 = .ok (.ifnull 16, 3) := by decide +kernel
theorem dX3_greatestTop_22 : decode cX3_greatestTop 22 = .ok (.aload_n 3, 1) := by decide +kernel
theorem dX3_greatestTop_23 : decode cX3_greatestTop 23 = .ok (.getfield 134, 3) := by decide +kernel
theorem dX3_greatestTop_26 : decode cX3_greatestTop 26 = .ok (.iload_n 1, 1) := by decide +kernel
theorem dX3_greatestTop_27 : decode cX3_greatestTop 27 = .ok (.if_icmp .le 8, 3) := by decide +kernel
theorem dX3_greatestTop_30 : decode cX3_greatestTop 30 = .ok (.aload_n 3, 1) := by decide +kernel
theorem dX3_greatestTop_31 : decode cX3_greatestTop 31 = .ok (.getfield 134, 3) := by decide +kernel
theorem dX3_greatestTop_34 : decode cX3_greatestTop 34 = .ok (.istore_n 1, 1) := by decide +kernel
theorem dX3_greatestTop_35 : decode cX3_greatestTop 35 = .ok (.iinc 2 1, 3) := by decide +kernel
theorem dX3_greatestTop_38 : decode cX3_greatestTop 38 = .ok (.goto (-34), 3) := by decide +kernel
theorem dX3_greatestTop_41 : decode cX3_greatestTop 41 = .ok (.iload_n 1, 1) := by decide +kernel
theorem dX3_greatestTop_42 : decode cX3_greatestTop 42 = .ok (.ireturn, 1) := by decide +kernel
set_option maxRecDepth 20000 in
theorem ggX3_greatestLoad_X3_itemOf : GoodIn wsX3_greatestLoad wsX3_itemOf := goodIn_r _ [7, 1, 8, 9, 10, 11, 12, 13, 14, 15, 16, 17, 18, 19, 20, 21, 22, 23, 24, 25, 26, 27, 28, 29, 30, 31, 32, 33, 34, 35, 36, 37, 38, 39, 40, 41] (by decide +kernel) (by decide +kernel)
set_option maxRecDepth 20000 in
theorem gX3_greatestLoad_X3_itemOf : GoodIn wsX3_greatestLoad (wsV RX3 96 RX3 yX3_itemOf wsX3_itemOf) := goodIn_app (goodIn_of _ (by decide +kernel)) ggX3_greatestLoad_X3_itemOf
theorem dX3_greatestLoad_0 : decode cX3_greatestLoad 0 = .ok (.iconst 0, 1) := by decide +kernel
theorem dX3_greatestLoad_1 : decode cX3_greatestLoad 1 = .ok (.istore_n 1, 1) := by decide +kernel
theorem dX3_greatestLoad_2 : decode cX3_greatestLoad 2 = .ok (.iconst 0, 1) := by decide +kernel
theorem dX3_greatestLoad_3 : decode cX3_greatestLoad 3 = .ok (.istore_n 2, 1) := by decide +kernel
theorem dX3_greatestLoad_4 : decode cX3_greatestLoad 4 = .ok (.iload_n 2, 1) := by decide +kernel
theorem dX3_greatestLoad_5 : decode cX3_greatestLoad 5 = .ok (.aload_n 0, 1) := by decide +kernel
theorem dX3_greatestLoad_6 : decode cX3_greatestLoad 6 = .ok (.getfield 38, 3) := by decide +kernel
theorem dX3_greatestLoad_9 : decode cX3_greatestLoad 9 = .ok (.if_icmp .ge 32, 3) := by decide +kernel
theorem dX3_greatestLoad_12 : decode cX3_greatestLoad 12 = .ok (.aload_n 0, 1) := by decide +kernel
theorem dX3_greatestLoad_13 : decode cX3_greatestLoad 13 = .ok (.iload_n 2, 1) := by decide +kernel
theorem dX3_greatestLoad_14 : decode cX3_greatestLoad 14 = .ok (.invokevirtual 96, 3) := by decide +kernel
theorem dX3_greatestLoad_17 : decode cX3_greatestLoad 17 = .ok (.astore_n 3, 1) := by decide +kernel
theorem dX3_greatestLoad_18 : decode cX3_greatestLoad 18 = .ok (.aload_n 3, 1) := by decide +kernel
theorem dX3_greatestLoad_19 : decode cX3_greatestLoad 19 = .ok (.ifnull 16, 3) := by decide +kernel
theorem dX3_greatestLoad_22 : decode cX3_greatestLoad 22 = .ok (.aload_n 3, 1) := by decide +kernel
theorem dX3_greatestLoad_23 : decode cX3_greatestLoad 23 = .ok (.getfield 208, 3) := by decide +kernel
theorem dX3_greatestLoad_26 : decode cX3_greatestLoad 26 = .ok (.iload_n 1, 1) := by decide +kernel
theorem dX3_greatestLoad_27 : decode cX3_greatestLoad 27 = .ok (.if_icmp .le 8, 3) := by decide +kernel
theorem dX3_greatestLoad_30 : decode cX3_greatestLoad 30 = .ok (.aload_n 3, 1) := by decide +kernel
theorem dX3_greatestLoad_31 : decode cX3_greatestLoad 31 = .ok (.getfield 208, 3) := by decide +kernel
theorem dX3_greatestLoad_34 : decode cX3_greatestLoad 34 = .ok (.istore_n 1, 1) := by decide +kernel
theorem dX3_greatestLoad_35 : decode cX3_greatestLoad 35 = .ok (.iinc 2 1, 3) := by decide +kernel
theorem dX3_greatestLoad_38 : decode cX3_greatestLoad 38 = .ok (.goto (-34), 3) := by decide +kernel
theorem dX3_greatestLoad_41 : decode cX3_greatestLoad 41 = .ok (.iload_n 1, 1) := by decide +kernel
theorem dX3_greatestLoad_42 : decode cX3_greatestLoad 42 = .ok (.ireturn, 1) := by decide +kernel
set_option maxRecDepth 20000 in
theorem ggX3_coveredDeck_X3_itemOf : GoodIn wsX3_coveredDeck wsX3_itemOf := goodIn_r _ [7, 1, 8, 9, 17, 18, 19, 20, 21, 22, 23, 24, 25, 26, 27, 28, 29, 30, 31, 32, 33, 34, 35, 36, 37, 38, 39, 40, 41, 42, 43, 44, 45, 46, 47, 48] (by decide +kernel) (by decide +kernel)
set_option maxRecDepth 20000 in
theorem gX3_coveredDeck_X3_itemOf : GoodIn wsX3_coveredDeck (wsV RX3 96 RX3 yX3_itemOf wsX3_itemOf) := goodIn_app (goodIn_of _ (by decide +kernel)) ggX3_coveredDeck_X3_itemOf
theorem dX3_coveredDeck_0 : decode cX3_coveredDeck 0 = .ok (.iconst 0, 1) := by decide +kernel
theorem dX3_coveredDeck_1 : decode cX3_coveredDeck 1 = .ok (.istore_n 1, 1) := by decide +kernel
theorem dX3_coveredDeck_2 : decode cX3_coveredDeck 2 = .ok (.iconst 0, 1) := by decide +kernel
theorem dX3_coveredDeck_3 : decode cX3_coveredDeck 3 = .ok (.istore_n 2, 1) := by decide +kernel
theorem dX3_coveredDeck_4 : decode cX3_coveredDeck 4 = .ok (.iload_n 2, 1) := by decide +kernel
theorem dX3_coveredDeck_5 : decode cX3_coveredDeck 5 = .ok (.aload_n 0, 1) := by decide +kernel
theorem dX3_coveredDeck_6 : decode cX3_coveredDeck 6 = .ok (.getfield 38, 3) := by decide +kernel
theorem dX3_coveredDeck_9 : decode cX3_coveredDeck 9 = .ok (.if_icmp .ge 33, 3) := by decide +kernel
theorem dX3_coveredDeck_12 : decode cX3_coveredDeck 12 = .ok (.aload_n 0, 1) := by decide +kernel
theorem dX3_coveredDeck_13 : decode cX3_coveredDeck 13 = .ok (.iload_n 2, 1) := by decide +kernel
theorem dX3_coveredDeck_14 : decode cX3_coveredDeck 14 = .ok (.invokevirtual 96, 3) := by decide +kernel
theorem dX3_coveredDeck_17 : decode cX3_coveredDeck 17 = .ok (.astore_n 3, 1) := by decide +kernel
theorem dX3_coveredDeck_18 : decode cX3_coveredDeck 18 = .ok (.aload_n 3, 1) := by decide +kernel
theorem dX3_coveredDeck_19 : decode cX3_coveredDeck 19 = .ok (.ifnull 17, 3) := by decide +kernel
theorem dX3_coveredDeck_22 : decode cX3_coveredDeck 22 = .ok (.aload_n 3, 1) := by decide +kernel
theorem dX3_coveredDeck_23 : decode cX3_coveredDeck 23 = .ok (.getfield 131, 3) := by decide +kernel
theorem dX3_coveredDeck_26 : decode cX3_coveredDeck 26 = .ok (.ifCond .ne 10, 3) := by decide +kernel
theorem dX3_coveredDeck_29 : decode cX3_coveredDeck 29 = .ok (.iload_n 1, 1) := by decide +kernel
theorem dX3_coveredDeck_30 : decode cX3_coveredDeck 30 = .ok (.aload_n 3, 1) := by decide +kernel
theorem dX3_coveredDeck_31 : decode cX3_coveredDeck 31 = .ok (.invokevirtual 188, 3) := by decide +kernel
theorem dX3_coveredDeck_34 : decode cX3_coveredDeck 34 = .ok (.iadd, 1) := by decide +kernel
theorem dX3_coveredDeck_35 : decode cX3_coveredDeck 35 = .ok (.istore_n 1, 1) := by decide +kernel
theorem dX3_coveredDeck_36 : decode cX3_coveredDeck 36 = .ok (.iinc 2 1, 3) := by decide +kernel
theorem dX3_coveredDeck_39 : decode cX3_coveredDeck 39 = .ok (.goto (-35), 3) := by decide +kernel
theorem dX3_coveredDeck_42 : decode cX3_coveredDeck 42 = .ok (.iload_n 1, 1) := by decide +kernel
theorem dX3_coveredDeck_43 : decode cX3_coveredDeck 43 = .ok (.ireturn, 1) := by decide +kernel
set_option maxRecDepth 20000 in
theorem ggX3_layAllTops_X3_itemOf : GoodIn wsX3_layAllTops wsX3_itemOf := goodIn_r _ [7, 2, 8, 9, 25, 26, 27, 28, 29, 30, 31, 32, 33, 34, 35, 36, 37, 38, 39, 40, 41, 42, 43, 44, 45, 46, 47, 48, 49, 50, 51, 52, 53, 54, 55, 56] (by decide +kernel) (by decide +kernel)
set_option maxRecDepth 20000 in
theorem gX3_layAllTops_X3_itemOf : GoodIn wsX3_layAllTops (wsV RX3 96 RX3 yX3_itemOf wsX3_itemOf) := goodIn_app (goodIn_of _ (by decide +kernel)) ggX3_layAllTops_X3_itemOf
theorem dX3_layAllTops_0 : decode cX3_layAllTops 0 = .ok (.iconst 0, 1) := by decide +kernel
theorem dX3_layAllTops_1 : decode cX3_layAllTops 1 = .ok (.istore_n 1, 1) := by decide +kernel
theorem dX3_layAllTops_2 : decode cX3_layAllTops 2 = .ok (.iload_n 1, 1) := by decide +kernel
theorem dX3_layAllTops_3 : decode cX3_layAllTops 3 = .ok (.bipush 120, 2) := by decide +kernel
theorem dX3_layAllTops_5 : decode cX3_layAllTops 5 = .ok (.if_icmp .ge 16, 3) := by decide +kernel
theorem dX3_layAllTops_8 : decode cX3_layAllTops 8 = .ok (.aload_n 0, 1) := by decide +kernel
theorem dX3_layAllTops_9 : decode cX3_layAllTops 9 = .ok (.getfield 47, 3) := by decide +kernel
theorem dX3_layAllTops_12 : decode cX3_layAllTops 12 = .ok (.iload_n 1, 1) := by decide +kernel
theorem dX3_layAllTops_13 : decode cX3_layAllTops 13 = .ok (.iconst 0, 1) := by decide +kernel
theorem dX3_layAllTops_14 : decode cX3_layAllTops 14 = .ok (.iastore, 1) := by decide +kernel
theorem dX3_layAllTops_15 : decode cX3_layAllTops 15 = .ok (.iinc 1 1, 3) := by decide +kernel
theorem dX3_layAllTops_18 : decode cX3_layAllTops 18 = .ok (.goto (-16), 3) := by decide +kernel
theorem dX3_layAllTops_21 : decode cX3_layAllTops 21 = .ok (.iconst 0, 1) := by decide +kernel
theorem dX3_layAllTops_22 : decode cX3_layAllTops 22 = .ok (.istore_n 1, 1) := by decide +kernel
theorem dX3_layAllTops_23 : decode cX3_layAllTops 23 = .ok (.iload_n 1, 1) := by decide +kernel
theorem dX3_layAllTops_24 : decode cX3_layAllTops 24 = .ok (.aload_n 0, 1) := by decide +kernel
theorem dX3_layAllTops_25 : decode cX3_layAllTops 25 = .ok (.getfield 38, 3) := by decide +kernel
theorem dX3_layAllTops_28 : decode cX3_layAllTops 28 = .ok (.if_icmp .ge 24, 3) := by decide +kernel
theorem dX3_layAllTops_31 : decode cX3_layAllTops 31 = .ok (.aload_n 0, 1) := by decide +kernel
theorem dX3_layAllTops_32 : decode cX3_layAllTops 32 = .ok (.iload_n 1, 1) := by decide +kernel
theorem dX3_layAllTops_33 : decode cX3_layAllTops 33 = .ok (.invokevirtual 96, 3) := by decide +kernel
theorem dX3_layAllTops_36 : decode cX3_layAllTops 36 = .ok (.astore_n 2, 1) := by decide +kernel
theorem dX3_layAllTops_37 : decode cX3_layAllTops 37 = .ok (.aload_n 2, 1) := by decide +kernel
theorem dX3_layAllTops_38 : decode cX3_layAllTops 38 = .ok (.ifnull 8, 3) := by decide +kernel
theorem dX3_layAllTops_41 : decode cX3_layAllTops 41 = .ok (.aload_n 0, 1) := by decide +kernel
theorem dX3_layAllTops_42 : decode cX3_layAllTops 42 = .ok (.aload_n 2, 1) := by decide +kernel
theorem dX3_layAllTops_43 : decode cX3_layAllTops 43 = .ok (.invokevirtual 301, 3) := by decide +kernel
theorem dX3_layAllTops_46 : decode cX3_layAllTops 46 = .ok (.iinc 1 1, 3) := by decide +kernel
theorem dX3_layAllTops_49 : decode cX3_layAllTops 49 = .ok (.goto (-26), 3) := by decide +kernel
theorem dX3_layAllTops_52 : decode cX3_layAllTops 52 = .ok (.return_, 1) := by decide +kernel
set_option maxRecDepth 20000 in
theorem ggX3_nextLine_X3_lineOf : GoodIn wsX3_nextLine wsX3_lineOf := goodIn_r _ [9, 1, 10, 11, 12, 8, 13, 22, 23, 24, 25, 26, 27, 28, 29, 30, 31, 32, 33, 34, 35] (by decide +kernel) (by decide +kernel)
set_option maxRecDepth 20000 in
theorem gX3_nextLine_X3_lineOf : GoodIn wsX3_nextLine (wsV RX3 152 RX3 yX3_lineOf wsX3_lineOf) := goodIn_app (goodIn_of _ (by decide +kernel)) ggX3_nextLine_X3_lineOf
theorem dX3_nextLine_0 : decode cX3_nextLine 0 = .ok (.aconst_null, 1) := by decide +kernel
theorem dX3_nextLine_1 : decode cX3_nextLine 1 = .ok (.astore_n 1, 1) := by decide +kernel
theorem dX3_nextLine_2 : decode cX3_nextLine 2 = .ok (.iconst 0, 1) := by decide +kernel
theorem dX3_nextLine_3 : decode cX3_nextLine 3 = .ok (.istore_n 2, 1) := by decide +kernel
theorem dX3_nextLine_4 : decode cX3_nextLine 4 = .ok (.iload_n 2, 1) := by decide +kernel
theorem dX3_nextLine_5 : decode cX3_nextLine 5 = .ok (.aload_n 0, 1) := by decide +kernel
theorem dX3_nextLine_6 : decode cX3_nextLine 6 = .ok (.getfield 62, 3) := by decide +kernel
theorem dX3_nextLine_9 : decode cX3_nextLine 9 = .ok (.if_icmp .ge 53, 3) := by decide +kernel
theorem dX3_nextLine_12 : decode cX3_nextLine 12 = .ok (.aload_n 0, 1) := by decide +kernel
theorem dX3_nextLine_13 : decode cX3_nextLine 13 = .ok (.iload_n 2, 1) := by decide +kernel
theorem dX3_nextLine_14 : decode cX3_nextLine 14 = .ok (.invokevirtual 152, 3) := by decide +kernel
theorem dX3_nextLine_17 : decode cX3_nextLine 17 = .ok (.astore_n 3, 1) := by decide +kernel
theorem dX3_nextLine_18 : decode cX3_nextLine 18 = .ok (.aload_n 3, 1) := by decide +kernel
theorem dX3_nextLine_19 : decode cX3_nextLine 19 = .ok (.ifnull 37, 3) := by decide +kernel
theorem dX3_nextLine_22 : decode cX3_nextLine 22 = .ok (.aload_n 3, 1) := by decide +kernel
theorem dX3_nextLine_23 : decode cX3_nextLine 23 = .ok (.getfield 167, 3) := by decide +kernel
theorem dX3_nextLine_26 : decode cX3_nextLine 26 = .ok (.ifCond .le 30, 3) := by decide +kernel
theorem dX3_nextLine_29 : decode cX3_nextLine 29 = .ok (.aload_n 3, 1) := by decide +kernel
theorem dX3_nextLine_30 : decode cX3_nextLine 30 = .ok (.getfield 156, 3) := by decide +kernel
theorem dX3_nextLine_33 : decode cX3_nextLine 33 = .ok (.ifCond .ne 23, 3) := by decide +kernel
theorem dX3_nextLine_36 : decode cX3_nextLine 36 = .ok (.aload_n 1, 1) := by decide +kernel
theorem dX3_nextLine_37 : decode cX3_nextLine 37 = .ok (.ifnull 17, 3) := by decide +kernel
theorem dX3_nextLine_40 : decode cX3_nextLine 40 = .ok (.aload_n 3, 1) := by decide +kernel
theorem dX3_nextLine_41 : decode cX3_nextLine 41 = .ok (.getfield 163, 3) := by decide +kernel
theorem dX3_nextLine_44 : decode cX3_nextLine 44 = .ok (.aload_n 1, 1) := by decide +kernel
theorem dX3_nextLine_45 : decode cX3_nextLine 45 = .ok (.getfield 163, 3) := by decide +kernel
theorem dX3_nextLine_48 : decode cX3_nextLine 48 = .ok (.invokevirtual 305, 3) := by decide +kernel
theorem dX3_nextLine_51 : decode cX3_nextLine 51 = .ok (.ifCond .eq 5, 3) := by decide +kernel
theorem dX3_nextLine_54 : decode cX3_nextLine 54 = .ok (.aload_n 3, 1) := by decide +kernel
theorem dX3_nextLine_55 : decode cX3_nextLine 55 = .ok (.astore_n 1, 1) := by decide +kernel
theorem dX3_nextLine_56 : decode cX3_nextLine 56 = .ok (.iinc 2 1, 3) := by decide +kernel
theorem dX3_nextLine_59 : decode cX3_nextLine 59 = .ok (.goto (-55), 3) := by decide +kernel
theorem dX3_nextLine_62 : decode cX3_nextLine 62 = .ok (.aload_n 1, 1) := by decide +kernel
theorem dX3_nextLine_63 : decode cX3_nextLine 63 = .ok (.areturn, 1) := by decide +kernel
