theorem dX0_init_0 : decode cX0_init 0 = .ok (.aload_n 0, 1) := by decide +kernel
theorem dX0_init_1 : decode cX0_init 1 = .ok (.invokespecial 3, 3) := by decide +kernel
theorem dX0_init_4 : decode cX0_init 4 = .ok (.aload_n 0, 1) := by decide +kernel
theorem dX0_init_5 : decode cX0_init 5 = .ok (.iconst 0, 1) := by decide +kernel
theorem dX0_init_6 : decode cX0_init 6 = .ok (.putfield 9, 3) := by decide +kernel
theorem dX0_init_9 : decode cX0_init 9 = .ok (.aload_n 0, 1) := by decide +kernel
theorem dX0_init_10 : decode cX0_init 10 = .ok (.iconst 0, 1) := by decide +kernel
theorem dX0_init_11 : decode cX0_init 11 = .ok (.putfield 15, 3) := by decide +kernel
theorem dX0_init_14 : decode cX0_init 14 = .ok (.aload_n 0, 1) := by decide +kernel
theorem dX0_init_15 : decode cX0_init 15 = .ok (.iconst 0, 1) := by decide +kernel
theorem dX0_init_16 : decode cX0_init 16 = .ok (.putfield 18, 3) := by decide +kernel
theorem dX0_init_19 : decode cX0_init 19 = .ok (.aload_n 0, 1) := by decide +kernel
theorem dX0_init_20 : decode cX0_init 20 = .ok (.iconst 0, 1) := by decide +kernel
theorem dX0_init_21 : decode cX0_init 21 = .ok (.putfield 21, 3) := by decide +kernel
theorem dX0_init_24 : decode cX0_init 24 = .ok (.aload_n 0, 1) := by decide +kernel
theorem dX0_init_25 : decode cX0_init 25 = .ok (.iconst 0, 1) := by decide +kernel
theorem dX0_init_26 : decode cX0_init 26 = .ok (.putfield 25, 3) := by decide +kernel
theorem dX0_init_29 : decode cX0_init 29 = .ok (.aload_n 0, 1) := by decide +kernel
theorem dX0_init_30 : decode cX0_init 30 = .ok (.iconst 0, 1) := by decide +kernel
theorem dX0_init_31 : decode cX0_init 31 = .ok (.putfield 28, 3) := by decide +kernel
theorem dX0_init_34 : decode cX0_init 34 = .ok (.aload_n 0, 1) := by decide +kernel
theorem dX0_init_35 : decode cX0_init 35 = .ok (.iconst 0, 1) := by decide +kernel
theorem dX0_init_36 : decode cX0_init 36 = .ok (.putfield 31, 3) := by decide +kernel
theorem dX0_init_39 : decode cX0_init 39 = .ok (.aload_n 0, 1) := by decide +kernel
theorem dX0_init_40 : decode cX0_init 40 = .ok (.iconst 0, 1) := by decide +kernel
theorem dX0_init_41 : decode cX0_init 41 = .ok (.putfield 34, 3) := by decide +kernel
theorem dX0_init_44 : decode cX0_init 44 = .ok (.aload_n 0, 1) := by decide +kernel
theorem dX0_init_45 : decode cX0_init 45 = .ok (.iconst 0, 1) := by decide +kernel
theorem dX0_init_46 : decode cX0_init 46 = .ok (.putfield 37, 3) := by decide +kernel
theorem dX0_init_49 : decode cX0_init 49 = .ok (.aload_n 0, 1) := by decide +kernel
theorem dX0_init_50 : decode cX0_init 50 = .ok (.iconst 0, 1) := by decide +kernel
theorem dX0_init_51 : decode cX0_init 51 = .ok (.putfield 40, 3) := by decide +kernel
theorem dX0_init_54 : decode cX0_init 54 = .ok (.aload_n 0, 1) := by decide +kernel
theorem dX0_init_55 : decode cX0_init 55 = .ok (.iconst 0, 1) := by decide +kernel
theorem dX0_init_56 : decode cX0_init 56 = .ok (.putfield 43, 3) := by decide +kernel
theorem dX0_init_59 : decode cX0_init 59 = .ok (.aload_n 0, 1) := by decide +kernel
theorem dX0_init_60 : decode cX0_init 60 = .ok (.iconst 0, 1) := by decide +kernel
theorem dX0_init_61 : decode cX0_init 61 = .ok (.putfield 46, 3) := by decide +kernel
theorem dX0_init_64 : decode cX0_init 64 = .ok (.aload_n 0, 1) := by decide +kernel
theorem dX0_init_65 : decode cX0_init 65 = .ok (.iconst 0, 1) := by decide +kernel
theorem dX0_init_66 : decode cX0_init 66 = .ok (.putfield 49, 3) := by decide +kernel
theorem dX0_init_69 : decode cX0_init 69 = .ok (.aload_n 0, 1) := by decide +kernel
theorem dX0_init_70 : decode cX0_init 70 = .ok (.iconst 0, 1) := by decide +kernel
theorem dX0_init_71 : decode cX0_init 71 = .ok (.putfield 52, 3) := by decide +kernel
theorem dX0_init_74 : decode cX0_init 74 = .ok (.aload_n 0, 1) := by decide +kernel
theorem dX0_init_75 : decode cX0_init 75 = .ok (.iconst 0, 1) := by decide +kernel
theorem dX0_init_76 : decode cX0_init 76 = .ok (.putfield 55, 3) := by decide +kernel
theorem dX0_init_79 : decode cX0_init 79 = .ok (.aload_n 0, 1) := by decide +kernel
theorem dX0_init_80 : decode cX0_init 80 = .ok (.iconst 0, 1) := by decide +kernel
theorem dX0_init_81 : decode cX0_init 81 = .ok (.putfield 58, 3) := by decide +kernel
theorem dX0_init_84 : decode cX0_init 84 = .ok (.aload_n 0, 1) := by decide +kernel
theorem dX0_init_85 : decode cX0_init 85 = .ok (.bipush 36, 2) := by decide +kernel
theorem dX0_init_87 : decode cX0_init 87 = .ok (.anewarray 10, 3) := by decide +kernel
theorem dX0_init_90 : decode cX0_init 90 = .ok (.putfield 61, 3) := by decide +kernel
theorem dX0_init_93 : decode cX0_init 93 = .ok (.aload_n 0, 1) := by decide +kernel
theorem dX0_init_94 : decode cX0_init 94 = .ok (.bipush 36, 2) := by decide +kernel
theorem dX0_init_96 : decode cX0_init 96 = .ok (.newarray .int, 2) := by decide +kernel
theorem dX0_init_98 : decode cX0_init 98 = .ok (.putfield 65, 3) := by decide +kernel
theorem dX0_init_101 : decode cX0_init 101 = .ok (.return_, 1) := by decide +kernel
theorem dX0_shape_0 : decode cX0_shape 0 = .ok (.aload_n 0, 1) := by decide +kernel
theorem dX0_shape_1 : decode cX0_shape 1 = .ok (.aload_n 1, 1) := by decide +kernel
theorem dX0_shape_2 : decode cX0_shape 2 = .ok (.getfield 69, 3) := by decide +kernel
theorem dX0_shape_5 : decode cX0_shape 5 = .ok (.putfield 9, 3) := by decide +kernel
theorem dX0_shape_8 : decode cX0_shape 8 = .ok (.aload_n 0, 1) := by decide +kernel
theorem dX0_shape_9 : decode cX0_shape 9 = .ok (.aload_n 1, 1) := by decide +kernel
theorem dX0_shape_10 : decode cX0_shape 10 = .ok (.getfield 74, 3) := by decide +kernel
theorem dX0_shape_13 : decode cX0_shape 13 = .ok (.putfield 15, 3) := by decide +kernel
theorem dX0_shape_16 : decode cX0_shape 16 = .ok (.aload_n 0, 1) := by decide +kernel
theorem dX0_shape_17 : decode cX0_shape 17 = .ok (.aload_n 1, 1) := by decide +kernel
theorem dX0_shape_18 : decode cX0_shape 18 = .ok (.getfield 75, 3) := by decide +kernel
theorem dX0_shape_21 : decode cX0_shape 21 = .ok (.putfield 18, 3) := by decide +kernel
theorem dX0_shape_24 : decode cX0_shape 24 = .ok (.aload_n 0, 1) := by decide +kernel
theorem dX0_shape_25 : decode cX0_shape 25 = .ok (.iload_n 2, 1) := by decide +kernel
theorem dX0_shape_26 : decode cX0_shape 26 = .ok (.putfield 21, 3) := by decide +kernel
theorem dX0_shape_29 : decode cX0_shape 29 = .ok (.aload_n 0, 1) := by decide +kernel
theorem dX0_shape_30 : decode cX0_shape 30 = .ok (.iload_n 2, 1) := by decide +kernel
theorem dX0_shape_31 : decode cX0_shape 31 = .ok (.ifCond .eq 10, 3) := by decide +kernel
theorem dX0_shape_34 : decode cX0_shape 34 = .ok (.aload_n 1, 1) := by decide +kernel
theorem dX0_shape_35 : decode cX0_shape 35 = .ok (.getfield 76, 3) := by decide +kernel
theorem dX0_shape_38 : decode cX0_shape 38 = .ok (.goto 7, 3) := by decide +kernel
theorem dX0_shape_41 : decode cX0_shape 41 = .ok (.aload_n 1, 1) := by decide +kernel
theorem dX0_shape_42 : decode cX0_shape 42 = .ok (.getfield 77, 3) := by decide +kernel
theorem dX0_shape_45 : decode cX0_shape 45 = .ok (.putfield 25, 3) := by decide +kernel
theorem dX0_shape_48 : decode cX0_shape 48 = .ok (.aload_n 0, 1) := by decide +kernel
theorem dX0_shape_49 : decode cX0_shape 49 = .ok (.iload_n 2, 1) := by decide +kernel
theorem dX0_shape_50 : decode cX0_shape 50 = .ok (.ifCond .eq 10, 3) := by decide +kernel
theorem dX0_shape_53 : decode cX0_shape 53 = .ok (.aload_n 1, 1) := by decide +kernel
theorem dX0_shape_54 : decode cX0_shape 54 = .ok (.getfield 77, 3) := by decide +kernel
theorem dX0_shape_57 : decode cX0_shape 57 = .ok (.goto 7, 3) := by decide +kernel
theorem dX0_shape_60 : decode cX0_shape 60 = .ok (.aload_n 1, 1) := by decide +kernel
theorem dX0_shape_61 : decode cX0_shape 61 = .ok (.getfield 76, 3) := by decide +kernel
theorem dX0_shape_64 : decode cX0_shape 64 = .ok (.putfield 28, 3) := by decide +kernel
theorem dX0_shape_67 : decode cX0_shape 67 = .ok (.return_, 1) := by decide +kernel
theorem dX1_init_0 : decode cX1_init 0 = .ok (.aload_n 0, 1) := by decide +kernel
theorem dX1_init_1 : decode cX1_init 1 = .ok (.invokespecial 1, 3) := by decide +kernel
theorem dX1_init_4 : decode cX1_init 4 = .ok (.aload_n 0, 1) := by decide +kernel
theorem dX1_init_5 : decode cX1_init 5 = .ok (.iload_n 1, 1) := by decide +kernel
theorem dX1_init_6 : decode cX1_init 6 = .ok (.putfield 7, 3) := by decide +kernel
theorem dX1_init_9 : decode cX1_init 9 = .ok (.aload_n 0, 1) := by decide +kernel
theorem dX1_init_10 : decode cX1_init 10 = .ok (.iload_n 2, 1) := by decide +kernel
theorem dX1_init_11 : decode cX1_init 11 = .ok (.putfield 13, 3) := by decide +kernel
theorem dX1_init_14 : decode cX1_init 14 = .ok (.aload_n 0, 1) := by decide +kernel
theorem dX1_init_15 : decode cX1_init 15 = .ok (.iload_n 3, 1) := by decide +kernel
theorem dX1_init_16 : decode cX1_init 16 = .ok (.putfield 16, 3) := by decide +kernel
theorem dX1_init_19 : decode cX1_init 19 = .ok (.aload_n 0, 1) := by decide +kernel
theorem dX1_init_20 : decode cX1_init 20 = .ok (.iload 4, 2) := by decide +kernel
theorem dX1_init_22 : decode cX1_init 22 = .ok (.putfield 19, 3) := by decide +kernel
theorem dX1_init_25 : decode cX1_init 25 = .ok (.aload_n 0, 1) := by decide +kernel
theorem dX1_init_26 : decode cX1_init 26 = .ok (.iload 5, 2) := by decide +kernel
theorem dX1_init_28 : decode cX1_init 28 = .ok (.putfield 22, 3) := by decide +kernel
theorem dX1_init_31 : decode cX1_init 31 = .ok (.aload_n 0, 1) := by decide +kernel
theorem dX1_init_32 : decode cX1_init 32 = .ok (.iload 6, 2) := by decide +kernel
theorem dX1_init_34 : decode cX1_init 34 = .ok (.putfield 25, 3) := by decide +kernel
theorem dX1_init_37 : decode cX1_init 37 = .ok (.aload_n 0, 1) := by decide +kernel
theorem dX1_init_38 : decode cX1_init 38 = .ok (.iload 7, 2) := by decide +kernel
theorem dX1_init_40 : decode cX1_init 40 = .ok (.iconst 1, 1) := by decide +kernel
theorem dX1_init_41 : decode cX1_init 41 = .ok (.if_icmp .eq 9, 3) := by decide +kernel
theorem dX1_init_44 : decode cX1_init 44 = .ok (.iload 7, 2) := by decide +kernel
theorem dX1_init_46 : decode cX1_init 46 = .ok (.iconst 3, 1) := by decide +kernel
theorem dX1_init_47 : decode cX1_init 47 = .ok (.if_icmp .ne 7, 3) := by decide +kernel
theorem dX1_init_50 : decode cX1_init 50 = .ok (.iconst 1, 1) := by decide +kernel
theorem dX1_init_51 : decode cX1_init 51 = .ok (.goto 4, 3) := by decide +kernel
theorem dX1_init_54 : decode cX1_init 54 = .ok (.iconst 0, 1) := by decide +kernel
theorem dX1_init_55 : decode cX1_init 55 = .ok (.putfield 28, 3) := by decide +kernel
theorem dX1_init_58 : decode cX1_init 58 = .ok (.aload_n 0, 1) := by decide +kernel
theorem dX1_init_59 : decode cX1_init 59 = .ok (.iload 7, 2) := by decide +kernel
theorem dX1_init_61 : decode cX1_init 61 = .ok (.iconst 2, 1) := by decide +kernel
theorem dX1_init_62 : decode cX1_init 62 = .ok (.if_icmp .eq 9, 3) := by decide +kernel
theorem dX1_init_65 : decode cX1_init 65 = .ok (.iload 7, 2) := by decide +kernel
theorem dX1_init_67 : decode cX1_init 67 = .ok (.iconst 3, 1) := by decide +kernel
theorem dX1_init_68 : decode cX1_init 68 = .ok (.if_icmp .ne 7, 3) := by decide +kernel
theorem dX1_init_71 : decode cX1_init 71 = .ok (.iconst 1, 1) := by decide +kernel
theorem dX1_init_72 : decode cX1_init 72 = .ok (.goto 4, 3) := by decide +kernel
theorem dX1_init_75 : decode cX1_init 75 = .ok (.iconst 0, 1) := by decide +kernel
theorem dX1_init_76 : decode cX1_init 76 = .ok (.putfield 32, 3) := by decide +kernel
theorem dX1_init_79 : decode cX1_init 79 = .ok (.return_, 1) := by decide +kernel
theorem dX1_comesBefore_0 : decode cX1_comesBefore 0 = .ok (.aload_n 0, 1) := by decide +kernel
theorem dX1_comesBefore_1 : decode cX1_comesBefore 1 = .ok (.getfield 32, 3) := by decide +kernel
theorem dX1_comesBefore_4 : decode cX1_comesBefore 4 = .ok (.aload_n 1, 1) := by decide +kernel
theorem dX1_comesBefore_5 : decode cX1_comesBefore 5 = .ok (.getfield 32, 3) := by decide +kernel
theorem dX1_comesBefore_8 : decode cX1_comesBefore 8 = .ok (.if_icmp .eq 8, 3) := by decide +kernel
theorem dX1_comesBefore_11 : decode cX1_comesBefore 11 = .ok (.aload_n 0, 1) := by decide +kernel
theorem dX1_comesBefore_12 : decode cX1_comesBefore 12 = .ok (.getfield 32, 3) := by decide +kernel
theorem dX1_comesBefore_15 : decode cX1_comesBefore 15 = .ok (.ireturn, 1) := by decide +kernel
theorem dX1_comesBefore_16 : decode cX1_comesBefore 16 = .ok (.aload_n 0, 1) := by decide +kernel
theorem dX1_comesBefore_17 : decode cX1_comesBefore 17 = .ok (.getfield 25, 3) := by decide +kernel
theorem dX1_comesBefore_20 : decode cX1_comesBefore 20 = .ok (.aload_n 1, 1) := by decide +kernel
theorem dX1_comesBefore_21 : decode cX1_comesBefore 21 = .ok (.getfield 25, 3) := by decide +kernel
theorem dX1_comesBefore_24 : decode cX1_comesBefore 24 = .ok (.if_icmp .eq 20, 3) := by decide +kernel
theorem dX1_comesBefore_27 : decode cX1_comesBefore 27 = .ok (.aload_n 0, 1) := by decide +kernel
theorem dX1_comesBefore_28 : decode cX1_comesBefore 28 = .ok (.getfield 25, 3) := by decide +kernel
theorem dX1_comesBefore_31 : decode cX1_comesBefore 31 = .ok (.aload_n 1, 1) := by decide +kernel
theorem dX1_comesBefore_32 : decode cX1_comesBefore 32 = .ok (.getfield 25, 3) := by decide +kernel
theorem dX1_comesBefore_35 : decode cX1_comesBefore 35 = .ok (.if_icmp .le 7, 3) := by decide +kernel
theorem dX1_comesBefore_38 : decode cX1_comesBefore 38 = .ok (.iconst 1, 1) := by decide +kernel
theorem dX1_comesBefore_39 : decode cX1_comesBefore 39 = .ok (.goto 4, 3) := by decide +kernel
theorem dX1_comesBefore_42 : decode cX1_comesBefore 42 = .ok (.iconst 0, 1) := by decide +kernel
theorem dX1_comesBefore_43 : decode cX1_comesBefore 43 = .ok (.ireturn, 1) := by decide +kernel
theorem dX1_comesBefore_44 : decode cX1_comesBefore 44 = .ok (.aload_n 0, 1) := by decide +kernel
theorem dX1_comesBefore_45 : decode cX1_comesBefore 45 = .ok (.getfield 22, 3) := by decide +kernel
theorem dX1_comesBefore_48 : decode cX1_comesBefore 48 = .ok (.aload_n 1, 1) := by decide +kernel
theorem dX1_comesBefore_49 : decode cX1_comesBefore 49 = .ok (.getfield 22, 3) := by decide +kernel
theorem dX1_comesBefore_52 : decode cX1_comesBefore 52 = .ok (.if_icmp .le 7, 3) := by decide +kernel
theorem dX1_comesBefore_55 : decode cX1_comesBefore 55 = .ok (.iconst 1, 1) := by decide +kernel
theorem dX1_comesBefore_56 : decode cX1_comesBefore 56 = .ok (.goto 4, 3) := by decide +kernel
theorem dX1_comesBefore_59 : decode cX1_comesBefore 59 = .ok (.iconst 0, 1) := by decide +kernel
theorem dX1_comesBefore_60 : decode cX1_comesBefore 60 = .ok (.ireturn, 1) := by decide +kernel
theorem dX2_init_0 : decode cX2_init 0 = .ok (.aload_n 0, 1) := by decide +kernel
theorem dX2_init_1 : decode cX2_init 1 = .ok (.invokespecial 1, 3) := by decide +kernel
theorem dX2_init_4 : decode cX2_init 4 = .ok (.aload_n 0, 1) := by decide +kernel
theorem dX2_init_5 : decode cX2_init 5 = .ok (.iconst 0, 1) := by decide +kernel
theorem dX2_init_6 : decode cX2_init 6 = .ok (.putfield 7, 3) := by decide +kernel
theorem dX2_init_9 : decode cX2_init 9 = .ok (.aload_n 0, 1) := by decide +kernel
theorem dX2_init_10 : decode cX2_init 10 = .ok (.aload_n 1, 1) := by decide +kernel
theorem dX2_init_11 : decode cX2_init 11 = .ok (.putfield 13, 3) := by decide +kernel
theorem dX2_init_14 : decode cX2_init 14 = .ok (.aload_n 0, 1) := by decide +kernel
theorem dX2_init_15 : decode cX2_init 15 = .ok (.iload_n 2, 1) := by decide +kernel
theorem dX2_init_16 : decode cX2_init 16 = .ok (.putfield 17, 3) := by decide +kernel
theorem dX2_init_19 : decode cX2_init 19 = .ok (.return_, 1) := by decide +kernel
set_option maxRecDepth 20000 in
theorem ggX3_init_X0_init : GoodIn wsX3_init wsX0_init := goodIn_r _ [25, 26, 2, 3, 27, 28, 29, 30, 31, 32, 33, 34, 35, 36, 37, 38, 39, 40, 41, 42, 43, 44, 16, 45, 60, 61, 62, 63, 64, 65, 66, 67, 68, 69, 70, 71, 72, 73, 74, 75, 76, 77] (by decide +kernel) (by decide +kernel)
set_option maxRecDepth 20000 in
theorem gX3_init_X0_init_n51 : GoodIn wsX3_init (wsX0_init) := ggX3_init_X0_init
theorem dX3_init_0 : decode cX3_init 0 = .ok (.aload_n 0, 1) := by decide +kernel
theorem dX3_init_1 : decode cX3_init 1 = .ok (.invokespecial 3, 3) := by decide +kernel
theorem dX3_init_4 : decode cX3_init 4 = .ok (.aload_n 0, 1) := by decide +kernel
theorem dX3_init_5 : decode cX3_init 5 = .ok (.bipush 10, 2) := by decide +kernel
theorem dX3_init_7 : decode cX3_init 7 = .ok (.anewarray 9, 3) := by decide +kernel
theorem dX3_init_10 : decode cX3_init 10 = .ok (.putfield 11, 3) := by decide +kernel
theorem dX3_init_13 : decode cX3_init 13 = .ok (.aload_n 0, 1) := by decide +kernel
theorem dX3_init_14 : decode cX3_init 14 = .ok (.iconst 0, 1) := by decide +kernel
theorem dX3_init_15 : decode cX3_init 15 = .ok (.putfield 15, 3) := by decide +kernel
theorem dX3_init_18 : decode cX3_init 18 = .ok (.aload_n 0, 1) := by decide +kernel
theorem dX3_init_19 : decode cX3_init 19 = .ok (.bipush 20, 2) := by decide +kernel
theorem dX3_init_21 : decode cX3_init 21 = .ok (.putfield 19, 3) := by decide +kernel
theorem dX3_init_24 : decode cX3_init 24 = .ok (.aload_n 0, 1) := by decide +kernel
theorem dX3_init_25 : decode cX3_init 25 = .ok (.bipush 60, 2) := by decide +kernel
theorem dX3_init_27 : decode cX3_init 27 = .ok (.putfield 22, 3) := by decide +kernel
theorem dX3_init_30 : decode cX3_init 30 = .ok (.aload_n 0, 1) := by decide +kernel
theorem dX3_init_31 : decode cX3_init 31 = .ok (.sipush 2000, 3) := by decide +kernel
theorem dX3_init_34 : decode cX3_init 34 = .ok (.putfield 25, 3) := by decide +kernel
theorem dX3_init_37 : decode cX3_init 37 = .ok (.aload_n 0, 1) := by decide +kernel
theorem dX3_init_38 : decode cX3_init 38 = .ok (.iconst 0, 1) := by decide +kernel
theorem dX3_init_39 : decode cX3_init 39 = .ok (.putfield 28, 3) := by decide +kernel
theorem dX3_init_42 : decode cX3_init 42 = .ok (.aload_n 0, 1) := by decide +kernel
theorem dX3_init_43 : decode cX3_init 43 = .ok (.bipush 60, 2) := by decide +kernel
theorem dX3_init_45 : decode cX3_init 45 = .ok (.anewarray 32, 3) := by decide +kernel
theorem dX3_init_48 : decode cX3_init 48 = .ok (.putfield 34, 3) := by decide +kernel
theorem dX3_init_51 : decode cX3_init 51 = .ok (.aload_n 0, 1) := by decide +kernel
theorem dX3_init_52 : decode cX3_init 52 = .ok (.iconst 0, 1) := by decide +kernel
theorem dX3_init_53 : decode cX3_init 53 = .ok (.putfield 38, 3) := by decide +kernel
theorem dX3_init_56 : decode cX3_init 56 = .ok (.aload_n 0, 1) := by decide +kernel
theorem dX3_init_57 : decode cX3_init 57 = .ok (.iconst 0, 1) := by decide +kernel
theorem dX3_init_58 : decode cX3_init 58 = .ok (.putfield 41, 3) := by decide +kernel
theorem dX3_init_61 : decode cX3_init 61 = .ok (.aload_n 0, 1) := by decide +kernel
theorem dX3_init_62 : decode cX3_init 62 = .ok (.iconst 0, 1) := by decide +kernel
theorem dX3_init_63 : decode cX3_init 63 = .ok (.putfield 44, 3) := by decide +kernel
theorem dX3_init_66 : decode cX3_init 66 = .ok (.aload_n 0, 1) := by decide +kernel
theorem dX3_init_67 : decode cX3_init 67 = .ok (.bipush 120, 2) := by decide +kernel
theorem dX3_init_69 : decode cX3_init 69 = .ok (.newarray .int, 2) := by decide +kernel
theorem dX3_init_71 : decode cX3_init 71 = .ok (.putfield 47, 3) := by decide +kernel
theorem dX3_init_74 : decode cX3_init 74 = .ok (.aload_n 0, 1) := by decide +kernel
theorem dX3_init_75 : decode cX3_init 75 = .ok (.new 32, 3) := by decide +kernel
theorem dX3_init_78 : decode cX3_init 78 = .ok (.dup, 1) := by decide +kernel
theorem dX3_init_79 : decode cX3_init 79 = .ok (.invokespecial 51, 3) := by decide +kernel
theorem dX3_init_82 : decode cX3_init 82 = .ok (.putfield 52, 3) := by decide +kernel
theorem dX3_init_85 : decode cX3_init 85 = .ok (.aload_n 0, 1) := by decide +kernel
theorem dX3_init_86 : decode cX3_init 86 = .ok (.bipush 20, 2) := by decide +kernel
theorem dX3_init_88 : decode cX3_init 88 = .ok (.anewarray 56, 3) := by decide +kernel
theorem dX3_init_91 : decode cX3_init 91 = .ok (.putfield 58, 3) := by decide +kernel
theorem dX3_init_94 : decode cX3_init 94 = .ok (.aload_n 0, 1) := by decide +kernel
theorem dX3_init_95 : decode cX3_init 95 = .ok (.iconst 0, 1) := by decide +kernel
theorem dX3_init_96 : decode cX3_init 96 = .ok (.putfield 62, 3) := by decide +kernel
theorem dX3_init_99 : decode cX3_init 99 = .ok (.iconst 0, 1) := by decide +kernel
theorem dX3_init_100 : decode cX3_init 100 = .ok (.istore_n 1, 1) := by decide +kernel
theorem dX3_init_101 : decode cX3_init 101 = .ok (.iload_n 1, 1) := by decide +kernel
theorem dX3_init_102 : decode cX3_init 102 = .ok (.bipush 60, 2) := by decide +kernel
theorem dX3_init_104 : decode cX3_init 104 = .ok (.if_icmp .ge 22, 3) := by decide +kernel
theorem dX3_init_107 : decode cX3_init 107 = .ok (.aload_n 0, 1) := by decide +kernel
theorem dX3_init_108 : decode cX3_init 108 = .ok (.getfield 34, 3) := by decide +kernel
theorem dX3_init_111 : decode cX3_init 111 = .ok (.iload_n 1, 1) := by decide +kernel
theorem dX3_init_112 : decode cX3_init 112 = .ok (.new 32, 3) := by decide +kernel
theorem dX3_init_115 : decode cX3_init 115 = .ok (.dup, 1) := by decide +kernel
theorem dX3_init_116 : decode cX3_init 116 = .ok (.invokespecial 51, 3) := by decide +kernel
theorem dX3_init_119 : decode cX3_init 119 = .ok (.aastore, 1) := by decide +kernel
theorem dX3_init_120 : decode cX3_init 120 = .ok (.iinc 1 1, 3) := by decide +kernel
theorem dX3_init_123 : decode cX3_init 123 = .ok (.goto (-22), 3) := by decide +kernel
theorem dX3_init_126 : decode cX3_init 126 = .ok (.return_, 1) := by decide +kernel
set_option maxRecDepth 20000 in
theorem ggX3_addKind_X3_isWithin : GoodIn wsX3_addKind wsX3_isWithin := goodIn_r _ [13] (by decide +kernel) (by decide +kernel)
set_option maxRecDepth 20000 in
theorem gX3_addKind_X3_isWithin : GoodIn wsX3_addKind (va_wsS RX3 65 yX3_isWithin wsX3_isWithin) := goodIn_app (goodIn_of _ (by decide +kernel)) ggX3_addKind_X3_isWithin
set_option maxRecDepth 20000 in
theorem ggX3_addKind_X1_init : GoodIn wsX3_addKind wsX1_init := goodIn_r _ [16, 17, 18, 19, 20, 21, 22, 23, 24, 25, 26, 27, 42, 43, 44, 45, 46, 47, 48, 49] (by decide +kernel) (by decide +kernel)
set_option maxRecDepth 20000 in
theorem gX3_addKind_X1_init : GoodIn wsX3_addKind (wsX1_init) := ggX3_addKind_X1_init
theorem dX3_addKind_0 : decode cX3_addKind 0 = .ok (.iload_n 1, 1) := by decide +kernel
theorem dX3_addKind_1 : decode cX3_addKind 1 = .ok (.iconst 1, 1) := by decide +kernel
theorem dX3_addKind_2 : decode cX3_addKind 2 = .ok (.bipush 6, 2) := by decide +kernel
theorem dX3_addKind_4 : decode cX3_addKind 4 = .ok (.invokestatic 65, 3) := by decide +kernel
theorem dX3_addKind_7 : decode cX3_addKind 7 = .ok (.ifCond .eq 57, 3) := by decide +kernel
theorem dX3_addKind_10 : decode cX3_addKind 10 = .ok (.iload_n 2, 1) := by decide +kernel
theorem dX3_addKind_11 : decode cX3_addKind 11 = .ok (.iconst 1, 1) := by decide +kernel
theorem dX3_addKind_12 : decode cX3_addKind 12 = .ok (.bipush 6, 2) := by decide +kernel
theorem dX3_addKind_14 : decode cX3_addKind 14 = .ok (.invokestatic 65, 3) := by decide +kernel
theorem dX3_addKind_17 : decode cX3_addKind 17 = .ok (.ifCond .eq 47, 3) := by decide +kernel
theorem dX3_addKind_20 : decode cX3_addKind 20 = .ok (.iload_n 3, 1) := by decide +kernel
theorem dX3_addKind_21 : decode cX3_addKind 21 = .ok (.iconst 1, 1) := by decide +kernel
theorem dX3_addKind_22 : decode cX3_addKind 22 = .ok (.bipush 8, 2) := by decide +kernel
theorem dX3_addKind_24 : decode cX3_addKind 24 = .ok (.invokestatic 65, 3) := by decide +kernel
theorem dX3_addKind_27 : decode cX3_addKind 27 = .ok (.ifCond .eq 37, 3) := by decide +kernel
theorem dX3_addKind_30 : decode cX3_addKind 30 = .ok (.iload 4, 2) := by decide +kernel
theorem dX3_addKind_32 : decode cX3_addKind 32 = .ok (.iconst 1, 1) := by decide +kernel
theorem dX3_addKind_33 : decode cX3_addKind 33 = .ok (.sipush 500, 3) := by decide +kernel
theorem dX3_addKind_36 : decode cX3_addKind 36 = .ok (.invokestatic 65, 3) := by decide +kernel
theorem dX3_addKind_39 : decode cX3_addKind 39 = .ok (.ifCond .eq 25, 3) := by decide +kernel
theorem dX3_addKind_42 : decode cX3_addKind 42 = .ok (.iload 5, 2) := by decide +kernel
theorem dX3_addKind_44 : decode cX3_addKind 44 = .ok (.iconst 0, 1) := by decide +kernel
theorem dX3_addKind_45 : decode cX3_addKind 45 = .ok (.sipush 5000, 3) := by decide +kernel
theorem dX3_addKind_48 : decode cX3_addKind 48 = .ok (.invokestatic 65, 3) := by decide +kernel
theorem dX3_addKind_51 : decode cX3_addKind 51 = .ok (.ifCond .eq 13, 3) := by decide +kernel
theorem dX3_addKind_54 : decode cX3_addKind 54 = .ok (.iload 6, 2) := by decide +kernel
theorem dX3_addKind_56 : decode cX3_addKind 56 = .ok (.iconst 0, 1) := by decide +kernel
theorem dX3_addKind_57 : decode cX3_addKind 57 = .ok (.iconst 3, 1) := by decide +kernel
theorem dX3_addKind_58 : decode cX3_addKind 58 = .ok (.invokestatic 65, 3) := by decide +kernel
theorem dX3_addKind_61 : decode cX3_addKind 61 = .ok (.ifCond .ne 11, 3) := by decide +kernel
theorem dX3_addKind_64 : decode cX3_addKind 64 = .ok (.new 69, 3) := by decide +kernel
theorem dX3_addKind_67 : decode cX3_addKind 67 = .ok (.dup, 1) := by decide +kernel
theorem dX3_addKind_68 : decode cX3_addKind 68 = .ok (.invokespecial 71, 3) := by decide +kernel
theorem dX3_addKind_71 : decode cX3_addKind 71 = .ok (.athrow, 1) := by decide +kernel
theorem dX3_addKind_72 : decode cX3_addKind 72 = .ok (.aload_n 0, 1) := by decide +kernel
theorem dX3_addKind_73 : decode cX3_addKind 73 = .ok (.getfield 15, 3) := by decide +kernel
theorem dX3_addKind_76 : decode cX3_addKind 76 = .ok (.ifCond .lt 12, 3) := by decide +kernel
theorem dX3_addKind_79 : decode cX3_addKind 79 = .ok (.aload_n 0, 1) := by decide +kernel
theorem dX3_addKind_80 : decode cX3_addKind 80 = .ok (.getfield 15, 3) := by decide +kernel
theorem dX3_addKind_83 : decode cX3_addKind 83 = .ok (.bipush 10, 2) := by decide +kernel
theorem dX3_addKind_85 : decode cX3_addKind 85 = .ok (.if_icmp .lt 11, 3) := by decide +kernel
theorem dX3_addKind_88 : decode cX3_addKind 88 = .ok (.new 72, 3) := by decide +kernel
theorem dX3_addKind_91 : decode cX3_addKind 91 = .ok (.dup, 1) := by decide +kernel
theorem dX3_addKind_92 : decode cX3_addKind 92 = .ok (.invokespecial 74, 3) := by decide +kernel
theorem dX3_addKind_95 : decode cX3_addKind 95 = .ok (.athrow, 1) := by decide +kernel
theorem dX3_addKind_96 : decode cX3_addKind 96 = .ok (.aload_n 0, 1) := by decide +kernel
theorem dX3_addKind_97 : decode cX3_addKind 97 = .ok (.getfield 15, 3) := by decide +kernel
theorem dX3_addKind_100 : decode cX3_addKind 100 = .ok (.istore 7, 2) := by decide +kernel
theorem dX3_addKind_102 : decode cX3_addKind 102 = .ok (.aload_n 0, 1) := by decide +kernel
theorem dX3_addKind_103 : decode cX3_addKind 103 = .ok (.getfield 11, 3) := by decide +kernel
theorem dX3_addKind_106 : decode cX3_addKind 106 = .ok (.iload 7, 2) := by decide +kernel
theorem dX3_addKind_108 : decode cX3_addKind 108 = .ok (.new 9, 3) := by decide +kernel
theorem dX3_addKind_111 : decode cX3_addKind 111 = .ok (.dup, 1) := by decide +kernel
theorem dX3_addKind_112 : decode cX3_addKind 112 = .ok (.iload 7, 2) := by decide +kernel
theorem dX3_addKind_114 : decode cX3_addKind 114 = .ok (.iload_n 1, 1) := by decide +kernel
theorem dX3_addKind_115 : decode cX3_addKind 115 = .ok (.iload_n 2, 1) := by decide +kernel
theorem dX3_addKind_116 : decode cX3_addKind 116 = .ok (.iload_n 3, 1) := by decide +kernel
theorem dX3_addKind_117 : decode cX3_addKind 117 = .ok (.iload 4, 2) := by decide +kernel
theorem dX3_addKind_119 : decode cX3_addKind 119 = .ok (.iload 5, 2) := by decide +kernel
theorem dX3_addKind_121 : decode cX3_addKind 121 = .ok (.iload 6, 2) := by decide +kernel
theorem dX3_addKind_123 : decode cX3_addKind 123 = .ok (.invokespecial 75, 3) := by decide +kernel
theorem dX3_addKind_126 : decode cX3_addKind 126 = .ok (.aastore, 1) := by decide +kernel
theorem dX3_addKind_127 : decode cX3_addKind 127 = .ok (.aload_n 0, 1) := by decide +kernel
theorem dX3_addKind_128 : decode cX3_addKind 128 = .ok (.iload 7, 2) := by decide +kernel
theorem dX3_addKind_130 : decode cX3_addKind 130 = .ok (.iconst 1, 1) := by decide +kernel
theorem dX3_addKind_131 : decode cX3_addKind 131 = .ok (.iadd, 1) := by decide +kernel
theorem dX3_addKind_132 : decode cX3_addKind 132 = .ok (.putfield 15, 3) := by decide +kernel
theorem dX3_addKind_135 : decode cX3_addKind 135 = .ok (.iload 7, 2) := by decide +kernel
theorem dX3_addKind_137 : decode cX3_addKind 137 = .ok (.ireturn, 1) := by decide +kernel
set_option maxRecDepth 20000 in
theorem ggX3_setRules_X3_isWithin : GoodIn wsX3_setRules wsX3_isWithin := goodIn_r _ [10] (by decide +kernel) (by decide +kernel)
set_option maxRecDepth 20000 in
theorem gX3_setRules_X3_isWithin : GoodIn wsX3_setRules (va_wsS RX3 65 yX3_isWithin wsX3_isWithin) := goodIn_app (goodIn_of _ (by decide +kernel)) ggX3_setRules_X3_isWithin
theorem dX3_setRules_0 : decode cX3_setRules 0 = .ok (.iload_n 1, 1) := by decide +kernel
theorem dX3_setRules_1 : decode cX3_setRules 1 = .ok (.iconst 1, 1) := by decide +kernel
theorem dX3_setRules_2 : decode cX3_setRules 2 = .ok (.bipush 40, 2) := by decide +kernel
theorem dX3_setRules_4 : decode cX3_setRules 4 = .ok (.invokestatic 65, 3) := by decide +kernel
theorem dX3_setRules_7 : decode cX3_setRules 7 = .ok (.ifCond .eq 24, 3) := by decide +kernel
theorem dX3_setRules_10 : decode cX3_setRules 10 = .ok (.iload_n 2, 1) := by decide +kernel
theorem dX3_setRules_11 : decode cX3_setRules 11 = .ok (.iconst 0, 1) := by decide +kernel
theorem dX3_setRules_12 : decode cX3_setRules 12 = .ok (.bipush 100, 2) := by decide +kernel
theorem dX3_setRules_14 : decode cX3_setRules 14 = .ok (.invokestatic 65, 3) := by decide +kernel
theorem dX3_setRules_17 : decode cX3_setRules 17 = .ok (.ifCond .eq 14, 3) := by decide +kernel
theorem dX3_setRules_20 : decode cX3_setRules 20 = .ok (.iload_n 3, 1) := by decide +kernel
theorem dX3_setRules_21 : decode cX3_setRules 21 = .ok (.iconst 1, 1) := by decide +kernel
theorem dX3_setRules_22 : decode cX3_setRules 22 = .ok (.sipush 20000, 3) := by decide +kernel
theorem dX3_setRules_25 : decode cX3_setRules 25 = .ok (.invokestatic 65, 3) := by decide +kernel
theorem dX3_setRules_28 : decode cX3_setRules 28 = .ok (.ifCond .ne 11, 3) := by decide +kernel
theorem dX3_setRules_31 : decode cX3_setRules 31 = .ok (.new 69, 3) := by decide +kernel
theorem dX3_setRules_34 : decode cX3_setRules 34 = .ok (.dup, 1) := by decide +kernel
theorem dX3_setRules_35 : decode cX3_setRules 35 = .ok (.invokespecial 71, 3) := by decide +kernel
theorem dX3_setRules_38 : decode cX3_setRules 38 = .ok (.athrow, 1) := by decide +kernel
theorem dX3_setRules_39 : decode cX3_setRules 39 = .ok (.aload_n 0, 1) := by decide +kernel
theorem dX3_setRules_40 : decode cX3_setRules 40 = .ok (.getfield 19, 3) := by decide +kernel
theorem dX3_setRules_43 : decode cX3_setRules 43 = .ok (.istore 5, 2) := by decide +kernel
theorem dX3_setRules_45 : decode cX3_setRules 45 = .ok (.aload_n 0, 1) := by decide +kernel
theorem dX3_setRules_46 : decode cX3_setRules 46 = .ok (.iload_n 1, 1) := by decide +kernel
theorem dX3_setRules_47 : decode cX3_setRules 47 = .ok (.putfield 19, 3) := by decide +kernel
theorem dX3_setRules_50 : decode cX3_setRules 50 = .ok (.aload_n 0, 1) := by decide +kernel
theorem dX3_setRules_51 : decode cX3_setRules 51 = .ok (.iload_n 2, 1) := by decide +kernel
theorem dX3_setRules_52 : decode cX3_setRules 52 = .ok (.putfield 22, 3) := by decide +kernel
theorem dX3_setRules_55 : decode cX3_setRules 55 = .ok (.aload_n 0, 1) := by decide +kernel
theorem dX3_setRules_56 : decode cX3_setRules 56 = .ok (.iload_n 3, 1) := by decide +kernel
theorem dX3_setRules_57 : decode cX3_setRules 57 = .ok (.putfield 25, 3) := by decide +kernel
theorem dX3_setRules_60 : decode cX3_setRules 60 = .ok (.aload_n 0, 1) := by decide +kernel
theorem dX3_setRules_61 : decode cX3_setRules 61 = .ok (.iload 4, 2) := by decide +kernel
theorem dX3_setRules_63 : decode cX3_setRules 63 = .ok (.putfield 28, 3) := by decide +kernel
theorem dX3_setRules_66 : decode cX3_setRules 66 = .ok (.iload 5, 2) := by decide +kernel
theorem dX3_setRules_68 : decode cX3_setRules 68 = .ok (.ireturn, 1) := by decide +kernel
set_option maxRecDepth 20000 in
theorem ggX3_addLine_X3_kindOf : GoodIn wsX3_addLine wsX3_kindOf := goodIn_r _ [16, 17, 18, 19, 20, 15, 21, 31, 32, 33, 34, 35, 36, 37, 38, 39, 40, 41, 42, 43, 44] (by decide +kernel) (by decide +kernel)
set_option maxRecDepth 20000 in
theorem gX3_addLine_X3_kindOf : GoodIn wsX3_addLine (wsV RX3 85 RX3 yX3_kindOf wsX3_kindOf) := goodIn_app (goodIn_of _ (by decide +kernel)) ggX3_addLine_X3_kindOf
set_option maxRecDepth 20000 in
theorem ggX3_addLine_X3_isWithin : GoodIn wsX3_addLine wsX3_isWithin := goodIn_r _ [21] (by decide +kernel) (by decide +kernel)
set_option maxRecDepth 20000 in
theorem gX3_addLine_X3_isWithin : GoodIn wsX3_addLine (va_wsS RX3 65 yX3_isWithin wsX3_isWithin) := goodIn_app (goodIn_of _ (by decide +kernel)) ggX3_addLine_X3_isWithin
set_option maxRecDepth 20000 in
theorem ggX3_addLine_X2_init : GoodIn wsX3_addLine wsX2_init := goodIn_r _ [24, 25, 26, 27, 28, 29, 30, 45, 46, 47] (by decide +kernel) (by decide +kernel)
set_option maxRecDepth 20000 in
theorem gX3_addLine_X2_init : GoodIn wsX3_addLine (wsX2_init) := ggX3_addLine_X2_init
theorem dX3_addLine_0 : decode cX3_addLine 0 = .ok (.aload_n 0, 1) := by decide +kernel
theorem dX3_addLine_1 : decode cX3_addLine 1 = .ok (.iload_n 1, 1) := by decide +kernel
theorem dX3_addLine_2 : decode cX3_addLine 2 = .ok (.invokevirtual 85, 3) := by decide +kernel
theorem dX3_addLine_5 : decode cX3_addLine 5 = .ok (.astore_n 3, 1) := by decide +kernel
theorem dX3_addLine_6 : decode cX3_addLine 6 = .ok (.aload_n 3, 1) := by decide +kernel
theorem dX3_addLine_7 : decode cX3_addLine 7 = .ok (.ifnonnull 11, 3) := by decide +kernel
theorem dX3_addLine_10 : decode cX3_addLine 10 = .ok (.new 78, 3) := by decide +kernel
theorem dX3_addLine_13 : decode cX3_addLine 13 = .ok (.dup, 1) := by decide +kernel
theorem dX3_addLine_14 : decode cX3_addLine 14 = .ok (.invokespecial 80, 3) := by decide +kernel
theorem dX3_addLine_17 : decode cX3_addLine 17 = .ok (.athrow, 1) := by decide +kernel
theorem dX3_addLine_18 : decode cX3_addLine 18 = .ok (.iload_n 2, 1) := by decide +kernel
theorem dX3_addLine_19 : decode cX3_addLine 19 = .ok (.iconst 1, 1) := by decide +kernel
theorem dX3_addLine_20 : decode cX3_addLine 20 = .ok (.bipush 20, 2) := by decide +kernel
theorem dX3_addLine_22 : decode cX3_addLine 22 = .ok (.invokestatic 65, 3) := by decide +kernel
theorem dX3_addLine_25 : decode cX3_addLine 25 = .ok (.ifCond .ne 11, 3) := by decide +kernel
theorem dX3_addLine_28 : decode cX3_addLine 28 = .ok (.new 69, 3) := by decide +kernel
theorem dX3_addLine_31 : decode cX3_addLine 31 = .ok (.dup, 1) := by decide +kernel
theorem dX3_addLine_32 : decode cX3_addLine 32 = .ok (.invokespecial 71, 3) := by decide +kernel
theorem dX3_addLine_35 : decode cX3_addLine 35 = .ok (.athrow, 1) := by decide +kernel
theorem dX3_addLine_36 : decode cX3_addLine 36 = .ok (.aload_n 0, 1) := by decide +kernel
theorem dX3_addLine_37 : decode cX3_addLine 37 = .ok (.getfield 62, 3) := by decide +kernel
theorem dX3_addLine_40 : decode cX3_addLine 40 = .ok (.ifCond .lt 12, 3) := by decide +kernel
theorem dX3_addLine_43 : decode cX3_addLine 43 = .ok (.aload_n 0, 1) := by decide +kernel
theorem dX3_addLine_44 : decode cX3_addLine 44 = .ok (.getfield 62, 3) := by decide +kernel
theorem dX3_addLine_47 : decode cX3_addLine 47 = .ok (.bipush 20, 2) := by decide +kernel
theorem dX3_addLine_49 : decode cX3_addLine 49 = .ok (.if_icmp .lt 11, 3) := by decide +kernel
theorem dX3_addLine_52 : decode cX3_addLine 52 = .ok (.new 72, 3) := by decide +kernel
theorem dX3_addLine_55 : decode cX3_addLine 55 = .ok (.dup, 1) := by decide +kernel
theorem dX3_addLine_56 : decode cX3_addLine 56 = .ok (.invokespecial 74, 3) := by decide +kernel
theorem dX3_addLine_59 : decode cX3_addLine 59 = .ok (.athrow, 1) := by decide +kernel
theorem dX3_addLine_60 : decode cX3_addLine 60 = .ok (.aload_n 0, 1) := by decide +kernel
theorem dX3_addLine_61 : decode cX3_addLine 61 = .ok (.getfield 62, 3) := by decide +kernel
theorem dX3_addLine_64 : decode cX3_addLine 64 = .ok (.istore 4, 2) := by decide +kernel
theorem dX3_addLine_66 : decode cX3_addLine 66 = .ok (.aload_n 0, 1) := by decide +kernel
theorem dX3_addLine_67 : decode cX3_addLine 67 = .ok (.getfield 58, 3) := by decide +kernel
theorem dX3_addLine_70 : decode cX3_addLine 70 = .ok (.iload 4, 2) := by decide +kernel
theorem dX3_addLine_72 : decode cX3_addLine 72 = .ok (.new 56, 3) := by decide +kernel
theorem dX3_addLine_75 : decode cX3_addLine 75 = .ok (.dup, 1) := by decide +kernel
theorem dX3_addLine_76 : decode cX3_addLine 76 = .ok (.aload_n 3, 1) := by decide +kernel
theorem dX3_addLine_77 : decode cX3_addLine 77 = .ok (.iload_n 2, 1) := by decide +kernel
theorem dX3_addLine_78 : decode cX3_addLine 78 = .ok (.invokespecial 149, 3) := by decide +kernel
theorem dX3_addLine_81 : decode cX3_addLine 81 = .ok (.aastore, 1) := by decide +kernel
theorem dX3_addLine_82 : decode cX3_addLine 82 = .ok (.aload_n 0, 1) := by decide +kernel
theorem dX3_addLine_83 : decode cX3_addLine 83 = .ok (.iload 4, 2) := by decide +kernel
theorem dX3_addLine_85 : decode cX3_addLine 85 = .ok (.iconst 1, 1) := by decide +kernel
theorem dX3_addLine_86 : decode cX3_addLine 86 = .ok (.iadd, 1) := by decide +kernel
theorem dX3_addLine_87 : decode cX3_addLine 87 = .ok (.putfield 62, 3) := by decide +kernel
theorem dX3_addLine_90 : decode cX3_addLine 90 = .ok (.iload 4, 2) := by decide +kernel
theorem dX3_addLine_92 : decode cX3_addLine 92 = .ok (.ireturn, 1) := by decide +kernel
set_option maxRecDepth 20000 in
theorem ggX3_stack_X3_lineOf : GoodIn wsX3_stack wsX3_lineOf := goodIn_r _ [9, 1, 10, 11, 12, 8, 13, 171, 172, 173, 174, 175, 176, 177, 178, 179, 180, 181, 182, 183, 184] (by decide +kernel) (by decide +kernel)
set_option maxRecDepth 20000 in
theorem gX3_stack_X3_lineOf : GoodIn wsX3_stack (wsV RX3 152 RX3 yX3_lineOf wsX3_lineOf) := goodIn_app (goodIn_of _ (by decide +kernel)) ggX3_stack_X3_lineOf
set_option maxRecDepth 20000 in
theorem ggX3_stack_X3_nextLine : GoodIn wsX3_stack wsX3_nextLine := goodIn_r _ [17, 1, 4, 2, 3, 5, 6, 7, 8, 9, 10, 11, 12, 13, 18, 19, 20, 21, 22, 23, 24, 25, 171, 172, 173, 174, 175, 176, 177, 178, 179, 180, 181, 182, 183, 184, 185, 186, 187, 188, 189, 190, 191, 192, 193, 194, 195] (by decide +kernel) (by decide +kernel)
set_option maxRecDepth 20000 in
theorem gX3_stack_X3_nextLine : GoodIn wsX3_stack (wsV RX3 159 RX3 yX3_nextLine wsX3_nextLine) := goodIn_app (goodIn_of _ (by decide +kernel)) ggX3_stack_X3_nextLine
set_option maxRecDepth 20000 in
theorem ggX3_stack_X3_putAtBest : GoodIn wsX3_stack wsX3_putAtBest := goodIn_r _ [29, 30, 31, 32, 33, 8, 34, 35, 36, 37, 38, 39, 40, 41, 42, 43, 44, 45, 46, 47, 48, 49, 50, 51, 52, 11, 12, 13, 53, 54, 55, 56, 57, 58, 59, 60, 61, 62, 63, 64, 65, 66, 67, 68, 69, 70, 71, 72, 73, 74, 75, 76, 77, 78, 79, 80, 81, 82, 83, 84, 85, 86, 87, 88, 89, 90, 91, 92, 93, 94, 95, 96, 97, 98, 99, 100, 101, 102, 103, 104, 105, 106, 107, 108, 109, 110, 111, 112, 113, 114, 115, 116, 117, 118, 119, 120, 121, 122, 123, 124, 125, 126, 127, 128, 129, 130, 131, 132, 133, 134, 135, 136, 137, 138, 139, 140, 141, 142, 143, 144, 145, 146, 147, 148, 149, 150, 151, 152, 153, 154, 155, 156, 157, 158, 159, 160, 161, 162, 163, 164, 165, 166, 167, 168, 169, 170, 171, 172, 173, 174, 175, 176, 177, 178, 179, 180, 181, 182, 183, 184, 196, 197, 198, 199, 200, 201, 202, 203, 204, 205, 206, 207, 208, 209, 210, 211, 212, 213, 188, 189, 190, 191, 192, 193, 194, 195] (by decide +kernel) (by decide +kernel)
set_option maxRecDepth 20000 in
theorem gX3_stack_X3_putAtBest : GoodIn wsX3_stack (wsV RX3 145 RX3 yX3_putAtBest wsX3_putAtBest) := goodIn_app (goodIn_of _ (by decide +kernel)) ggX3_stack_X3_putAtBest
theorem dX3_stack_0 : decode cX3_stack 0 = .ok (.iconst 0, 1) := by decide +kernel
theorem dX3_stack_1 : decode cX3_stack 1 = .ok (.istore_n 1, 1) := by decide +kernel
theorem dX3_stack_2 : decode cX3_stack 2 = .ok (.iload_n 1, 1) := by decide +kernel
theorem dX3_stack_3 : decode cX3_stack 3 = .ok (.aload_n 0, 1) := by decide +kernel
theorem dX3_stack_4 : decode cX3_stack 4 = .ok (.getfield 62, 3) := by decide +kernel
theorem dX3_stack_7 : decode cX3_stack 7 = .ok (.if_icmp .ge 24, 3) := by decide +kernel
theorem dX3_stack_10 : decode cX3_stack 10 = .ok (.aload_n 0, 1) := by decide +kernel
theorem dX3_stack_11 : decode cX3_stack 11 = .ok (.iload_n 1, 1) := by decide +kernel
theorem dX3_stack_12 : decode cX3_stack 12 = .ok (.invokevirtual 152, 3) := by decide +kernel
theorem dX3_stack_15 : decode cX3_stack 15 = .ok (.astore_n 2, 1) := by decide +kernel
theorem dX3_stack_16 : decode cX3_stack 16 = .ok (.aload_n 2, 1) := by decide +kernel
theorem dX3_stack_17 : decode cX3_stack 17 = .ok (.ifnull 8, 3) := by decide +kernel
theorem dX3_stack_20 : decode cX3_stack 20 = .ok (.aload_n 2, 1) := by decide +kernel
theorem dX3_stack_21 : decode cX3_stack 21 = .ok (.iconst 0, 1) := by decide +kernel
theorem dX3_stack_22 : decode cX3_stack 22 = .ok (.putfield 156, 3) := by decide +kernel
theorem dX3_stack_25 : decode cX3_stack 25 = .ok (.iinc 1 1, 3) := by decide +kernel
theorem dX3_stack_28 : decode cX3_stack 28 = .ok (.goto (-26), 3) := by decide +kernel
theorem dX3_stack_31 : decode cX3_stack 31 = .ok (.iconst 0, 1) := by decide +kernel
theorem dX3_stack_32 : decode cX3_stack 32 = .ok (.istore_n 1, 1) := by decide +kernel
theorem dX3_stack_33 : decode cX3_stack 33 = .ok (.iconst 0, 1) := by decide +kernel
theorem dX3_stack_34 : decode cX3_stack 34 = .ok (.istore_n 2, 1) := by decide +kernel
theorem dX3_stack_35 : decode cX3_stack 35 = .ok (.iload_n 2, 1) := by decide +kernel
theorem dX3_stack_36 : decode cX3_stack 36 = .ok (.bipush 80, 2) := by decide +kernel
theorem dX3_stack_38 : decode cX3_stack 38 = .ok (.if_icmp .ge 52, 3) := by decide +kernel
theorem dX3_stack_41 : decode cX3_stack 41 = .ok (.aload_n 0, 1) := by decide +kernel
theorem dX3_stack_42 : decode cX3_stack 42 = .ok (.invokevirtual 159, 3) := by decide +kernel
theorem dX3_stack_45 : decode cX3_stack 45 = .ok (.astore_n 3, 1) := by decide +kernel
theorem dX3_stack_46 : decode cX3_stack 46 = .ok (.aload_n 3, 1) := by decide +kernel
theorem dX3_stack_47 : decode cX3_stack 47 = .ok (.ifnonnull 5, 3) := by decide +kernel
theorem dX3_stack_50 : decode cX3_stack 50 = .ok (.iload_n 1, 1) := by decide +kernel
theorem dX3_stack_51 : decode cX3_stack 51 = .ok (.ireturn, 1) := by decide +kernel
theorem dX3_stack_52 : decode cX3_stack 52 = .ok (.aload_n 0, 1) := by decide +kernel
theorem dX3_stack_53 : decode cX3_stack 53 = .ok (.aload_n 3, 1) := by decide +kernel
theorem dX3_stack_54 : decode cX3_stack 54 = .ok (.getfield 163, 3) := by decide +kernel
theorem dX3_stack_57 : decode cX3_stack 57 = .ok (.invokevirtual 145, 3) := by decide +kernel
theorem dX3_stack_60 : decode cX3_stack 60 = .ok (.ifCond .eq 19, 3) := by decide +kernel
theorem dX3_stack_63 : decode cX3_stack 63 = .ok (.aload_n 3, 1) := by decide +kernel
theorem dX3_stack_64 : decode cX3_stack 64 = .ok (.dup, 1) := by decide +kernel
theorem dX3_stack_65 : decode cX3_stack 65 = .ok (.getfield 167, 3) := by decide +kernel
theorem dX3_stack_68 : decode cX3_stack 68 = .ok (.iconst 1, 1) := by decide +kernel
theorem dX3_stack_69 : decode cX3_stack 69 = .ok (.isub, 1) := by decide +kernel
theorem dX3_stack_70 : decode cX3_stack 70 = .ok (.putfield 167, 3) := by decide +kernel
theorem dX3_stack_73 : decode cX3_stack 73 = .ok (.iinc 1 1, 3) := by decide +kernel
theorem dX3_stack_76 : decode cX3_stack 76 = .ok (.goto 8, 3) := by decide +kernel
theorem dX3_stack_79 : decode cX3_stack 79 = .ok (.aload_n 3, 1) := by decide +kernel
theorem dX3_stack_80 : decode cX3_stack 80 = .ok (.iconst 1, 1) := by decide +kernel
theorem dX3_stack_81 : decode cX3_stack 81 = .ok (.putfield 156, 3) := by decide +kernel
theorem dX3_stack_84 : decode cX3_stack 84 = .ok (.iinc 2 1, 3) := by decide +kernel
theorem dX3_stack_87 : decode cX3_stack 87 = .ok (.goto (-52), 3) := by decide +kernel
theorem dX3_stack_90 : decode cX3_stack 90 = .ok (.iload_n 1, 1) := by decide +kernel
theorem dX3_stack_91 : decode cX3_stack 91 = .ok (.ireturn, 1) := by decide +kernel
theorem dX3_isWithin_0 : decode cX3_isWithin 0 = .ok (.iload_n 0, 1) := by decide +kernel
theorem dX3_isWithin_1 : decode cX3_isWithin 1 = .ok (.iload_n 1, 1) := by decide +kernel
theorem dX3_isWithin_2 : decode cX3_isWithin 2 = .ok (.if_icmp .lt 12, 3) := by decide +kernel
theorem dX3_isWithin_5 : decode cX3_isWithin 5 = .ok (.iload_n 0, 1) := by decide +kernel
theorem dX3_isWithin_6 : decode cX3_isWithin 6 = .ok (.iload_n 2, 1) := by decide +kernel
theorem dX3_isWithin_7 : decode cX3_isWithin 7 = .ok (.if_icmp .gt 7, 3) := by decide +kernel
theorem dX3_isWithin_10 : decode cX3_isWithin 10 = .ok (.iconst 1, 1) := by decide +kernel
theorem dX3_isWithin_11 : decode cX3_isWithin 11 = .ok (.goto 4, 3) := by decide +kernel
theorem dX3_isWithin_14 : decode cX3_isWithin 14 = .ok (.iconst 0, 1) := by decide +kernel
theorem dX3_isWithin_15 : decode cX3_isWithin 15 = .ok (.ireturn, 1) := by decide +kernel
set_option maxRecDepth 20000 in
theorem ggX3_kindOf_X3_isWithin : GoodIn wsX3_kindOf wsX3_isWithin := goodIn_r _ [6] (by decide +kernel) (by decide +kernel)
set_option maxRecDepth 20000 in
theorem gX3_kindOf_X3_isWithin : GoodIn wsX3_kindOf (va_wsS RX3 65 yX3_isWithin wsX3_isWithin) := goodIn_app (goodIn_of _ (by decide +kernel)) ggX3_kindOf_X3_isWithin
theorem dX3_kindOf_0 : decode cX3_kindOf 0 = .ok (.iload_n 1, 1) := by decide +kernel
theorem dX3_kindOf_1 : decode cX3_kindOf 1 = .ok (.iconst 0, 1) := by decide +kernel
theorem dX3_kindOf_2 : decode cX3_kindOf 2 = .ok (.bipush 9, 2) := by decide +kernel
theorem dX3_kindOf_4 : decode cX3_kindOf 4 = .ok (.invokestatic 65, 3) := by decide +kernel
theorem dX3_kindOf_7 : decode cX3_kindOf 7 = .ok (.ifCond .eq 20, 3) := by decide +kernel
theorem dX3_kindOf_10 : decode cX3_kindOf 10 = .ok (.iload_n 1, 1) := by decide +kernel
theorem dX3_kindOf_11 : decode cX3_kindOf 11 = .ok (.aload_n 0, 1) := by decide +kernel
theorem dX3_kindOf_12 : decode cX3_kindOf 12 = .ok (.getfield 15, 3) := by decide +kernel
theorem dX3_kindOf_15 : decode cX3_kindOf 15 = .ok (.if_icmp .ge 12, 3) := by decide +kernel
theorem dX3_kindOf_18 : decode cX3_kindOf 18 = .ok (.aload_n 0, 1) := by decide +kernel
theorem dX3_kindOf_19 : decode cX3_kindOf 19 = .ok (.getfield 11, 3) := by decide +kernel
theorem dX3_kindOf_22 : decode cX3_kindOf 22 = .ok (.iload_n 1, 1) := by decide +kernel
theorem dX3_kindOf_23 : decode cX3_kindOf 23 = .ok (.aaload, 1) := by decide +kernel
theorem dX3_kindOf_24 : decode cX3_kindOf 24 = .ok (.goto 4, 3) := by decide +kernel
theorem dX3_kindOf_27 : decode cX3_kindOf 27 = .ok (.aconst_null, 1) := by decide +kernel
theorem dX3_kindOf_28 : decode cX3_kindOf 28 = .ok (.areturn, 1) := by decide +kernel
set_option maxRecDepth 20000 in
theorem ggX3_lineOf_X3_isWithin : GoodIn wsX3_lineOf wsX3_isWithin := goodIn_r _ [6] (by decide +kernel) (by decide +kernel)
set_option maxRecDepth 20000 in
theorem gX3_lineOf_X3_isWithin : GoodIn wsX3_lineOf (va_wsS RX3 65 yX3_isWithin wsX3_isWithin) := goodIn_app (goodIn_of _ (by decide +kernel)) ggX3_lineOf_X3_isWithin
theorem dX3_lineOf_0 : decode cX3_lineOf 0 = .ok (.iload_n 1, 1) := by decide +kernel
theorem dX3_lineOf_1 : decode cX3_lineOf 1 = .ok (.iconst 0, 1) := by decide +kernel
theorem dX3_lineOf_2 : decode cX3_lineOf 2 = .ok (.bipush 19, 2) := by decide +kernel
theorem dX3_lineOf_4 : decode cX3_lineOf 4 = .ok (.invokestatic 65, 3) := by decide +kernel
theorem dX3_lineOf_7 : decode cX3_lineOf 7 = .ok (.ifCond .eq 20, 3) := by decide +kernel
theorem dX3_lineOf_10 : decode cX3_lineOf 10 = .ok (.iload_n 1, 1) := by decide +kernel
theorem dX3_lineOf_11 : decode cX3_lineOf 11 = .ok (.aload_n 0, 1) := by decide +kernel
theorem dX3_lineOf_12 : decode cX3_lineOf 12 = .ok (.getfield 62, 3) := by decide +kernel
theorem dX3_lineOf_15 : decode cX3_lineOf 15 = .ok (.if_icmp .ge 12, 3) := by decide +kernel
theorem dX3_lineOf_18 : decode cX3_lineOf 18 = .ok (.aload_n 0, 1) := by decide +kernel
theorem dX3_lineOf_19 : decode cX3_lineOf 19 = .ok (.getfield 58, 3) := by decide +kernel
theorem dX3_lineOf_22 : decode cX3_lineOf 22 = .ok (.iload_n 1, 1) := by decide +kernel
theorem dX3_lineOf_23 : decode cX3_lineOf 23 = .ok (.aaload, 1) := by decide +kernel
theorem dX3_lineOf_24 : decode cX3_lineOf 24 = .ok (.goto 4, 3) := by decide +kernel
theorem dX3_lineOf_27 : decode cX3_lineOf 27 = .ok (.aconst_null, 1) := by decide +kernel
theorem dX3_lineOf_28 : decode cX3_lineOf 28 = .ok (.areturn, 1) := by decide +kernel
theorem dX3_topOf_0 : decode cX3_topOf 0 = .ok (.iload_n 2, 1) := by decide +kernel
theorem dX3_topOf_1 : decode cX3_topOf 1 = .ok (.bipush 12, 2) := by decide +kernel
theorem dX3_topOf_3 : decode cX3_topOf 3 = .ok (.imul, 1) := by decide +kernel
theorem dX3_topOf_4 : decode cX3_topOf 4 = .ok (.iload_n 1, 1) := by decide +kernel
theorem dX3_topOf_5 : decode cX3_topOf 5 = .ok (.iadd, 1) := by decide +kernel
theorem dX3_topOf_6 : decode cX3_topOf 6 = .ok (.istore_n 3, 1) := by decide +kernel
theorem dX3_topOf_7 : decode cX3_topOf 7 = .ok (.iload_n 3, 1) := by decide +kernel
theorem dX3_topOf_8 : decode cX3_topOf 8 = .ok (.ifCond .lt 18, 3) := by decide +kernel
theorem dX3_topOf_11 : decode cX3_topOf 11 = .ok (.iload_n 3, 1) := by decide +kernel
theorem dX3_topOf_12 : decode cX3_topOf 12 = .ok (.bipush 120, 2) := by decide +kernel
theorem dX3_topOf_14 : decode cX3_topOf 14 = .ok (.if_icmp .ge 12, 3) := by decide +kernel
theorem dX3_topOf_17 : decode cX3_topOf 17 = .ok (.aload_n 0, 1) := by decide +kernel
theorem dX3_topOf_18 : decode cX3_topOf 18 = .ok (.getfield 47, 3) := by decide +kernel
theorem dX3_topOf_21 : decode cX3_topOf 21 = .ok (.iload_n 3, 1) := by decide +kernel
theorem dX3_topOf_22 : decode cX3_topOf 22 = .ok (.iaload, 1) := by decide +kernel
theorem dX3_topOf_23 : decode cX3_topOf 23 = .ok (.goto 4, 3) := by decide +kernel
theorem dX3_topOf_26 : decode cX3_topOf 26 = .ok (.iconst 0, 1) := by decide +kernel
theorem dX3_topOf_27 : decode cX3_topOf 27 = .ok (.ireturn, 1) := by decide +kernel
set_option maxRecDepth 20000 in
theorem ggX3_isInField_X3_isWithin : GoodIn wsX3_isInField wsX3_isWithin := goodIn_r _ [7] (by decide +kernel) (by decide +kernel)
set_option maxRecDepth 20000 in
theorem gX3_isInField_X3_isWithin : GoodIn wsX3_isInField (va_wsS RX3 65 yX3_isWithin wsX3_isWithin) := goodIn_app (goodIn_of _ (by decide +kernel)) ggX3_isInField_X3_isWithin
theorem dX3_isInField_0 : decode cX3_isInField 0 = .ok (.iload_n 3, 1) := by decide +kernel
theorem dX3_isInField_1 : decode cX3_isInField 1 = .ok (.ifCond .eq 12, 3) := by decide +kernel
theorem dX3_isInField_4 : decode cX3_isInField 4 = .ok (.aload_n 0, 1) := by decide +kernel
theorem dX3_isInField_5 : decode cX3_isInField 5 = .ok (.getfield 245, 3) := by decide +kernel
theorem dX3_isInField_8 : decode cX3_isInField 8 = .ok (.ifCond .ne 5, 3) := by decide +kernel
theorem dX3_isInField_11 : decode cX3_isInField 11 = .ok (.iconst 0, 1) := by decide +kernel
theorem dX3_isInField_12 : decode cX3_isInField 12 = .ok (.ireturn, 1) := by decide +kernel
theorem dX3_isInField_13 : decode cX3_isInField 13 = .ok (.iload_n 3, 1) := by decide +kernel
theorem dX3_isInField_14 : decode cX3_isInField 14 = .ok (.ifCond .eq 10, 3) := by decide +kernel
theorem dX3_isInField_17 : decode cX3_isInField 17 = .ok (.aload_n 0, 1) := by decide +kernel
theorem dX3_isInField_18 : decode cX3_isInField 18 = .ok (.getfield 248, 3) := by decide +kernel
theorem dX3_isInField_21 : decode cX3_isInField 21 = .ok (.goto 7, 3) := by decide +kernel
theorem dX3_isInField_24 : decode cX3_isInField 24 = .ok (.aload_n 0, 1) := by decide +kernel
theorem dX3_isInField_25 : decode cX3_isInField 25 = .ok (.getfield 249, 3) := by decide +kernel
theorem dX3_isInField_28 : decode cX3_isInField 28 = .ok (.istore 4, 2) := by decide +kernel
theorem dX3_isInField_30 : decode cX3_isInField 30 = .ok (.iload_n 3, 1) := by decide +kernel
theorem dX3_isInField_31 : decode cX3_isInField 31 = .ok (.ifCond .eq 10, 3) := by decide +kernel
theorem dX3_isInField_34 : decode cX3_isInField 34 = .ok (.aload_n 0, 1) := by decide +kernel
theorem dX3_isInField_35 : decode cX3_isInField 35 = .ok (.getfield 249, 3) := by decide +kernel
theorem dX3_isInField_38 : decode cX3_isInField 38 = .ok (.goto 7, 3) := by decide +kernel
theorem dX3_isInField_41 : decode cX3_isInField 41 = .ok (.aload_n 0, 1) := by decide +kernel
theorem dX3_isInField_42 : decode cX3_isInField 42 = .ok (.getfield 248, 3) := by decide +kernel
theorem dX3_isInField_45 : decode cX3_isInField 45 = .ok (.istore 5, 2) := by decide +kernel
theorem dX3_isInField_47 : decode cX3_isInField 47 = .ok (.iload_n 1, 1) := by decide +kernel
theorem dX3_isInField_48 : decode cX3_isInField 48 = .ok (.iconst 0, 1) := by decide +kernel
theorem dX3_isInField_49 : decode cX3_isInField 49 = .ok (.bipush 12, 2) := by decide +kernel
theorem dX3_isInField_51 : decode cX3_isInField 51 = .ok (.iload 4, 2) := by decide +kernel
theorem dX3_isInField_53 : decode cX3_isInField 53 = .ok (.isub, 1) := by decide +kernel
theorem dX3_isInField_54 : decode cX3_isInField 54 = .ok (.invokestatic 65, 3) := by decide +kernel
theorem dX3_isInField_57 : decode cX3_isInField 57 = .ok (.ifCond .eq 20, 3) := by decide +kernel
theorem dX3_isInField_60 : decode cX3_isInField 60 = .ok (.iload_n 2, 1) := by decide +kernel
theorem dX3_isInField_61 : decode cX3_isInField 61 = .ok (.iconst 0, 1) := by decide +kernel
theorem dX3_isInField_62 : decode cX3_isInField 62 = .ok (.bipush 10, 2) := by decide +kernel
theorem dX3_isInField_64 : decode cX3_isInField 64 = .ok (.iload 5, 2) := by decide +kernel
theorem dX3_isInField_66 : decode cX3_isInField 66 = .ok (.isub, 1) := by decide +kernel
theorem dX3_isInField_67 : decode cX3_isInField 67 = .ok (.invokestatic 65, 3) := by decide +kernel
theorem dX3_isInField_70 : decode cX3_isInField 70 = .ok (.ifCond .eq 7, 3) := by decide +kernel
theorem dX3_isInField_73 : decode cX3_isInField 73 = .ok (.iconst 1, 1) := by decide +kernel
theorem dX3_isInField_74 : decode cX3_isInField 74 = .ok (.goto 4, 3) := by decide +kernel
theorem dX3_isInField_77 : decode cX3_isInField 77 = .ok (.iconst 0, 1) := by decide +kernel
theorem dX3_isInField_78 : decode cX3_isInField 78 = .ok (.ireturn, 1) := by decide +kernel
set_option maxRecDepth 20000 in
theorem ggX3_letDown_X0_shape : GoodIn wsX3_letDown wsX0_shape := goodIn_r _ [14, 15, 16, 17, 18, 19, 20, 21, 22, 23, 24, 25, 64, 65, 66, 67, 68, 69, 70, 71, 46, 47, 48, 49, 50, 51, 52, 53, 54, 55, 56, 57, 58, 59, 60, 61, 62, 63] (by decide +kernel) (by decide +kernel)
set_option maxRecDepth 20000 in
theorem gX3_letDown_X0_shape : GoodIn wsX3_letDown (wsV RX3 250 RX0 yX0_shape wsX0_shape) := goodIn_app (goodIn_of _ (by decide +kernel)) ggX3_letDown_X0_shape
set_option maxRecDepth 20000 in
theorem ggX3_letDown_X3_topOf : GoodIn wsX3_letDown wsX3_topOf := goodIn_r _ [30, 31, 32, 33, 34, 35, 36, 37, 38, 39, 40, 41, 42, 43, 44, 45] (by decide +kernel) (by decide +kernel)
set_option maxRecDepth 20000 in
theorem gX3_letDown_X3_topOf : GoodIn wsX3_letDown (wsV RX3 124 RX3 yX3_topOf wsX3_topOf) := goodIn_app (goodIn_of _ (by decide +kernel)) ggX3_letDown_X3_topOf
theorem dX3_letDown_0 : decode cX3_letDown 0 = .ok (.aload_n 0, 1) := by decide +kernel
theorem dX3_letDown_1 : decode cX3_letDown 1 = .ok (.getfield 52, 3) := by decide +kernel
theorem dX3_letDown_4 : decode cX3_letDown 4 = .ok (.aload_n 1, 1) := by decide +kernel
theorem dX3_letDown_5 : decode cX3_letDown 5 = .ok (.iload 4, 2) := by decide +kernel
theorem dX3_letDown_7 : decode cX3_letDown 7 = .ok (.invokevirtual 250, 3) := by decide +kernel
theorem dX3_letDown_10 : decode cX3_letDown 10 = .ok (.aload_n 0, 1) := by decide +kernel
theorem dX3_letDown_11 : decode cX3_letDown 11 = .ok (.getfield 52, 3) := by decide +kernel
theorem dX3_letDown_14 : decode cX3_letDown 14 = .ok (.iload_n 2, 1) := by decide +kernel
theorem dX3_letDown_15 : decode cX3_letDown 15 = .ok (.putfield 182, 3) := by decide +kernel
theorem dX3_letDown_18 : decode cX3_letDown 18 = .ok (.aload_n 0, 1) := by decide +kernel
theorem dX3_letDown_19 : decode cX3_letDown 19 = .ok (.getfield 52, 3) := by decide +kernel
theorem dX3_letDown_22 : decode cX3_letDown 22 = .ok (.iload_n 3, 1) := by decide +kernel
theorem dX3_letDown_23 : decode cX3_letDown 23 = .ok (.putfield 176, 3) := by decide +kernel
theorem dX3_letDown_26 : decode cX3_letDown 26 = .ok (.iconst 0, 1) := by decide +kernel
theorem dX3_letDown_27 : decode cX3_letDown 27 = .ok (.istore 5, 2) := by decide +kernel
theorem dX3_letDown_29 : decode cX3_letDown 29 = .ok (.iconst 0, 1) := by decide +kernel
theorem dX3_letDown_30 : decode cX3_letDown 30 = .ok (.istore 6, 2) := by decide +kernel
theorem dX3_letDown_32 : decode cX3_letDown 32 = .ok (.iload_n 3, 1) := by decide +kernel
theorem dX3_letDown_33 : decode cX3_letDown 33 = .ok (.istore 7, 2) := by decide +kernel
theorem dX3_letDown_35 : decode cX3_letDown 35 = .ok (.iload 7, 2) := by decide +kernel
theorem dX3_letDown_37 : decode cX3_letDown 37 = .ok (.iload_n 3, 1) := by decide +kernel
theorem dX3_letDown_38 : decode cX3_letDown 38 = .ok (.aload_n 0, 1) := by decide +kernel
theorem dX3_letDown_39 : decode cX3_letDown 39 = .ok (.getfield 52, 3) := by decide +kernel
theorem dX3_letDown_42 : decode cX3_letDown 42 = .ok (.getfield 179, 3) := by decide +kernel
theorem dX3_letDown_45 : decode cX3_letDown 45 = .ok (.iadd, 1) := by decide +kernel
theorem dX3_letDown_46 : decode cX3_letDown 46 = .ok (.if_icmp .ge 69, 3) := by decide +kernel
theorem dX3_letDown_49 : decode cX3_letDown 49 = .ok (.iload_n 2, 1) := by decide +kernel
theorem dX3_letDown_50 : decode cX3_letDown 50 = .ok (.istore 8, 2) := by decide +kernel
theorem dX3_letDown_52 : decode cX3_letDown 52 = .ok (.iload 8, 2) := by decide +kernel
theorem dX3_letDown_54 : decode cX3_letDown 54 = .ok (.iload_n 2, 1) := by decide +kernel
theorem dX3_letDown_55 : decode cX3_letDown 55 = .ok (.aload_n 0, 1) := by decide +kernel
theorem dX3_letDown_56 : decode cX3_letDown 56 = .ok (.getfield 52, 3) := by decide +kernel
theorem dX3_letDown_59 : decode cX3_letDown 59 = .ok (.getfield 185, 3) := by decide +kernel
theorem dX3_letDown_62 : decode cX3_letDown 62 = .ok (.iadd, 1) := by decide +kernel
theorem dX3_letDown_63 : decode cX3_letDown 63 = .ok (.if_icmp .ge 46, 3) := by decide +kernel
theorem dX3_letDown_66 : decode cX3_letDown 66 = .ok (.aload_n 0, 1) := by decide +kernel
theorem dX3_letDown_67 : decode cX3_letDown 67 = .ok (.iload 8, 2) := by decide +kernel
theorem dX3_letDown_69 : decode cX3_letDown 69 = .ok (.iload 7, 2) := by decide +kernel
theorem dX3_letDown_71 : decode cX3_letDown 71 = .ok (.invokevirtual 124, 3) := by decide +kernel
theorem dX3_letDown_74 : decode cX3_letDown 74 = .ok (.istore 9, 2) := by decide +kernel
theorem dX3_letDown_76 : decode cX3_letDown 76 = .ok (.iload 9, 2) := by decide +kernel
theorem dX3_letDown_78 : decode cX3_letDown 78 = .ok (.iload 5, 2) := by decide +kernel
theorem dX3_letDown_80 : decode cX3_letDown 80 = .ok (.if_icmp .le 13, 3) := by decide +kernel
theorem dX3_letDown_83 : decode cX3_letDown 83 = .ok (.iload 9, 2) := by decide +kernel
theorem dX3_letDown_85 : decode cX3_letDown 85 = .ok (.istore 5, 2) := by decide +kernel
theorem dX3_letDown_87 : decode cX3_letDown 87 = .ok (.iconst 1, 1) := by decide +kernel
theorem dX3_letDown_88 : decode cX3_letDown 88 = .ok (.istore 6, 2) := by decide +kernel
theorem dX3_letDown_90 : decode cX3_letDown 90 = .ok (.goto 13, 3) := by decide +kernel
theorem dX3_letDown_93 : decode cX3_letDown 93 = .ok (.iload 9, 2) := by decide +kernel
theorem dX3_letDown_95 : decode cX3_letDown 95 = .ok (.iload 5, 2) := by decide +kernel
theorem dX3_letDown_97 : decode cX3_letDown 97 = .ok (.if_icmp .ne 6, 3) := by decide +kernel
theorem dX3_letDown_100 : decode cX3_letDown 100 = .ok (.iinc 6 1, 3) := by decide +kernel
theorem dX3_letDown_103 : decode cX3_letDown 103 = .ok (.iinc 8 1, 3) := by decide +kernel
theorem dX3_letDown_106 : decode cX3_letDown 106 = .ok (.goto (-54), 3) := by decide +kernel
theorem dX3_letDown_109 : decode cX3_letDown 109 = .ok (.iinc 7 1, 3) := by decide +kernel
theorem dX3_letDown_112 : decode cX3_letDown 112 = .ok (.goto (-77), 3) := by decide +kernel
theorem dX3_letDown_115 : decode cX3_letDown 115 = .ok (.aload_n 0, 1) := by decide +kernel
theorem dX3_letDown_116 : decode cX3_letDown 116 = .ok (.getfield 52, 3) := by decide +kernel
theorem dX3_letDown_119 : decode cX3_letDown 119 = .ok (.iload 5, 2) := by decide +kernel
theorem dX3_letDown_121 : decode cX3_letDown 121 = .ok (.putfield 131, 3) := by decide +kernel
theorem dX3_letDown_124 : decode cX3_letDown 124 = .ok (.aload_n 0, 1) := by decide +kernel
theorem dX3_letDown_125 : decode cX3_letDown 125 = .ok (.getfield 52, 3) := by decide +kernel
theorem dX3_letDown_128 : decode cX3_letDown 128 = .ok (.iload 5, 2) := by decide +kernel
theorem dX3_letDown_130 : decode cX3_letDown 130 = .ok (.aload_n 1, 1) := by decide +kernel
theorem dX3_letDown_131 : decode cX3_letDown 131 = .ok (.getfield 254, 3) := by decide +kernel
theorem dX3_letDown_134 : decode cX3_letDown 134 = .ok (.iadd, 1) := by decide +kernel
theorem dX3_letDown_135 : decode cX3_letDown 135 = .ok (.putfield 134, 3) := by decide +kernel
theorem dX3_letDown_138 : decode cX3_letDown 138 = .ok (.aload_n 0, 1) := by decide +kernel
theorem dX3_letDown_139 : decode cX3_letDown 139 = .ok (.getfield 52, 3) := by decide +kernel
theorem dX3_letDown_142 : decode cX3_letDown 142 = .ok (.iload 6, 2) := by decide +kernel
theorem dX3_letDown_144 : decode cX3_letDown 144 = .ok (.putfield 214, 3) := by decide +kernel
theorem dX3_letDown_147 : decode cX3_letDown 147 = .ok (.return_, 1) := by decide +kernel
theorem dX3_brokenRule_0 : decode cX3_brokenRule 0 = .ok (.aload_n 0, 1) := by decide +kernel
theorem dX3_brokenRule_1 : decode cX3_brokenRule 1 = .ok (.getfield 52, 3) := by decide +kernel
theorem dX3_brokenRule_4 : decode cX3_brokenRule 4 = .ok (.getfield 134, 3) := by decide +kernel
theorem dX3_brokenRule_7 : decode cX3_brokenRule 7 = .ok (.aload_n 0, 1) := by decide +kernel
theorem dX3_brokenRule_8 : decode cX3_brokenRule 8 = .ok (.getfield 19, 3) := by decide +kernel
theorem dX3_brokenRule_11 : decode cX3_brokenRule 11 = .ok (.if_icmp .le 5, 3) := by decide +kernel
theorem dX3_brokenRule_14 : decode cX3_brokenRule 14 = .ok (.iconst 2, 1) := by decide +kernel
theorem dX3_brokenRule_15 : decode cX3_brokenRule 15 = .ok (.ireturn, 1) := by decide +kernel
theorem dX3_brokenRule_16 : decode cX3_brokenRule 16 = .ok (.aload_n 1, 1) := by decide +kernel
theorem dX3_brokenRule_17 : decode cX3_brokenRule 17 = .ok (.getfield 267, 3) := by decide +kernel
theorem dX3_brokenRule_20 : decode cX3_brokenRule 20 = .ok (.ifCond .eq 15, 3) := by decide +kernel
theorem dX3_brokenRule_23 : decode cX3_brokenRule 23 = .ok (.aload_n 0, 1) := by decide +kernel
theorem dX3_brokenRule_24 : decode cX3_brokenRule 24 = .ok (.getfield 52, 3) := by decide +kernel
theorem dX3_brokenRule_27 : decode cX3_brokenRule 27 = .ok (.getfield 131, 3) := by decide +kernel
theorem dX3_brokenRule_30 : decode cX3_brokenRule 30 = .ok (.ifCond .le 5, 3) := by decide +kernel
theorem dX3_brokenRule_33 : decode cX3_brokenRule 33 = .ok (.iconst 3, 1) := by decide +kernel
theorem dX3_brokenRule_34 : decode cX3_brokenRule 34 = .ok (.ireturn, 1) := by decide +kernel
theorem dX3_brokenRule_35 : decode cX3_brokenRule 35 = .ok (.aload_n 0, 1) := by decide +kernel
theorem dX3_brokenRule_36 : decode cX3_brokenRule 36 = .ok (.getfield 52, 3) := by decide +kernel
theorem dX3_brokenRule_39 : decode cX3_brokenRule 39 = .ok (.getfield 214, 3) := by decide +kernel
theorem dX3_brokenRule_42 : decode cX3_brokenRule 42 = .ok (.bipush 100, 2) := by decide +kernel
theorem dX3_brokenRule_44 : decode cX3_brokenRule 44 = .ok (.imul, 1) := by decide +kernel
theorem dX3_brokenRule_45 : decode cX3_brokenRule 45 = .ok (.aload_n 0, 1) := by decide +kernel
theorem dX3_brokenRule_46 : decode cX3_brokenRule 46 = .ok (.getfield 52, 3) := by decide +kernel
theorem dX3_brokenRule_49 : decode cX3_brokenRule 49 = .ok (.invokevirtual 188, 3) := by decide +kernel
theorem dX3_brokenRule_52 : decode cX3_brokenRule 52 = .ok (.aload_n 0, 1) := by decide +kernel
theorem dX3_brokenRule_53 : decode cX3_brokenRule 53 = .ok (.getfield 22, 3) := by decide +kernel
theorem dX3_brokenRule_56 : decode cX3_brokenRule 56 = .ok (.imul, 1) := by decide +kernel
theorem dX3_brokenRule_57 : decode cX3_brokenRule 57 = .ok (.if_icmp .ge 5, 3) := by decide +kernel
theorem dX3_brokenRule_60 : decode cX3_brokenRule 60 = .ok (.iconst 4, 1) := by decide +kernel
theorem dX3_brokenRule_61 : decode cX3_brokenRule 61 = .ok (.ireturn, 1) := by decide +kernel
theorem dX3_brokenRule_62 : decode cX3_brokenRule 62 = .ok (.aload_n 0, 1) := by decide +kernel
theorem dX3_brokenRule_63 : decode cX3_brokenRule 63 = .ok (.getfield 28, 3) := by decide +kernel
theorem dX3_brokenRule_66 : decode cX3_brokenRule 66 = .ok (.ifCond .eq 22, 3) := by decide +kernel
theorem dX3_brokenRule_69 : decode cX3_brokenRule 69 = .ok (.aload_n 0, 1) := by decide +kernel
theorem dX3_brokenRule_70 : decode cX3_brokenRule 70 = .ok (.getfield 52, 3) := by decide +kernel
theorem dX3_brokenRule_73 : decode cX3_brokenRule 73 = .ok (.getfield 131, 3) := by decide +kernel
theorem dX3_brokenRule_76 : decode cX3_brokenRule 76 = .ok (.ifCond .le 12, 3) := by decide +kernel
theorem dX3_brokenRule_79 : decode cX3_brokenRule 79 = .ok (.aload_n 0, 1) := by decide +kernel
theorem dX3_brokenRule_80 : decode cX3_brokenRule 80 = .ok (.invokevirtual 270, 3) := by decide +kernel
theorem dX3_brokenRule_83 : decode cX3_brokenRule 83 = .ok (.ifCond .ne 5, 3) := by decide +kernel
theorem dX3_brokenRule_86 : decode cX3_brokenRule 86 = .ok (.iconst 5, 1) := by decide +kernel
theorem dX3_brokenRule_87 : decode cX3_brokenRule 87 = .ok (.ireturn, 1) := by decide +kernel
theorem dX3_brokenRule_88 : decode cX3_brokenRule 88 = .ok (.aload_n 0, 1) := by decide +kernel
theorem dX3_brokenRule_89 : decode cX3_brokenRule 89 = .ok (.invokevirtual 274, 3) := by decide +kernel
theorem dX3_brokenRule_92 : decode cX3_brokenRule 92 = .ok (.aload_n 0, 1) := by decide +kernel
theorem dX3_brokenRule_93 : decode cX3_brokenRule 93 = .ok (.invokevirtual 277, 3) := by decide +kernel
theorem dX3_brokenRule_96 : decode cX3_brokenRule 96 = .ok (.ifCond .eq 6, 3) := by decide +kernel
theorem dX3_brokenRule_99 : decode cX3_brokenRule 99 = .ok (.bipush 6, 2) := by decide +kernel
theorem dX3_brokenRule_101 : decode cX3_brokenRule 101 = .ok (.ireturn, 1) := by decide +kernel
theorem dX3_brokenRule_102 : decode cX3_brokenRule 102 = .ok (.aload_n 0, 1) := by decide +kernel
theorem dX3_brokenRule_103 : decode cX3_brokenRule 103 = .ok (.getfield 44, 3) := by decide +kernel
theorem dX3_brokenRule_106 : decode cX3_brokenRule 106 = .ok (.aload_n 0, 1) := by decide +kernel
theorem dX3_brokenRule_107 : decode cX3_brokenRule 107 = .ok (.getfield 52, 3) := by decide +kernel
theorem dX3_brokenRule_110 : decode cX3_brokenRule 110 = .ok (.getfield 107, 3) := by decide +kernel
theorem dX3_brokenRule_113 : decode cX3_brokenRule 113 = .ok (.iadd, 1) := by decide +kernel
theorem dX3_brokenRule_114 : decode cX3_brokenRule 114 = .ok (.aload_n 0, 1) := by decide +kernel
theorem dX3_brokenRule_115 : decode cX3_brokenRule 115 = .ok (.getfield 25, 3) := by decide +kernel
theorem dX3_brokenRule_118 : decode cX3_brokenRule 118 = .ok (.if_icmp .le 8, 3) := by decide +kernel
theorem dX3_brokenRule_121 : decode cX3_brokenRule 121 = .ok (.bipush 7, 2) := by decide +kernel
theorem dX3_brokenRule_123 : decode cX3_brokenRule 123 = .ok (.goto 4, 3) := by decide +kernel
theorem dX3_brokenRule_126 : decode cX3_brokenRule 126 = .ok (.iconst 0, 1) := by decide +kernel
theorem dX3_brokenRule_127 : decode cX3_brokenRule 127 = .ok (.ireturn, 1) := by decide +kernel
set_option maxRecDepth 20000 in
theorem ggX3_bestPlace_X3_xOf : GoodIn wsX3_bestPlace wsX3_xOf := goodIn_r _ [7] (by decide +kernel) (by decide +kernel)
set_option maxRecDepth 20000 in
theorem gX3_bestPlace_X3_xOf : GoodIn wsX3_bestPlace (va_wsS RX3 291 yX3_xOf wsX3_xOf) := goodIn_app (goodIn_of _ (by decide +kernel)) ggX3_bestPlace_X3_xOf
set_option maxRecDepth 20000 in
theorem ggX3_bestPlace_X3_yOf : GoodIn wsX3_bestPlace wsX3_yOf := goodIn_r _ [10] (by decide +kernel) (by decide +kernel)
set_option maxRecDepth 20000 in
theorem gX3_bestPlace_X3_yOf : GoodIn wsX3_bestPlace (va_wsS RX3 294 yX3_yOf wsX3_yOf) := goodIn_app (goodIn_of _ (by decide +kernel)) ggX3_bestPlace_X3_yOf
set_option maxRecDepth 20000 in
theorem ggX3_bestPlace_X3_isTurnedIn : GoodIn wsX3_bestPlace wsX3_isTurnedIn := goodIn_r _ [13] (by decide +kernel) (by decide +kernel)
set_option maxRecDepth 20000 in
theorem gX3_bestPlace_X3_isTurnedIn : GoodIn wsX3_bestPlace (va_wsS RX3 297 yX3_isTurnedIn wsX3_isTurnedIn) := goodIn_app (goodIn_of _ (by decide +kernel)) ggX3_bestPlace_X3_isTurnedIn
set_option maxRecDepth 20000 in
theorem ggX3_bestPlace_X3_isInField : GoodIn wsX3_bestPlace wsX3_isInField := goodIn_r _ [16, 17, 18, 19, 20, 21, 6, 22, 157, 158, 159, 160, 161, 162, 163, 164] (by decide +kernel) (by decide +kernel)
set_option maxRecDepth 20000 in
theorem gX3_bestPlace_X3_isInField : GoodIn wsX3_bestPlace (va_wsS RX3 280 yX3_isInField wsX3_isInField) := goodIn_app (goodIn_of _ (by decide +kernel)) ggX3_bestPlace_X3_isInField
set_option maxRecDepth 20000 in
theorem ggX3_bestPlace_X3_letDown : GoodIn wsX3_bestPlace wsX3_letDown := goodIn_r _ [26, 1, 27, 28, 29, 30, 2, 31, 32, 3, 33, 34, 35, 36, 37, 38, 39, 40, 41, 42, 43, 44, 45, 46, 47, 48, 49, 50, 51, 6, 52, 53, 125, 126, 127, 128, 129, 130, 131, 132, 133, 134, 135, 136, 137, 138, 139, 140, 141, 142, 143, 144, 145, 146, 147, 148, 149, 150, 151, 152, 153, 154, 155, 156, 157, 158, 159, 160, 161, 162, 163, 164] (by decide +kernel) (by decide +kernel)
set_option maxRecDepth 20000 in
theorem gX3_bestPlace_X3_letDown : GoodIn wsX3_bestPlace (wsV RX3 284 RX3 yX3_letDown wsX3_letDown) := goodIn_app (goodIn_of _ (by decide +kernel)) ggX3_bestPlace_X3_letDown
set_option maxRecDepth 20000 in
theorem ggX3_bestPlace_X3_brokenRule : GoodIn wsX3_bestPlace wsX3_brokenRule := goodIn_r _ [57, 1, 32, 58, 59, 2, 3, 60, 61, 62, 63, 64, 65, 66, 67, 36, 68, 47, 48, 69, 70, 71, 6, 72, 27, 30, 28, 29, 73, 74, 75, 76, 49, 50, 51, 52, 53, 77, 78, 79, 80, 81, 82, 83, 84, 85, 86, 87, 88, 89, 90, 91, 92, 93, 94, 95, 96, 97, 98, 99, 100, 101, 102, 103, 104, 105, 106, 107, 108, 109, 110, 111, 112, 113, 114, 115, 116, 117, 118, 119, 120, 121, 122, 123, 124, 41, 125, 126, 127, 128, 129, 130, 131, 132, 133, 134, 135, 136, 137, 138, 139, 140, 141, 142, 143, 144, 145, 146, 147, 148, 149, 150, 151, 152, 153, 154, 155, 156, 157, 158, 159, 160, 161, 162, 163, 164] (by decide +kernel) (by decide +kernel)
set_option maxRecDepth 20000 in
theorem gX3_bestPlace_X3_brokenRule : GoodIn wsX3_bestPlace (wsV RX3 288 RX3 yX3_brokenRule wsX3_brokenRule) := goodIn_app (goodIn_of _ (by decide +kernel)) ggX3_bestPlace_X3_brokenRule
theorem dX3_bestPlace_0 : decode cX3_bestPlace 0 = .ok (.iconst (-1), 1) := by decide +kernel
theorem dX3_bestPlace_1 : decode cX3_bestPlace 1 = .ok (.istore_n 2, 1) := by decide +kernel
theorem dX3_bestPlace_2 : decode cX3_bestPlace 2 = .ok (.iconst 0, 1) := by decide +kernel
theorem dX3_bestPlace_3 : decode cX3_bestPlace 3 = .ok (.istore_n 3, 1) := by decide +kernel
theorem dX3_bestPlace_4 : decode cX3_bestPlace 4 = .ok (.iconst 0, 1) := by decide +kernel
theorem dX3_bestPlace_5 : decode cX3_bestPlace 5 = .ok (.istore 4, 2) := by decide +kernel
theorem dX3_bestPlace_7 : decode cX3_bestPlace 7 = .ok (.iconst 0, 1) := by decide +kernel
theorem dX3_bestPlace_8 : decode cX3_bestPlace 8 = .ok (.istore 5, 2) := by decide +kernel
theorem dX3_bestPlace_10 : decode cX3_bestPlace 10 = .ok (.iload 5, 2) := by decide +kernel
theorem dX3_bestPlace_12 : decode cX3_bestPlace 12 = .ok (.sipush 240, 3) := by decide +kernel
theorem dX3_bestPlace_15 : decode cX3_bestPlace 15 = .ok (.if_icmp .ge 139, 3) := by decide +kernel
theorem dX3_bestPlace_18 : decode cX3_bestPlace 18 = .ok (.aload_n 1, 1) := by decide +kernel
theorem dX3_bestPlace_19 : decode cX3_bestPlace 19 = .ok (.iload 5, 2) := by decide +kernel
theorem dX3_bestPlace_21 : decode cX3_bestPlace 21 = .ok (.invokestatic 291, 3) := by decide +kernel
theorem dX3_bestPlace_24 : decode cX3_bestPlace 24 = .ok (.iload 5, 2) := by decide +kernel
theorem dX3_bestPlace_26 : decode cX3_bestPlace 26 = .ok (.invokestatic 294, 3) := by decide +kernel
theorem dX3_bestPlace_29 : decode cX3_bestPlace 29 = .ok (.iload 5, 2) := by decide +kernel
theorem dX3_bestPlace_31 : decode cX3_bestPlace 31 = .ok (.invokestatic 297, 3) := by decide +kernel
theorem dX3_bestPlace_34 : decode cX3_bestPlace 34 = .ok (.invokestatic 280, 3) := by decide +kernel
theorem dX3_bestPlace_37 : decode cX3_bestPlace 37 = .ok (.ifCond .ne 6, 3) := by decide +kernel
theorem dX3_bestPlace_40 : decode cX3_bestPlace 40 = .ok (.goto 108, 3) := by decide +kernel
theorem dX3_bestPlace_43 : decode cX3_bestPlace 43 = .ok (.aload_n 0, 1) := by decide +kernel
theorem dX3_bestPlace_44 : decode cX3_bestPlace 44 = .ok (.aload_n 1, 1) := by decide +kernel
theorem dX3_bestPlace_45 : decode cX3_bestPlace 45 = .ok (.iload 5, 2) := by decide +kernel
theorem dX3_bestPlace_47 : decode cX3_bestPlace 47 = .ok (.invokestatic 291, 3) := by decide +kernel
theorem dX3_bestPlace_50 : decode cX3_bestPlace 50 = .ok (.iload 5, 2) := by decide +kernel
theorem dX3_bestPlace_52 : decode cX3_bestPlace 52 = .ok (.invokestatic 294, 3) := by decide +kernel
theorem dX3_bestPlace_55 : decode cX3_bestPlace 55 = .ok (.iload 5, 2) := by decide +kernel
theorem dX3_bestPlace_57 : decode cX3_bestPlace 57 = .ok (.invokestatic 297, 3) := by decide +kernel
theorem dX3_bestPlace_60 : decode cX3_bestPlace 60 = .ok (.invokevirtual 284, 3) := by decide +kernel
theorem dX3_bestPlace_63 : decode cX3_bestPlace 63 = .ok (.iload_n 2, 1) := by decide +kernel
theorem dX3_bestPlace_64 : decode cX3_bestPlace 64 = .ok (.iconst (-1), 1) := by decide +kernel
theorem dX3_bestPlace_65 : decode cX3_bestPlace 65 = .ok (.if_icmp .eq 37, 3) := by decide +kernel
theorem dX3_bestPlace_68 : decode cX3_bestPlace 68 = .ok (.aload_n 0, 1) := by decide +kernel
theorem dX3_bestPlace_69 : decode cX3_bestPlace 69 = .ok (.getfield 52, 3) := by decide +kernel
theorem dX3_bestPlace_72 : decode cX3_bestPlace 72 = .ok (.getfield 131, 3) := by decide +kernel
theorem dX3_bestPlace_75 : decode cX3_bestPlace 75 = .ok (.iload_n 3, 1) := by decide +kernel
theorem dX3_bestPlace_76 : decode cX3_bestPlace 76 = .ok (.if_icmp .lt 26, 3) := by decide +kernel
theorem dX3_bestPlace_79 : decode cX3_bestPlace 79 = .ok (.aload_n 0, 1) := by decide +kernel
theorem dX3_bestPlace_80 : decode cX3_bestPlace 80 = .ok (.getfield 52, 3) := by decide +kernel
theorem dX3_bestPlace_83 : decode cX3_bestPlace 83 = .ok (.getfield 131, 3) := by decide +kernel
theorem dX3_bestPlace_86 : decode cX3_bestPlace 86 = .ok (.iload_n 3, 1) := by decide +kernel
theorem dX3_bestPlace_87 : decode cX3_bestPlace 87 = .ok (.if_icmp .ne 19, 3) := by decide +kernel
theorem dX3_bestPlace_90 : decode cX3_bestPlace 90 = .ok (.aload_n 0, 1) := by decide +kernel
theorem dX3_bestPlace_91 : decode cX3_bestPlace 91 = .ok (.getfield 52, 3) := by decide +kernel
theorem dX3_bestPlace_94 : decode cX3_bestPlace 94 = .ok (.getfield 214, 3) := by decide +kernel
theorem dX3_bestPlace_97 : decode cX3_bestPlace 97 = .ok (.iload 4, 2) := by decide +kernel
theorem dX3_bestPlace_99 : decode cX3_bestPlace 99 = .ok (.if_icmp .le 7, 3) := by decide +kernel
theorem dX3_bestPlace_102 : decode cX3_bestPlace 102 = .ok (.iconst 1, 1) := by decide +kernel
theorem dX3_bestPlace_103 : decode cX3_bestPlace 103 = .ok (.goto 4, 3) := by decide +kernel
theorem dX3_bestPlace_106 : decode cX3_bestPlace 106 = .ok (.iconst 0, 1) := by decide +kernel
theorem dX3_bestPlace_107 : decode cX3_bestPlace 107 = .ok (.istore 6, 2) := by decide +kernel
theorem dX3_bestPlace_109 : decode cX3_bestPlace 109 = .ok (.iload 6, 2) := by decide +kernel
theorem dX3_bestPlace_111 : decode cX3_bestPlace 111 = .ok (.ifCond .eq 37, 3) := by decide +kernel
theorem dX3_bestPlace_114 : decode cX3_bestPlace 114 = .ok (.aload_n 0, 1) := by decide +kernel
theorem dX3_bestPlace_115 : decode cX3_bestPlace 115 = .ok (.aload_n 1, 1) := by decide +kernel
theorem dX3_bestPlace_116 : decode cX3_bestPlace 116 = .ok (.invokevirtual 288, 3) := by decide +kernel
theorem dX3_bestPlace_119 : decode cX3_bestPlace 119 = .ok (.ifCond .ne 29, 3) := by decide +kernel
theorem dX3_bestPlace_122 : decode cX3_bestPlace 122 = .ok (.iload 5, 2) := by decide +kernel
theorem dX3_bestPlace_124 : decode cX3_bestPlace 124 = .ok (.istore_n 2, 1) := by decide +kernel
theorem dX3_bestPlace_125 : decode cX3_bestPlace 125 = .ok (.aload_n 0, 1) := by decide +kernel
theorem dX3_bestPlace_126 : decode cX3_bestPlace 126 = .ok (.getfield 52, 3) := by decide +kernel
theorem dX3_bestPlace_129 : decode cX3_bestPlace 129 = .ok (.getfield 131, 3) := by decide +kernel
theorem dX3_bestPlace_132 : decode cX3_bestPlace 132 = .ok (.istore_n 3, 1) := by decide +kernel
theorem dX3_bestPlace_133 : decode cX3_bestPlace 133 = .ok (.aload_n 0, 1) := by decide +kernel
theorem dX3_bestPlace_134 : decode cX3_bestPlace 134 = .ok (.getfield 52, 3) := by decide +kernel
theorem dX3_bestPlace_137 : decode cX3_bestPlace 137 = .ok (.getfield 214, 3) := by decide +kernel
theorem dX3_bestPlace_140 : decode cX3_bestPlace 140 = .ok (.istore 4, 2) := by decide +kernel
theorem dX3_bestPlace_142 : decode cX3_bestPlace 142 = .ok (.iload_n 3, 1) := by decide +kernel
theorem dX3_bestPlace_143 : decode cX3_bestPlace 143 = .ok (.ifCond .ne 5, 3) := by decide +kernel
theorem dX3_bestPlace_146 : decode cX3_bestPlace 146 = .ok (.iload_n 2, 1) := by decide +kernel
theorem dX3_bestPlace_147 : decode cX3_bestPlace 147 = .ok (.ireturn, 1) := by decide +kernel
theorem dX3_bestPlace_148 : decode cX3_bestPlace 148 = .ok (.iinc 5 1, 3) := by decide +kernel
theorem dX3_bestPlace_151 : decode cX3_bestPlace 151 = .ok (.goto (-141), 3) := by decide +kernel
theorem dX3_bestPlace_154 : decode cX3_bestPlace 154 = .ok (.iload_n 2, 1) := by decide +kernel
theorem dX3_bestPlace_155 : decode cX3_bestPlace 155 = .ok (.ireturn, 1) := by decide +kernel
theorem dX3_xOf_0 : decode cX3_xOf 0 = .ok (.iload_n 0, 1) := by decide +kernel
theorem dX3_xOf_1 : decode cX3_xOf 1 = .ok (.iconst 2, 1) := by decide +kernel
theorem dX3_xOf_2 : decode cX3_xOf 2 = .ok (.idiv, 1) := by decide +kernel
theorem dX3_xOf_3 : decode cX3_xOf 3 = .ok (.bipush 12, 2) := by decide +kernel
theorem dX3_xOf_5 : decode cX3_xOf 5 = .ok (.irem, 1) := by decide +kernel
theorem dX3_xOf_6 : decode cX3_xOf 6 = .ok (.ireturn, 1) := by decide +kernel
theorem dX3_yOf_0 : decode cX3_yOf 0 = .ok (.iload_n 0, 1) := by decide +kernel
theorem dX3_yOf_1 : decode cX3_yOf 1 = .ok (.iconst 2, 1) := by decide +kernel
theorem dX3_yOf_2 : decode cX3_yOf 2 = .ok (.idiv, 1) := by decide +kernel
theorem dX3_yOf_3 : decode cX3_yOf 3 = .ok (.bipush 12, 2) := by decide +kernel
theorem dX3_yOf_5 : decode cX3_yOf 5 = .ok (.idiv, 1) := by decide +kernel
theorem dX3_yOf_6 : decode cX3_yOf 6 = .ok (.ireturn, 1) := by decide +kernel
theorem dX3_isTurnedIn_0 : decode cX3_isTurnedIn 0 = .ok (.iload_n 0, 1) := by decide +kernel
theorem dX3_isTurnedIn_1 : decode cX3_isTurnedIn 1 = .ok (.iconst 2, 1) := by decide +kernel
theorem dX3_isTurnedIn_2 : decode cX3_isTurnedIn 2 = .ok (.irem, 1) := by decide +kernel
theorem dX3_isTurnedIn_3 : decode cX3_isTurnedIn 3 = .ok (.iconst 1, 1) := by decide +kernel
theorem dX3_isTurnedIn_4 : decode cX3_isTurnedIn 4 = .ok (.if_icmp .ne 7, 3) := by decide +kernel
theorem dX3_isTurnedIn_7 : decode cX3_isTurnedIn 7 = .ok (.iconst 1, 1) := by decide +kernel
theorem dX3_isTurnedIn_8 : decode cX3_isTurnedIn 8 = .ok (.goto 4, 3) := by decide +kernel
theorem dX3_isTurnedIn_11 : decode cX3_isTurnedIn 11 = .ok (.iconst 0, 1) := by decide +kernel
theorem dX3_isTurnedIn_12 : decode cX3_isTurnedIn 12 = .ok (.ireturn, 1) := by decide +kernel
set_option maxRecDepth 20000 in
theorem ggX3_putAtBest_X3_bestPlace : GoodIn wsX3_putAtBest wsX3_bestPlace := goodIn_r _ [6, 7, 8, 9, 10, 11, 5, 12, 13, 14, 15, 16, 17, 18, 19, 20, 21, 22, 23, 24, 25, 26, 27, 28, 29, 30, 31, 32, 33, 34, 35, 36, 37, 38, 39, 40, 41, 42, 43, 44, 45, 46, 47, 48, 49, 50, 51, 52, 53, 54, 55, 56, 57, 58, 59, 60, 61, 62, 63, 64, 65, 66, 67, 68, 69, 70, 71, 72, 73, 74, 75, 76, 77, 78, 79, 80, 81, 82, 83, 84, 85, 86, 1, 87, 88, 89, 90, 91, 92, 93, 94, 95, 96, 97, 98, 99, 100, 101, 102, 103, 104, 105, 106, 107, 108, 109, 110, 111, 112, 113, 114, 115, 116, 117, 118, 119, 120, 121, 122, 123, 124, 125, 126, 127, 128, 146, 147, 148, 149, 150, 151, 152, 153, 154, 155, 156, 157, 158, 159, 160, 161, 162, 163, 164, 165, 166, 167, 168, 169, 170, 171, 172, 173, 174, 175, 176, 177, 178, 179, 180, 181, 182, 183, 184, 185] (by decide +kernel) (by decide +kernel)
set_option maxRecDepth 20000 in
theorem gX3_putAtBest_X3_bestPlace : GoodIn wsX3_putAtBest (wsV RX3 141 RX3 yX3_bestPlace wsX3_bestPlace) := goodIn_app (goodIn_of _ (by decide +kernel)) ggX3_putAtBest_X3_bestPlace
set_option maxRecDepth 20000 in
theorem ggX3_putAtBest_X3_xOf : GoodIn wsX3_putAtBest wsX3_xOf := goodIn_r _ [12] (by decide +kernel) (by decide +kernel)
set_option maxRecDepth 20000 in
theorem gX3_putAtBest_X3_xOf : GoodIn wsX3_putAtBest (va_wsS RX3 291 yX3_xOf wsX3_xOf) := goodIn_app (goodIn_of _ (by decide +kernel)) ggX3_putAtBest_X3_xOf
set_option maxRecDepth 20000 in
theorem ggX3_putAtBest_X3_yOf : GoodIn wsX3_putAtBest wsX3_yOf := goodIn_r _ [15] (by decide +kernel) (by decide +kernel)
set_option maxRecDepth 20000 in
theorem gX3_putAtBest_X3_yOf : GoodIn wsX3_putAtBest (va_wsS RX3 294 yX3_yOf wsX3_yOf) := goodIn_app (goodIn_of _ (by decide +kernel)) ggX3_putAtBest_X3_yOf
set_option maxRecDepth 20000 in
theorem ggX3_putAtBest_X3_isTurnedIn : GoodIn wsX3_putAtBest wsX3_isTurnedIn := goodIn_r _ [18] (by decide +kernel) (by decide +kernel)
set_option maxRecDepth 20000 in
theorem gX3_putAtBest_X3_isTurnedIn : GoodIn wsX3_putAtBest (va_wsS RX3 297 yX3_isTurnedIn wsX3_isTurnedIn) := goodIn_app (goodIn_of _ (by decide +kernel)) ggX3_putAtBest_X3_isTurnedIn
set_option maxRecDepth 20000 in
theorem ggX3_putAtBest_X3_letDown : GoodIn wsX3_putAtBest wsX3_letDown := goodIn_r _ [31, 7, 32, 33, 34, 35, 8, 36, 37, 9, 38, 39, 40, 41, 42, 43, 44, 45, 46, 47, 48, 49, 50, 51, 52, 53, 54, 55, 56, 5, 57, 58, 146, 147, 148, 149, 150, 151, 152, 153, 154, 155, 156, 157, 158, 159, 160, 161, 162, 163, 164, 165, 166, 167, 168, 169, 170, 171, 172, 173, 174, 175, 176, 177, 178, 179, 180, 181, 182, 183, 184, 185] (by decide +kernel) (by decide +kernel)
set_option maxRecDepth 20000 in
theorem gX3_putAtBest_X3_letDown : GoodIn wsX3_putAtBest (wsV RX3 284 RX3 yX3_letDown wsX3_letDown) := goodIn_app (goodIn_of _ (by decide +kernel)) ggX3_putAtBest_X3_letDown
theorem dX3_putAtBest_0 : decode cX3_putAtBest 0 = .ok (.aload_n 0, 1) := by decide +kernel
theorem dX3_putAtBest_1 : decode cX3_putAtBest 1 = .ok (.getfield 38, 3) := by decide +kernel
theorem dX3_putAtBest_4 : decode cX3_putAtBest 4 = .ok (.bipush 60, 2) := by decide +kernel
theorem dX3_putAtBest_6 : decode cX3_putAtBest 6 = .ok (.if_icmp .lt 5, 3) := by decide +kernel
theorem dX3_putAtBest_9 : decode cX3_putAtBest 9 = .ok (.iconst 0, 1) := by decide +kernel
theorem dX3_putAtBest_10 : decode cX3_putAtBest 10 = .ok (.ireturn, 1) := by decide +kernel
theorem dX3_putAtBest_11 : decode cX3_putAtBest 11 = .ok (.aload_n 0, 1) := by decide +kernel
theorem dX3_putAtBest_12 : decode cX3_putAtBest 12 = .ok (.aload_n 1, 1) := by decide +kernel
theorem dX3_putAtBest_13 : decode cX3_putAtBest 13 = .ok (.invokevirtual 141, 3) := by decide +kernel
theorem dX3_putAtBest_16 : decode cX3_putAtBest 16 = .ok (.istore_n 2, 1) := by decide +kernel
theorem dX3_putAtBest_17 : decode cX3_putAtBest 17 = .ok (.iload_n 2, 1) := by decide +kernel
theorem dX3_putAtBest_18 : decode cX3_putAtBest 18 = .ok (.iconst (-1), 1) := by decide +kernel
theorem dX3_putAtBest_19 : decode cX3_putAtBest 19 = .ok (.if_icmp .ne 5, 3) := by decide +kernel
theorem dX3_putAtBest_22 : decode cX3_putAtBest 22 = .ok (.iconst 0, 1) := by decide +kernel
theorem dX3_putAtBest_23 : decode cX3_putAtBest 23 = .ok (.ireturn, 1) := by decide +kernel
theorem dX3_putAtBest_24 : decode cX3_putAtBest 24 = .ok (.aload_n 0, 1) := by decide +kernel
theorem dX3_putAtBest_25 : decode cX3_putAtBest 25 = .ok (.aload_n 1, 1) := by decide +kernel
theorem dX3_putAtBest_26 : decode cX3_putAtBest 26 = .ok (.iload_n 2, 1) := by decide +kernel
theorem dX3_putAtBest_27 : decode cX3_putAtBest 27 = .ok (.invokestatic 291, 3) := by decide +kernel
theorem dX3_putAtBest_30 : decode cX3_putAtBest 30 = .ok (.iload_n 2, 1) := by decide +kernel
theorem dX3_putAtBest_31 : decode cX3_putAtBest 31 = .ok (.invokestatic 294, 3) := by decide +kernel
theorem dX3_putAtBest_34 : decode cX3_putAtBest 34 = .ok (.iload_n 2, 1) := by decide +kernel
theorem dX3_putAtBest_35 : decode cX3_putAtBest 35 = .ok (.invokestatic 297, 3) := by decide +kernel
theorem dX3_putAtBest_38 : decode cX3_putAtBest 38 = .ok (.invokevirtual 284, 3) := by decide +kernel
theorem dX3_putAtBest_41 : decode cX3_putAtBest 41 = .ok (.aload_n 0, 1) := by decide +kernel
theorem dX3_putAtBest_42 : decode cX3_putAtBest 42 = .ok (.invokevirtual 93, 3) := by decide +kernel
theorem dX3_putAtBest_45 : decode cX3_putAtBest 45 = .ok (.iconst 1, 1) := by decide +kernel
theorem dX3_putAtBest_46 : decode cX3_putAtBest 46 = .ok (.ireturn, 1) := by decide +kernel
set_option maxRecDepth 20000 in
theorem ggX3_nextLine_X3_lineOf : GoodIn wsX3_nextLine wsX3_lineOf := goodIn_r _ [9, 1, 10, 11, 12, 8, 13, 22, 23, 24, 25, 26, 27, 28, 29, 30, 31, 32, 33, 34, 35] (by decide +kernel) (by decide +kernel)
set_option maxRecDepth 20000 in
theorem gX3_nextLine_X3_lineOf : GoodIn wsX3_nextLine (wsV RX3 152 RX3 yX3_lineOf wsX3_lineOf) := goodIn_app (goodIn_of _ (by decide +kernel)) ggX3_nextLine_X3_lineOf
set_option maxRecDepth 20000 in
theorem ggX3_nextLine_X1_comesBefore : GoodIn wsX3_nextLine wsX1_comesBefore := goodIn_r _ [18, 19, 20, 21, 39, 40, 41, 42, 43, 44, 45, 46] (by decide +kernel) (by decide +kernel)
set_option maxRecDepth 20000 in
theorem gX3_nextLine_X1_comesBefore : GoodIn wsX3_nextLine (wsV RX3 305 RX1 yX1_comesBefore wsX1_comesBefore) := goodIn_app (goodIn_of _ (by decide +kernel)) ggX3_nextLine_X1_comesBefore
theorem dX3_nextLine_0 : decode cX3_nextLine 0 = .ok (.aconst_null, 1) := by decide +kernel
theorem dX3_nextLine_1 : decode cX3_nextLine 1 = .ok (.astore_n 1, 1) := by decide +kernel
theorem dX3_nextLine_2 : decode cX3_nextLine 2 = .ok (.iconst 0, 1) := by decide +kernel
theorem dX3_nextLine_3 : decode cX3_nextLine 3 = .ok (.istore_n 2, 1) := by decide +kernel
theorem dX3_nextLine_4 : decode cX3_nextLine 4 = .ok (.iload_n 2, 1) := by decide +kernel
theorem dX3_nextLine_5 : decode cX3_nextLine 5 = .ok (.aload_n 0, 1) := by decide +kernel
theorem dX3_nextLine_6 : decode cX3_nextLine 6 = .ok (.getfield 62, 3) := by decide +kernel
theorem dX3_nextLine_9 : decode cX3_nextLine 9 = .ok (.if_icmp .ge 53, 3) := by decide +kernel
theorem dX3_nextLine_12 : decode cX3_nextLine 12 = .ok (.aload_n 0, 1) := by decide +kernel
theorem dX3_nextLine_13 : decode cX3_nextLine 13 = .ok (.iload_n 2, 1) := by decide +kernel
theorem dX3_nextLine_14 : decode cX3_nextLine 14 = .ok (.invokevirtual 152, 3) := by decide +kernel
theorem dX3_nextLine_17 : decode cX3_nextLine 17 = .ok (.astore_n 3, 1) := by decide +kernel
theorem dX3_nextLine_18 : decode cX3_nextLine 18 = .ok (.aload_n 3, 1) := by decide +kernel
theorem dX3_nextLine_19 : decode cX3_nextLine 19 = .ok (.ifnull 37, 3) := by decide +kernel
theorem dX3_nextLine_22 : decode cX3_nextLine 22 = .ok (.aload_n 3, 1) := by decide +kernel
theorem dX3_nextLine_23 : decode cX3_nextLine 23 = .ok (.getfield 167, 3) := by decide +kernel
theorem dX3_nextLine_26 : decode cX3_nextLine 26 = .ok (.ifCond .le 30, 3) := by decide +kernel
theorem dX3_nextLine_29 : decode cX3_nextLine 29 = .ok (.aload_n 3, 1) := by decide +kernel
theorem dX3_nextLine_30 : decode cX3_nextLine 30 = .ok (.getfield 156, 3) := by decide +kernel
theorem dX3_nextLine_33 : decode cX3_nextLine 33 = .ok (.ifCond .ne 23, 3) := by decide +kernel
theorem dX3_nextLine_36 : decode cX3_nextLine 36 = .ok (.aload_n 1, 1) := by decide +kernel
theorem dX3_nextLine_37 : decode cX3_nextLine 37 = .ok (.ifnull 17, 3) := by decide +kernel
theorem dX3_nextLine_40 : decode cX3_nextLine 40 = .ok (.aload_n 3, 1) := by decide +kernel
theorem dX3_nextLine_41 : decode cX3_nextLine 41 = .ok (.getfield 163, 3) := by decide +kernel
theorem dX3_nextLine_44 : decode cX3_nextLine 44 = .ok (.aload_n 1, 1) := by decide +kernel
theorem dX3_nextLine_45 : decode cX3_nextLine 45 = .ok (.getfield 163, 3) := by decide +kernel
theorem dX3_nextLine_48 : decode cX3_nextLine 48 = .ok (.invokevirtual 305, 3) := by decide +kernel
theorem dX3_nextLine_51 : decode cX3_nextLine 51 = .ok (.ifCond .eq 5, 3) := by decide +kernel
theorem dX3_nextLine_54 : decode cX3_nextLine 54 = .ok (.aload_n 3, 1) := by decide +kernel
theorem dX3_nextLine_55 : decode cX3_nextLine 55 = .ok (.astore_n 1, 1) := by decide +kernel
theorem dX3_nextLine_56 : decode cX3_nextLine 56 = .ok (.iinc 2 1, 3) := by decide +kernel
theorem dX3_nextLine_59 : decode cX3_nextLine 59 = .ok (.goto (-55), 3) := by decide +kernel
theorem dX3_nextLine_62 : decode cX3_nextLine 62 = .ok (.aload_n 1, 1) := by decide +kernel
theorem dX3_nextLine_63 : decode cX3_nextLine 63 = .ok (.areturn, 1) := by decide +kernel
