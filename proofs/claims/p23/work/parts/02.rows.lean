theorem dX0_init_0 : decode cX0_init 0 = .ok (.aload_n 0, 1) := by decide +kernel
theorem dX0_init_1 : decode cX0_init 1 = .ok (.invokespecial 3, 3) := by decide +kernel
theorem dX0_init_4 : decode cX0_init 4 = .ok (.aload_n 0, 1) := by decide +kernel
theorem dX0_init_5 : decode cX0_init 5 = .ok (.iconst 0, 1) := by decide +kernel
theorem dX0_init_6 : decode cX0_init 6 = .ok (.putfield 9, 3) := by decide +kernel
theorem dX0_init_9 : decode cX0_init 9 = .ok (.aload_n 0, 1) := by decide +kernel
theorem dX0_init_10 : decode cX0_init 10 = .ok (.iconst 0, 1) := by decide +kernel
theorem dX0_init_11 : decode cX0_init 11 = .ok (.putfield 15, 3) := by decide +kernel
theorem dX0_init_14 : decode cX0_init 14 = .ok (.aload_n 0, 1) := by decide +kernel
theorem dX0_init_15 : decode cX0_init 15 = .ok (.iconst 0, 1) := by decide +kernel
theorem dX0_init_16 : decode cX0_init 16 = .ok (.putfield 18, 3) := by decide +kernel
theorem dX0_init_19 : decode cX0_init 19 = .ok (.aload_n 0, 1) := by decide +kernel
theorem dX0_init_20 : decode cX0_init 20 = .ok (.iconst 0, 1) := by decide +kernel
theorem dX0_init_21 : decode cX0_init 21 = .ok (.putfield 21, 3) := by decide +kernel
theorem dX0_init_24 : decode cX0_init 24 = .ok (.aload_n 0, 1) := by decide +kernel
theorem dX0_init_25 : decode cX0_init 25 = .ok (.iconst 0, 1) := by decide +kernel
theorem dX0_init_26 : decode cX0_init 26 = .ok (.putfield 25, 3) := by decide +kernel
theorem dX0_init_29 : decode cX0_init 29 = .ok (.aload_n 0, 1) := by decide +kernel
theorem dX0_init_30 : decode cX0_init 30 = .ok (.iconst 0, 1) := by decide +kernel
theorem dX0_init_31 : decode cX0_init 31 = .ok (.putfield 28, 3) := by decide +kernel
theorem dX0_init_34 : decode cX0_init 34 = .ok (.aload_n 0, 1) := by decide +kernel
theorem dX0_init_35 : decode cX0_init 35 = .ok (.iconst 0, 1) := by decide +kernel
theorem dX0_init_36 : decode cX0_init 36 = .ok (.putfield 31, 3) := by decide +kernel
theorem dX0_init_39 : decode cX0_init 39 = .ok (.aload_n 0, 1) := by decide +kernel
theorem dX0_init_40 : decode cX0_init 40 = .ok (.iconst 0, 1) := by decide +kernel
theorem dX0_init_41 : decode cX0_init 41 = .ok (.putfield 34, 3) := by decide +kernel
theorem dX0_init_44 : decode cX0_init 44 = .ok (.aload_n 0, 1) := by decide +kernel
theorem dX0_init_45 : decode cX0_init 45 = .ok (.iconst 0, 1) := by decide +kernel
theorem dX0_init_46 : decode cX0_init 46 = .ok (.putfield 37, 3) := by decide +kernel
theorem dX0_init_49 : decode cX0_init 49 = .ok (.aload_n 0, 1) := by decide +kernel
theorem dX0_init_50 : decode cX0_init 50 = .ok (.iconst 0, 1) := by decide +kernel
theorem dX0_init_51 : decode cX0_init 51 = .ok (.putfield 40, 3) := by decide +kernel
theorem dX0_init_54 : decode cX0_init 54 = .ok (.aload_n 0, 1) := by decide +kernel
theorem dX0_init_55 : decode cX0_init 55 = .ok (.iconst 0, 1) := by decide +kernel
theorem dX0_init_56 : decode cX0_init 56 = .ok (.putfield 43, 3) := by decide +kernel
theorem dX0_init_59 : decode cX0_init 59 = .ok (.aload_n 0, 1) := by decide +kernel
theorem dX0_init_60 : decode cX0_init 60 = .ok (.iconst 0, 1) := by decide +kernel
theorem dX0_init_61 : decode cX0_init 61 = .ok (.putfield 46, 3) := by decide +kernel
theorem dX0_init_64 : decode cX0_init 64 = .ok (.aload_n 0, 1) := by decide +kernel
theorem dX0_init_65 : decode cX0_init 65 = .ok (.iconst 0, 1) := by decide +kernel
theorem dX0_init_66 : decode cX0_init 66 = .ok (.putfield 49, 3) := by decide +kernel
theorem dX0_init_69 : decode cX0_init 69 = .ok (.aload_n 0, 1) := by decide +kernel
theorem dX0_init_70 : decode cX0_init 70 = .ok (.iconst 0, 1) := by decide +kernel
theorem dX0_init_71 : decode cX0_init 71 = .ok (.putfield 52, 3) := by decide +kernel
theorem dX0_init_74 : decode cX0_init 74 = .ok (.aload_n 0, 1) := by decide +kernel
theorem dX0_init_75 : decode cX0_init 75 = .ok (.iconst 0, 1) := by decide +kernel
theorem dX0_init_76 : decode cX0_init 76 = .ok (.putfield 55, 3) := by decide +kernel
theorem dX0_init_79 : decode cX0_init 79 = .ok (.aload_n 0, 1) := by decide +kernel
theorem dX0_init_80 : decode cX0_init 80 = .ok (.iconst 0, 1) := by decide +kernel
theorem dX0_init_81 : decode cX0_init 81 = .ok (.putfield 58, 3) := by decide +kernel
theorem dX0_init_84 : decode cX0_init 84 = .ok (.aload_n 0, 1) := by decide +kernel
theorem dX0_init_85 : decode cX0_init 85 = .ok (.bipush 36, 2) := by decide +kernel
theorem dX0_init_87 : decode cX0_init 87 = .ok (.anewarray 10, 3) := by decide +kernel
theorem dX0_init_90 : decode cX0_init 90 = .ok (.putfield 61, 3) := by decide +kernel
theorem dX0_init_93 : decode cX0_init 93 = .ok (.aload_n 0, 1) := by decide +kernel
theorem dX0_init_94 : decode cX0_init 94 = .ok (.bipush 36, 2) := by decide +kernel
theorem dX0_init_96 : decode cX0_init 96 = .ok (.newarray .int, 2) := by decide +kernel
theorem dX0_init_98 : decode cX0_init 98 = .ok (.putfield 65, 3) := by decide +kernel
theorem dX0_init_101 : decode cX0_init 101 = .ok (.return_, 1) := by decide +kernel
theorem dX0_shape_0 : decode cX0_shape 0 = .ok (.aload_n 0, 1) := by decide +kernel
theorem dX0_shape_1 : decode cX0_shape 1 = .ok (.aload_n 1, 1) := by decide +kernel
theorem dX0_shape_2 : decode cX0_shape 2 = .ok (.getfield 69, 3) := by decide +kernel
theorem dX0_shape_5 : decode cX0_shape 5 = .ok (.putfield 9, 3) := by decide +kernel
theorem dX0_shape_8 : decode cX0_shape 8 = .ok (.aload_n 0, 1) := by decide +kernel
theorem dX0_shape_9 : decode cX0_shape 9 = .ok (.aload_n 1, 1) := by decide +kernel
theorem dX0_shape_10 : decode cX0_shape 10 = .ok (.getfield 74, 3) := by decide +kernel
theorem dX0_shape_13 : decode cX0_shape 13 = .ok (.putfield 15, 3) := by decide +kernel
theorem dX0_shape_16 : decode cX0_shape 16 = .ok (.aload_n 0, 1) := by decide +kernel
theorem dX0_shape_17 : decode cX0_shape 17 = .ok (.aload_n 1, 1) := by decide +kernel
theorem dX0_shape_18 : decode cX0_shape 18 = .ok (.getfield 75, 3) := by decide +kernel
theorem dX0_shape_21 : decode cX0_shape 21 = .ok (.putfield 18, 3) := by decide +kernel
theorem dX0_shape_24 : decode cX0_shape 24 = .ok (.aload_n 0, 1) := by decide +kernel
theorem dX0_shape_25 : decode cX0_shape 25 = .ok (.iload_n 2, 1) := by decide +kernel
theorem dX0_shape_26 : decode cX0_shape 26 = .ok (.putfield 21, 3) := by decide +kernel
theorem dX0_shape_29 : decode cX0_shape 29 = .ok (.aload_n 0, 1) := by decide +kernel
theorem dX0_shape_30 : decode cX0_shape 30 = .ok (.iload_n 2, 1) := by decide +kernel
theorem dX0_shape_31 : decode cX0_shape 31 = .ok (.ifCond .eq 10, 3) := by decide +kernel
theorem dX0_shape_34 : decode cX0_shape 34 = .ok (.aload_n 1, 1) := by decide +kernel
theorem dX0_shape_35 : decode cX0_shape 35 = .ok (.getfield 76, 3) := by decide +kernel
theorem dX0_shape_38 : decode cX0_shape 38 = .ok (.goto 7, 3) := by decide +kernel
theorem dX0_shape_41 : decode cX0_shape 41 = .ok (.aload_n 1, 1) := by decide +kernel
theorem dX0_shape_42 : decode cX0_shape 42 = .ok (.getfield 77, 3) := by decide +kernel
theorem dX0_shape_45 : decode cX0_shape 45 = .ok (.putfield 25, 3) := by decide +kernel
theorem dX0_shape_48 : decode cX0_shape 48 = .ok (.aload_n 0, 1) := by decide +kernel
theorem dX0_shape_49 : decode cX0_shape 49 = .ok (.iload_n 2, 1) := by decide +kernel
theorem dX0_shape_50 : decode cX0_shape 50 = .ok (.ifCond .eq 10, 3) := by decide +kernel
theorem dX0_shape_53 : decode cX0_shape 53 = .ok (.aload_n 1, 1) := by decide +kernel
theorem dX0_shape_54 : decode cX0_shape 54 = .ok (.getfield 77, 3) := by decide +kernel
theorem dX0_shape_57 : decode cX0_shape 57 = .ok (.goto 7, 3) := by decide +kernel
theorem dX0_shape_60 : decode cX0_shape 60 = .ok (.aload_n 1, 1) := by decide +kernel
theorem dX0_shape_61 : decode cX0_shape 61 = .ok (.getfield 76, 3) := by decide +kernel
theorem dX0_shape_64 : decode cX0_shape 64 = .ok (.putfield 28, 3) := by decide +kernel
theorem dX0_shape_67 : decode cX0_shape 67 = .ok (.return_, 1) := by decide +kernel
theorem dX0_cells_0 : decode cX0_cells 0 = .ok (.aload_n 0, 1) := by decide +kernel
theorem dX0_cells_1 : decode cX0_cells 1 = .ok (.getfield 25, 3) := by decide +kernel
theorem dX0_cells_4 : decode cX0_cells 4 = .ok (.aload_n 0, 1) := by decide +kernel
theorem dX0_cells_5 : decode cX0_cells 5 = .ok (.getfield 28, 3) := by decide +kernel
theorem dX0_cells_8 : decode cX0_cells 8 = .ok (.imul, 1) := by decide +kernel
theorem dX0_cells_9 : decode cX0_cells 9 = .ok (.ireturn, 1) := by decide +kernel
theorem dX0_covers_0 : decode cX0_covers 0 = .ok (.iload_n 1, 1) := by decide +kernel
theorem dX0_covers_1 : decode cX0_covers 1 = .ok (.aload_n 0, 1) := by decide +kernel
theorem dX0_covers_2 : decode cX0_covers 2 = .ok (.getfield 31, 3) := by decide +kernel
theorem dX0_covers_5 : decode cX0_covers 5 = .ok (.if_icmp .lt 41, 3) := by decide +kernel
theorem dX0_covers_8 : decode cX0_covers 8 = .ok (.iload_n 1, 1) := by decide +kernel
theorem dX0_covers_9 : decode cX0_covers 9 = .ok (.aload_n 0, 1) := by decide +kernel
theorem dX0_covers_10 : decode cX0_covers 10 = .ok (.getfield 31, 3) := by decide +kernel
theorem dX0_covers_13 : decode cX0_covers 13 = .ok (.aload_n 0, 1) := by decide +kernel
theorem dX0_covers_14 : decode cX0_covers 14 = .ok (.getfield 25, 3) := by decide +kernel
theorem dX0_covers_17 : decode cX0_covers 17 = .ok (.iadd, 1) := by decide +kernel
theorem dX0_covers_18 : decode cX0_covers 18 = .ok (.if_icmp .ge 28, 3) := by decide +kernel
theorem dX0_covers_21 : decode cX0_covers 21 = .ok (.iload_n 2, 1) := by decide +kernel
theorem dX0_covers_22 : decode cX0_covers 22 = .ok (.aload_n 0, 1) := by decide +kernel
theorem dX0_covers_23 : decode cX0_covers 23 = .ok (.getfield 34, 3) := by decide +kernel
theorem dX0_covers_26 : decode cX0_covers 26 = .ok (.if_icmp .lt 20, 3) := by decide +kernel
theorem dX0_covers_29 : decode cX0_covers 29 = .ok (.iload_n 2, 1) := by decide +kernel
theorem dX0_covers_30 : decode cX0_covers 30 = .ok (.aload_n 0, 1) := by decide +kernel
theorem dX0_covers_31 : decode cX0_covers 31 = .ok (.getfield 34, 3) := by decide +kernel
theorem dX0_covers_34 : decode cX0_covers 34 = .ok (.aload_n 0, 1) := by decide +kernel
theorem dX0_covers_35 : decode cX0_covers 35 = .ok (.getfield 28, 3) := by decide +kernel
theorem dX0_covers_38 : decode cX0_covers 38 = .ok (.iadd, 1) := by decide +kernel
theorem dX0_covers_39 : decode cX0_covers 39 = .ok (.if_icmp .ge 7, 3) := by decide +kernel
theorem dX0_covers_42 : decode cX0_covers 42 = .ok (.iconst 1, 1) := by decide +kernel
theorem dX0_covers_43 : decode cX0_covers 43 = .ok (.goto 4, 3) := by decide +kernel
theorem dX0_covers_46 : decode cX0_covers 46 = .ok (.iconst 0, 1) := by decide +kernel
theorem dX0_covers_47 : decode cX0_covers 47 = .ok (.ireturn, 1) := by decide +kernel
theorem dX0_cellsInCommon_0 : decode cX0_cellsInCommon 0 = .ok (.aload_n 0, 1) := by decide +kernel
theorem dX0_cellsInCommon_1 : decode cX0_cellsInCommon 1 = .ok (.getfield 31, 3) := by decide +kernel
theorem dX0_cellsInCommon_4 : decode cX0_cellsInCommon 4 = .ok (.aload_n 0, 1) := by decide +kernel
theorem dX0_cellsInCommon_5 : decode cX0_cellsInCommon 5 = .ok (.getfield 25, 3) := by decide +kernel
theorem dX0_cellsInCommon_8 : decode cX0_cellsInCommon 8 = .ok (.iadd, 1) := by decide +kernel
theorem dX0_cellsInCommon_9 : decode cX0_cellsInCommon 9 = .ok (.aload_n 1, 1) := by decide +kernel
theorem dX0_cellsInCommon_10 : decode cX0_cellsInCommon 10 = .ok (.getfield 31, 3) := by decide +kernel
theorem dX0_cellsInCommon_13 : decode cX0_cellsInCommon 13 = .ok (.aload_n 1, 1) := by decide +kernel
theorem dX0_cellsInCommon_14 : decode cX0_cellsInCommon 14 = .ok (.getfield 25, 3) := by decide +kernel
theorem dX0_cellsInCommon_17 : decode cX0_cellsInCommon 17 = .ok (.iadd, 1) := by decide +kernel
theorem dX0_cellsInCommon_18 : decode cX0_cellsInCommon 18 = .ok (.invokestatic 78, 3) := by decide +kernel
theorem dX0_cellsInCommon_21 : decode cX0_cellsInCommon 21 = .ok (.aload_n 0, 1) := by decide +kernel
theorem dX0_cellsInCommon_22 : decode cX0_cellsInCommon 22 = .ok (.getfield 31, 3) := by decide +kernel
theorem dX0_cellsInCommon_25 : decode cX0_cellsInCommon 25 = .ok (.aload_n 1, 1) := by decide +kernel
theorem dX0_cellsInCommon_26 : decode cX0_cellsInCommon 26 = .ok (.getfield 31, 3) := by decide +kernel
theorem dX0_cellsInCommon_29 : decode cX0_cellsInCommon 29 = .ok (.invokestatic 84, 3) := by decide +kernel
theorem dX0_cellsInCommon_32 : decode cX0_cellsInCommon 32 = .ok (.isub, 1) := by decide +kernel
theorem dX0_cellsInCommon_33 : decode cX0_cellsInCommon 33 = .ok (.istore_n 2, 1) := by decide +kernel
theorem dX0_cellsInCommon_34 : decode cX0_cellsInCommon 34 = .ok (.aload_n 0, 1) := by decide +kernel
theorem dX0_cellsInCommon_35 : decode cX0_cellsInCommon 35 = .ok (.getfield 34, 3) := by decide +kernel
theorem dX0_cellsInCommon_38 : decode cX0_cellsInCommon 38 = .ok (.aload_n 0, 1) := by decide +kernel
theorem dX0_cellsInCommon_39 : decode cX0_cellsInCommon 39 = .ok (.getfield 28, 3) := by decide +kernel
theorem dX0_cellsInCommon_42 : decode cX0_cellsInCommon 42 = .ok (.iadd, 1) := by decide +kernel
theorem dX0_cellsInCommon_43 : decode cX0_cellsInCommon 43 = .ok (.aload_n 1, 1) := by decide +kernel
theorem dX0_cellsInCommon_44 : decode cX0_cellsInCommon 44 = .ok (.getfield 34, 3) := by decide +kernel
theorem dX0_cellsInCommon_47 : decode cX0_cellsInCommon 47 = .ok (.aload_n 1, 1) := by decide +kernel
theorem dX0_cellsInCommon_48 : decode cX0_cellsInCommon 48 = .ok (.getfield 28, 3) := by decide +kernel
theorem dX0_cellsInCommon_51 : decode cX0_cellsInCommon 51 = .ok (.iadd, 1) := by decide +kernel
theorem dX0_cellsInCommon_52 : decode cX0_cellsInCommon 52 = .ok (.invokestatic 78, 3) := by decide +kernel
theorem dX0_cellsInCommon_55 : decode cX0_cellsInCommon 55 = .ok (.aload_n 0, 1) := by decide +kernel
theorem dX0_cellsInCommon_56 : decode cX0_cellsInCommon 56 = .ok (.getfield 34, 3) := by decide +kernel
theorem dX0_cellsInCommon_59 : decode cX0_cellsInCommon 59 = .ok (.aload_n 1, 1) := by decide +kernel
theorem dX0_cellsInCommon_60 : decode cX0_cellsInCommon 60 = .ok (.getfield 34, 3) := by decide +kernel
theorem dX0_cellsInCommon_63 : decode cX0_cellsInCommon 63 = .ok (.invokestatic 84, 3) := by decide +kernel
theorem dX0_cellsInCommon_66 : decode cX0_cellsInCommon 66 = .ok (.isub, 1) := by decide +kernel
theorem dX0_cellsInCommon_67 : decode cX0_cellsInCommon 67 = .ok (.istore_n 3, 1) := by decide +kernel
theorem dX0_cellsInCommon_68 : decode cX0_cellsInCommon 68 = .ok (.iload_n 2, 1) := by decide +kernel
theorem dX0_cellsInCommon_69 : decode cX0_cellsInCommon 69 = .ok (.ifCond .le 13, 3) := by decide +kernel
theorem dX0_cellsInCommon_72 : decode cX0_cellsInCommon 72 = .ok (.iload_n 3, 1) := by decide +kernel
theorem dX0_cellsInCommon_73 : decode cX0_cellsInCommon 73 = .ok (.ifCond .le 9, 3) := by decide +kernel
theorem dX0_cellsInCommon_76 : decode cX0_cellsInCommon 76 = .ok (.iload_n 2, 1) := by decide +kernel
theorem dX0_cellsInCommon_77 : decode cX0_cellsInCommon 77 = .ok (.iload_n 3, 1) := by decide +kernel
theorem dX0_cellsInCommon_78 : decode cX0_cellsInCommon 78 = .ok (.imul, 1) := by decide +kernel
theorem dX0_cellsInCommon_79 : decode cX0_cellsInCommon 79 = .ok (.goto 4, 3) := by decide +kernel
theorem dX0_cellsInCommon_82 : decode cX0_cellsInCommon 82 = .ok (.iconst 0, 1) := by decide +kernel
theorem dX0_cellsInCommon_83 : decode cX0_cellsInCommon 83 = .ok (.ireturn, 1) := by decide +kernel
theorem dX0_addSupport_0 : decode cX0_addSupport 0 = .ok (.iload_n 2, 1) := by decide +kernel
theorem dX0_addSupport_1 : decode cX0_addSupport 1 = .ok (.ifCond .le 49, 3) := by decide +kernel
theorem dX0_addSupport_4 : decode cX0_addSupport 4 = .ok (.aload_n 0, 1) := by decide +kernel
theorem dX0_addSupport_5 : decode cX0_addSupport 5 = .ok (.getfield 58, 3) := by decide +kernel
theorem dX0_addSupport_8 : decode cX0_addSupport 8 = .ok (.ifCond .lt 42, 3) := by decide +kernel
theorem dX0_addSupport_11 : decode cX0_addSupport 11 = .ok (.aload_n 0, 1) := by decide +kernel
theorem dX0_addSupport_12 : decode cX0_addSupport 12 = .ok (.getfield 58, 3) := by decide +kernel
theorem dX0_addSupport_15 : decode cX0_addSupport 15 = .ok (.bipush 36, 2) := by decide +kernel
theorem dX0_addSupport_17 : decode cX0_addSupport 17 = .ok (.if_icmp .ge 33, 3) := by decide +kernel
theorem dX0_addSupport_20 : decode cX0_addSupport 20 = .ok (.aload_n 0, 1) := by decide +kernel
theorem dX0_addSupport_21 : decode cX0_addSupport 21 = .ok (.getfield 61, 3) := by decide +kernel
theorem dX0_addSupport_24 : decode cX0_addSupport 24 = .ok (.aload_n 0, 1) := by decide +kernel
theorem dX0_addSupport_25 : decode cX0_addSupport 25 = .ok (.getfield 58, 3) := by decide +kernel
theorem dX0_addSupport_28 : decode cX0_addSupport 28 = .ok (.aload_n 1, 1) := by decide +kernel
theorem dX0_addSupport_29 : decode cX0_addSupport 29 = .ok (.aastore, 1) := by decide +kernel
theorem dX0_addSupport_30 : decode cX0_addSupport 30 = .ok (.aload_n 0, 1) := by decide +kernel
theorem dX0_addSupport_31 : decode cX0_addSupport 31 = .ok (.getfield 65, 3) := by decide +kernel
theorem dX0_addSupport_34 : decode cX0_addSupport 34 = .ok (.aload_n 0, 1) := by decide +kernel
theorem dX0_addSupport_35 : decode cX0_addSupport 35 = .ok (.getfield 58, 3) := by decide +kernel
theorem dX0_addSupport_38 : decode cX0_addSupport 38 = .ok (.iload_n 2, 1) := by decide +kernel
theorem dX0_addSupport_39 : decode cX0_addSupport 39 = .ok (.iastore, 1) := by decide +kernel
theorem dX0_addSupport_40 : decode cX0_addSupport 40 = .ok (.aload_n 0, 1) := by decide +kernel
theorem dX0_addSupport_41 : decode cX0_addSupport 41 = .ok (.dup, 1) := by decide +kernel
theorem dX0_addSupport_42 : decode cX0_addSupport 42 = .ok (.getfield 58, 3) := by decide +kernel
theorem dX0_addSupport_45 : decode cX0_addSupport 45 = .ok (.iconst 1, 1) := by decide +kernel
theorem dX0_addSupport_46 : decode cX0_addSupport 46 = .ok (.iadd, 1) := by decide +kernel
theorem dX0_addSupport_47 : decode cX0_addSupport 47 = .ok (.putfield 58, 3) := by decide +kernel
theorem dX0_addSupport_50 : decode cX0_addSupport 50 = .ok (.return_, 1) := by decide +kernel
theorem dX0_passLoadDown_0 : decode cX0_passLoadDown 0 = .ok (.iconst 0, 1) := by decide +kernel
theorem dX0_passLoadDown_1 : decode cX0_passLoadDown 1 = .ok (.istore_n 1, 1) := by decide +kernel
theorem dX0_passLoadDown_2 : decode cX0_passLoadDown 2 = .ok (.iload_n 1, 1) := by decide +kernel
theorem dX0_passLoadDown_3 : decode cX0_passLoadDown 3 = .ok (.aload_n 0, 1) := by decide +kernel
theorem dX0_passLoadDown_4 : decode cX0_passLoadDown 4 = .ok (.getfield 58, 3) := by decide +kernel
theorem dX0_passLoadDown_7 : decode cX0_passLoadDown 7 = .ok (.if_icmp .ge 63, 3) := by decide +kernel
theorem dX0_passLoadDown_10 : decode cX0_passLoadDown 10 = .ok (.iload_n 1, 1) := by decide +kernel
theorem dX0_passLoadDown_11 : decode cX0_passLoadDown 11 = .ok (.bipush 36, 2) := by decide +kernel
theorem dX0_passLoadDown_13 : decode cX0_passLoadDown 13 = .ok (.if_icmp .ge 57, 3) := by decide +kernel
theorem dX0_passLoadDown_16 : decode cX0_passLoadDown 16 = .ok (.aload_n 0, 1) := by decide +kernel
theorem dX0_passLoadDown_17 : decode cX0_passLoadDown 17 = .ok (.getfield 61, 3) := by decide +kernel
theorem dX0_passLoadDown_20 : decode cX0_passLoadDown 20 = .ok (.iload_n 1, 1) := by decide +kernel
theorem dX0_passLoadDown_21 : decode cX0_passLoadDown 21 = .ok (.aaload, 1) := by decide +kernel
theorem dX0_passLoadDown_22 : decode cX0_passLoadDown 22 = .ok (.astore_n 2, 1) := by decide +kernel
theorem dX0_passLoadDown_23 : decode cX0_passLoadDown 23 = .ok (.aload_n 2, 1) := by decide +kernel
theorem dX0_passLoadDown_24 : decode cX0_passLoadDown 24 = .ok (.ifnull 40, 3) := by decide +kernel
theorem dX0_passLoadDown_27 : decode cX0_passLoadDown 27 = .ok (.aload_n 0, 1) := by decide +kernel
theorem dX0_passLoadDown_28 : decode cX0_passLoadDown 28 = .ok (.getfield 43, 3) := by decide +kernel
theorem dX0_passLoadDown_31 : decode cX0_passLoadDown 31 = .ok (.ifCond .le 33, 3) := by decide +kernel
theorem dX0_passLoadDown_34 : decode cX0_passLoadDown 34 = .ok (.aload_n 2, 1) := by decide +kernel
theorem dX0_passLoadDown_35 : decode cX0_passLoadDown 35 = .ok (.dup, 1) := by decide +kernel
theorem dX0_passLoadDown_36 : decode cX0_passLoadDown 36 = .ok (.getfield 49, 3) := by decide +kernel
theorem dX0_passLoadDown_39 : decode cX0_passLoadDown 39 = .ok (.aload_n 0, 1) := by decide +kernel
theorem dX0_passLoadDown_40 : decode cX0_passLoadDown 40 = .ok (.getfield 15, 3) := by decide +kernel
theorem dX0_passLoadDown_43 : decode cX0_passLoadDown 43 = .ok (.aload_n 0, 1) := by decide +kernel
theorem dX0_passLoadDown_44 : decode cX0_passLoadDown 44 = .ok (.getfield 49, 3) := by decide +kernel
theorem dX0_passLoadDown_47 : decode cX0_passLoadDown 47 = .ok (.iadd, 1) := by decide +kernel
theorem dX0_passLoadDown_48 : decode cX0_passLoadDown 48 = .ok (.aload_n 0, 1) := by decide +kernel
theorem dX0_passLoadDown_49 : decode cX0_passLoadDown 49 = .ok (.getfield 65, 3) := by decide +kernel
theorem dX0_passLoadDown_52 : decode cX0_passLoadDown 52 = .ok (.iload_n 1, 1) := by decide +kernel
theorem dX0_passLoadDown_53 : decode cX0_passLoadDown 53 = .ok (.iaload, 1) := by decide +kernel
theorem dX0_passLoadDown_54 : decode cX0_passLoadDown 54 = .ok (.imul, 1) := by decide +kernel
theorem dX0_passLoadDown_55 : decode cX0_passLoadDown 55 = .ok (.aload_n 0, 1) := by decide +kernel
theorem dX0_passLoadDown_56 : decode cX0_passLoadDown 56 = .ok (.getfield 43, 3) := by decide +kernel
theorem dX0_passLoadDown_59 : decode cX0_passLoadDown 59 = .ok (.idiv, 1) := by decide +kernel
theorem dX0_passLoadDown_60 : decode cX0_passLoadDown 60 = .ok (.iadd, 1) := by decide +kernel
theorem dX0_passLoadDown_61 : decode cX0_passLoadDown 61 = .ok (.putfield 49, 3) := by decide +kernel
theorem dX0_passLoadDown_64 : decode cX0_passLoadDown 64 = .ok (.iinc 1 1, 3) := by decide +kernel
theorem dX0_passLoadDown_67 : decode cX0_passLoadDown 67 = .ok (.goto (-65), 3) := by decide +kernel
theorem dX0_passLoadDown_70 : decode cX0_passLoadDown 70 = .ok (.return_, 1) := by decide +kernel
theorem dX0_reachSupports_0 : decode cX0_reachSupports 0 = .ok (.iconst 0, 1) := by decide +kernel
theorem dX0_reachSupports_1 : decode cX0_reachSupports 1 = .ok (.istore_n 1, 1) := by decide +kernel
theorem dX0_reachSupports_2 : decode cX0_reachSupports 2 = .ok (.iload_n 1, 1) := by decide +kernel
theorem dX0_reachSupports_3 : decode cX0_reachSupports 3 = .ok (.aload_n 0, 1) := by decide +kernel
theorem dX0_reachSupports_4 : decode cX0_reachSupports 4 = .ok (.getfield 58, 3) := by decide +kernel
theorem dX0_reachSupports_7 : decode cX0_reachSupports 7 = .ok (.if_icmp .ge 31, 3) := by decide +kernel
theorem dX0_reachSupports_10 : decode cX0_reachSupports 10 = .ok (.iload_n 1, 1) := by decide +kernel
theorem dX0_reachSupports_11 : decode cX0_reachSupports 11 = .ok (.bipush 36, 2) := by decide +kernel
theorem dX0_reachSupports_13 : decode cX0_reachSupports 13 = .ok (.if_icmp .ge 25, 3) := by decide +kernel
theorem dX0_reachSupports_16 : decode cX0_reachSupports 16 = .ok (.aload_n 0, 1) := by decide +kernel
theorem dX0_reachSupports_17 : decode cX0_reachSupports 17 = .ok (.getfield 61, 3) := by decide +kernel
theorem dX0_reachSupports_20 : decode cX0_reachSupports 20 = .ok (.iload_n 1, 1) := by decide +kernel
theorem dX0_reachSupports_21 : decode cX0_reachSupports 21 = .ok (.aaload, 1) := by decide +kernel
theorem dX0_reachSupports_22 : decode cX0_reachSupports 22 = .ok (.astore_n 2, 1) := by decide +kernel
theorem dX0_reachSupports_23 : decode cX0_reachSupports 23 = .ok (.aload_n 2, 1) := by decide +kernel
theorem dX0_reachSupports_24 : decode cX0_reachSupports 24 = .ok (.ifnull 8, 3) := by decide +kernel
theorem dX0_reachSupports_27 : decode cX0_reachSupports 27 = .ok (.aload_n 2, 1) := by decide +kernel
theorem dX0_reachSupports_28 : decode cX0_reachSupports 28 = .ok (.iconst 1, 1) := by decide +kernel
theorem dX0_reachSupports_29 : decode cX0_reachSupports 29 = .ok (.putfield 55, 3) := by decide +kernel
theorem dX0_reachSupports_32 : decode cX0_reachSupports 32 = .ok (.iinc 1 1, 3) := by decide +kernel
theorem dX0_reachSupports_35 : decode cX0_reachSupports 35 = .ok (.goto (-33), 3) := by decide +kernel
theorem dX0_reachSupports_38 : decode cX0_reachSupports 38 = .ok (.return_, 1) := by decide +kernel
theorem dX1_init_0 : decode cX1_init 0 = .ok (.aload_n 0, 1) := by decide +kernel
theorem dX1_init_1 : decode cX1_init 1 = .ok (.invokespecial 1, 3) := by decide +kernel
theorem dX1_init_4 : decode cX1_init 4 = .ok (.aload_n 0, 1) := by decide +kernel
theorem dX1_init_5 : decode cX1_init 5 = .ok (.iload_n 1, 1) := by decide +kernel
theorem dX1_init_6 : decode cX1_init 6 = .ok (.putfield 7, 3) := by decide +kernel
theorem dX1_init_9 : decode cX1_init 9 = .ok (.aload_n 0, 1) := by decide +kernel
theorem dX1_init_10 : decode cX1_init 10 = .ok (.iload_n 2, 1) := by decide +kernel
theorem dX1_init_11 : decode cX1_init 11 = .ok (.putfield 13, 3) := by decide +kernel
theorem dX1_init_14 : decode cX1_init 14 = .ok (.aload_n 0, 1) := by decide +kernel
theorem dX1_init_15 : decode cX1_init 15 = .ok (.iload_n 3, 1) := by decide +kernel
theorem dX1_init_16 : decode cX1_init 16 = .ok (.putfield 16, 3) := by decide +kernel
theorem dX1_init_19 : decode cX1_init 19 = .ok (.aload_n 0, 1) := by decide +kernel
theorem dX1_init_20 : decode cX1_init 20 = .ok (.iload 4, 2) := by decide +kernel
theorem dX1_init_22 : decode cX1_init 22 = .ok (.putfield 19, 3) := by decide +kernel
theorem dX1_init_25 : decode cX1_init 25 = .ok (.aload_n 0, 1) := by decide +kernel
theorem dX1_init_26 : decode cX1_init 26 = .ok (.iload 5, 2) := by decide +kernel
theorem dX1_init_28 : decode cX1_init 28 = .ok (.putfield 22, 3) := by decide +kernel
theorem dX1_init_31 : decode cX1_init 31 = .ok (.aload_n 0, 1) := by decide +kernel
theorem dX1_init_32 : decode cX1_init 32 = .ok (.iload 6, 2) := by decide +kernel
theorem dX1_init_34 : decode cX1_init 34 = .ok (.putfield 25, 3) := by decide +kernel
theorem dX1_init_37 : decode cX1_init 37 = .ok (.aload_n 0, 1) := by decide +kernel
theorem dX1_init_38 : decode cX1_init 38 = .ok (.iload 7, 2) := by decide +kernel
theorem dX1_init_40 : decode cX1_init 40 = .ok (.iconst 1, 1) := by decide +kernel
theorem dX1_init_41 : decode cX1_init 41 = .ok (.if_icmp .eq 9, 3) := by decide +kernel
theorem dX1_init_44 : decode cX1_init 44 = .ok (.iload 7, 2) := by decide +kernel
theorem dX1_init_46 : decode cX1_init 46 = .ok (.iconst 3, 1) := by decide +kernel
theorem dX1_init_47 : decode cX1_init 47 = .ok (.if_icmp .ne 7, 3) := by decide +kernel
theorem dX1_init_50 : decode cX1_init 50 = .ok (.iconst 1, 1) := by decide +kernel
theorem dX1_init_51 : decode cX1_init 51 = .ok (.goto 4, 3) := by decide +kernel
theorem dX1_init_54 : decode cX1_init 54 = .ok (.iconst 0, 1) := by decide +kernel
theorem dX1_init_55 : decode cX1_init 55 = .ok (.putfield 28, 3) := by decide +kernel
theorem dX1_init_58 : decode cX1_init 58 = .ok (.aload_n 0, 1) := by decide +kernel
theorem dX1_init_59 : decode cX1_init 59 = .ok (.iload 7, 2) := by decide +kernel
theorem dX1_init_61 : decode cX1_init 61 = .ok (.iconst 2, 1) := by decide +kernel
theorem dX1_init_62 : decode cX1_init 62 = .ok (.if_icmp .eq 9, 3) := by decide +kernel
theorem dX1_init_65 : decode cX1_init 65 = .ok (.iload 7, 2) := by decide +kernel
theorem dX1_init_67 : decode cX1_init 67 = .ok (.iconst 3, 1) := by decide +kernel
theorem dX1_init_68 : decode cX1_init 68 = .ok (.if_icmp .ne 7, 3) := by decide +kernel
theorem dX1_init_71 : decode cX1_init 71 = .ok (.iconst 1, 1) := by decide +kernel
theorem dX1_init_72 : decode cX1_init 72 = .ok (.goto 4, 3) := by decide +kernel
theorem dX1_init_75 : decode cX1_init 75 = .ok (.iconst 0, 1) := by decide +kernel
theorem dX1_init_76 : decode cX1_init 76 = .ok (.putfield 32, 3) := by decide +kernel
theorem dX1_init_79 : decode cX1_init 79 = .ok (.return_, 1) := by decide +kernel
theorem dX1_comesBefore_0 : decode cX1_comesBefore 0 = .ok (.aload_n 0, 1) := by decide +kernel
theorem dX1_comesBefore_1 : decode cX1_comesBefore 1 = .ok (.getfield 32, 3) := by decide +kernel
theorem dX1_comesBefore_4 : decode cX1_comesBefore 4 = .ok (.aload_n 1, 1) := by decide +kernel
theorem dX1_comesBefore_5 : decode cX1_comesBefore 5 = .ok (.getfield 32, 3) := by decide +kernel
theorem dX1_comesBefore_8 : decode cX1_comesBefore 8 = .ok (.if_icmp .eq 8, 3) := by decide +kernel
theorem dX1_comesBefore_11 : decode cX1_comesBefore 11 = .ok (.aload_n 0, 1) := by decide +kernel
theorem dX1_comesBefore_12 : decode cX1_comesBefore 12 = .ok (.getfield 32, 3) := by decide +kernel
theorem dX1_comesBefore_15 : decode cX1_comesBefore 15 = .ok (.ireturn, 1) := by decide +kernel
theorem dX1_comesBefore_16 : decode cX1_comesBefore 16 = .ok (.aload_n 0, 1) := by decide +kernel
theorem dX1_comesBefore_17 : decode cX1_comesBefore 17 = .ok (.getfield 25, 3) := by decide +kernel
theorem dX1_comesBefore_20 : decode cX1_comesBefore 20 = .ok (.aload_n 1, 1) := by decide +kernel
theorem dX1_comesBefore_21 : decode cX1_comesBefore 21 = .ok (.getfield 25, 3) := by decide +kernel
theorem dX1_comesBefore_24 : decode cX1_comesBefore 24 = .ok (.if_icmp .eq 20, 3) := by decide +kernel
theorem dX1_comesBefore_27 : decode cX1_comesBefore 27 = .ok (.aload_n 0, 1) := by decide +kernel
theorem dX1_comesBefore_28 : decode cX1_comesBefore 28 = .ok (.getfield 25, 3) := by decide +kernel
theorem dX1_comesBefore_31 : decode cX1_comesBefore 31 = .ok (.aload_n 1, 1) := by decide +kernel
theorem dX1_comesBefore_32 : decode cX1_comesBefore 32 = .ok (.getfield 25, 3) := by decide +kernel
theorem dX1_comesBefore_35 : decode cX1_comesBefore 35 = .ok (.if_icmp .le 7, 3) := by decide +kernel
theorem dX1_comesBefore_38 : decode cX1_comesBefore 38 = .ok (.iconst 1, 1) := by decide +kernel
theorem dX1_comesBefore_39 : decode cX1_comesBefore 39 = .ok (.goto 4, 3) := by decide +kernel
theorem dX1_comesBefore_42 : decode cX1_comesBefore 42 = .ok (.iconst 0, 1) := by decide +kernel
theorem dX1_comesBefore_43 : decode cX1_comesBefore 43 = .ok (.ireturn, 1) := by decide +kernel
theorem dX1_comesBefore_44 : decode cX1_comesBefore 44 = .ok (.aload_n 0, 1) := by decide +kernel
theorem dX1_comesBefore_45 : decode cX1_comesBefore 45 = .ok (.getfield 22, 3) := by decide +kernel
theorem dX1_comesBefore_48 : decode cX1_comesBefore 48 = .ok (.aload_n 1, 1) := by decide +kernel
theorem dX1_comesBefore_49 : decode cX1_comesBefore 49 = .ok (.getfield 22, 3) := by decide +kernel
theorem dX1_comesBefore_52 : decode cX1_comesBefore 52 = .ok (.if_icmp .le 7, 3) := by decide +kernel
theorem dX1_comesBefore_55 : decode cX1_comesBefore 55 = .ok (.iconst 1, 1) := by decide +kernel
theorem dX1_comesBefore_56 : decode cX1_comesBefore 56 = .ok (.goto 4, 3) := by decide +kernel
theorem dX1_comesBefore_59 : decode cX1_comesBefore 59 = .ok (.iconst 0, 1) := by decide +kernel
theorem dX1_comesBefore_60 : decode cX1_comesBefore 60 = .ok (.ireturn, 1) := by decide +kernel
theorem dX2_init_0 : decode cX2_init 0 = .ok (.aload_n 0, 1) := by decide +kernel
theorem dX2_init_1 : decode cX2_init 1 = .ok (.invokespecial 1, 3) := by decide +kernel
theorem dX2_init_4 : decode cX2_init 4 = .ok (.aload_n 0, 1) := by decide +kernel
theorem dX2_init_5 : decode cX2_init 5 = .ok (.iconst 0, 1) := by decide +kernel
theorem dX2_init_6 : decode cX2_init 6 = .ok (.putfield 7, 3) := by decide +kernel
theorem dX2_init_9 : decode cX2_init 9 = .ok (.aload_n 0, 1) := by decide +kernel
theorem dX2_init_10 : decode cX2_init 10 = .ok (.aload_n 1, 1) := by decide +kernel
theorem dX2_init_11 : decode cX2_init 11 = .ok (.putfield 13, 3) := by decide +kernel
theorem dX2_init_14 : decode cX2_init 14 = .ok (.aload_n 0, 1) := by decide +kernel
theorem dX2_init_15 : decode cX2_init 15 = .ok (.iload_n 2, 1) := by decide +kernel
theorem dX2_init_16 : decode cX2_init 16 = .ok (.putfield 17, 3) := by decide +kernel
theorem dX2_init_19 : decode cX2_init 19 = .ok (.return_, 1) := by decide +kernel
set_option maxRecDepth 20000 in
theorem ggX3_init_X0_init : GoodIn wsX3_init wsX0_init := goodIn_r _ [25, 26, 2, 3, 27, 28, 29, 30, 31, 32, 33, 34, 35, 36, 37, 38, 39, 40, 41, 42, 43, 44, 16, 45, 60, 61, 62, 63, 64, 65, 66, 67, 68, 69, 70, 71, 72, 73, 74, 75, 76, 77] (by decide +kernel) (by decide +kernel)
set_option maxRecDepth 20000 in
theorem gX3_init_X0_init_n51 : GoodIn wsX3_init (wsX0_init) := ggX3_init_X0_init
theorem dX3_init_0 : decode cX3_init 0 = .ok (.aload_n 0, 1) := by decide +kernel
theorem dX3_init_1 : decode cX3_init 1 = .ok (.invokespecial 3, 3) := by decide +kernel
theorem dX3_init_4 : decode cX3_init 4 = .ok (.aload_n 0, 1) := by decide +kernel
theorem dX3_init_5 : decode cX3_init 5 = .ok (.bipush 10, 2) := by decide +kernel
theorem dX3_init_7 : decode cX3_init 7 = .ok (.anewarray 9, 3) := by decide +kernel
theorem dX3_init_10 : decode cX3_init 10 = .ok (.putfield 11, 3) := by decide +kernel
theorem dX3_init_13 : decode cX3_init 13 = .ok (.aload_n 0, 1) := by decide +kernel
theorem dX3_init_14 : decode cX3_init 14 = .ok (.iconst 0, 1) := by decide +kernel
theorem dX3_init_15 : decode cX3_init 15 = .ok (.putfield 15, 3) := by decide +kernel
theorem dX3_init_18 : decode cX3_init 18 = .ok (.aload_n 0, 1) := by decide +kernel
theorem dX3_init_19 : decode cX3_init 19 = .ok (.bipush 20, 2) := by decide +kernel
theorem dX3_init_21 : decode cX3_init 21 = .ok (.putfield 19, 3) := by decide +kernel
theorem dX3_init_24 : decode cX3_init 24 = .ok (.aload_n 0, 1) := by decide +kernel
theorem dX3_init_25 : decode cX3_init 25 = .ok (.bipush 60, 2) := by decide +kernel
theorem dX3_init_27 : decode cX3_init 27 = .ok (.putfield 22, 3) := by decide +kernel
theorem dX3_init_30 : decode cX3_init 30 = .ok (.aload_n 0, 1) := by decide +kernel
theorem dX3_init_31 : decode cX3_init 31 = .ok (.sipush 2000, 3) := by decide +kernel
theorem dX3_init_34 : decode cX3_init 34 = .ok (.putfield 25, 3) := by decide +kernel
theorem dX3_init_37 : decode cX3_init 37 = .ok (.aload_n 0, 1) := by decide +kernel
theorem dX3_init_38 : decode cX3_init 38 = .ok (.iconst 0, 1) := by decide +kernel
theorem dX3_init_39 : decode cX3_init 39 = .ok (.putfield 28, 3) := by decide +kernel
theorem dX3_init_42 : decode cX3_init 42 = .ok (.aload_n 0, 1) := by decide +kernel
theorem dX3_init_43 : decode cX3_init 43 = .ok (.bipush 60, 2) := by decide +kernel
theorem dX3_init_45 : decode cX3_init 45 = .ok (.anewarray 32, 3) := by decide +kernel
theorem dX3_init_48 : decode cX3_init 48 = .ok (.putfield 34, 3) := by decide +kernel
theorem dX3_init_51 : decode cX3_init 51 = .ok (.aload_n 0, 1) := by decide +kernel
theorem dX3_init_52 : decode cX3_init 52 = .ok (.iconst 0, 1) := by decide +kernel
theorem dX3_init_53 : decode cX3_init 53 = .ok (.putfield 38, 3) := by decide +kernel
theorem dX3_init_56 : decode cX3_init 56 = .ok (.aload_n 0, 1) := by decide +kernel
theorem dX3_init_57 : decode cX3_init 57 = .ok (.iconst 0, 1) := by decide +kernel
theorem dX3_init_58 : decode cX3_init 58 = .ok (.putfield 41, 3) := by decide +kernel
theorem dX3_init_61 : decode cX3_init 61 = .ok (.aload_n 0, 1) := by decide +kernel
theorem dX3_init_62 : decode cX3_init 62 = .ok (.iconst 0, 1) := by decide +kernel
theorem dX3_init_63 : decode cX3_init 63 = .ok (.putfield 44, 3) := by decide +kernel
theorem dX3_init_66 : decode cX3_init 66 = .ok (.aload_n 0, 1) := by decide +kernel
theorem dX3_init_67 : decode cX3_init 67 = .ok (.bipush 120, 2) := by decide +kernel
theorem dX3_init_69 : decode cX3_init 69 = .ok (.newarray .int, 2) := by decide +kernel
theorem dX3_init_71 : decode cX3_init 71 = .ok (.putfield 47, 3) := by decide +kernel
theorem dX3_init_74 : decode cX3_init 74 = .ok (.aload_n 0, 1) := by decide +kernel
theorem dX3_init_75 : decode cX3_init 75 = .ok (.new 32, 3) := by decide +kernel
theorem dX3_init_78 : decode cX3_init 78 = .ok (.dup, 1) := by decide +kernel
theorem dX3_init_79 : decode cX3_init 79 = .ok (.invokespecial 51, 3) := by decide +kernel
theorem dX3_init_82 : decode cX3_init 82 = .ok (.putfield 52, 3) := by decide +kernel
theorem dX3_init_85 : decode cX3_init 85 = .ok (.aload_n 0, 1) := by decide +kernel
theorem dX3_init_86 : decode cX3_init 86 = .ok (.bipush 20, 2) := by decide +kernel
theorem dX3_init_88 : decode cX3_init 88 = .ok (.anewarray 56, 3) := by decide +kernel
theorem dX3_init_91 : decode cX3_init 91 = .ok (.putfield 58, 3) := by decide +kernel
theorem dX3_init_94 : decode cX3_init 94 = .ok (.aload_n 0, 1) := by decide +kernel
theorem dX3_init_95 : decode cX3_init 95 = .ok (.iconst 0, 1) := by decide +kernel
theorem dX3_init_96 : decode cX3_init 96 = .ok (.putfield 62, 3) := by decide +kernel
theorem dX3_init_99 : decode cX3_init 99 = .ok (.iconst 0, 1) := by decide +kernel
theorem dX3_init_100 : decode cX3_init 100 = .ok (.istore_n 1, 1) := by decide +kernel
theorem dX3_init_101 : decode cX3_init 101 = .ok (.iload_n 1, 1) := by decide +kernel
theorem dX3_init_102 : decode cX3_init 102 = .ok (.bipush 60, 2) := by decide +kernel
theorem dX3_init_104 : decode cX3_init 104 = .ok (.if_icmp .ge 22, 3) := by decide +kernel
theorem dX3_init_107 : decode cX3_init 107 = .ok (.aload_n 0, 1) := by decide +kernel
theorem dX3_init_108 : decode cX3_init 108 = .ok (.getfield 34, 3) := by decide +kernel
theorem dX3_init_111 : decode cX3_init 111 = .ok (.iload_n 1, 1) := by decide +kernel
theorem dX3_init_112 : decode cX3_init 112 = .ok (.new 32, 3) := by decide +kernel
theorem dX3_init_115 : decode cX3_init 115 = .ok (.dup, 1) := by decide +kernel
theorem dX3_init_116 : decode cX3_init 116 = .ok (.invokespecial 51, 3) := by decide +kernel
theorem dX3_init_119 : decode cX3_init 119 = .ok (.aastore, 1) := by decide +kernel
theorem dX3_init_120 : decode cX3_init 120 = .ok (.iinc 1 1, 3) := by decide +kernel
theorem dX3_init_123 : decode cX3_init 123 = .ok (.goto (-22), 3) := by decide +kernel
theorem dX3_init_126 : decode cX3_init 126 = .ok (.return_, 1) := by decide +kernel
set_option maxRecDepth 20000 in
theorem ggX3_addKind_X3_isWithin : GoodIn wsX3_addKind wsX3_isWithin := goodIn_r _ [13] (by decide +kernel) (by decide +kernel)
set_option maxRecDepth 20000 in
theorem gX3_addKind_X3_isWithin : GoodIn wsX3_addKind (va_wsS RX3 65 yX3_isWithin wsX3_isWithin) := goodIn_app (goodIn_of _ (by decide +kernel)) ggX3_addKind_X3_isWithin
set_option maxRecDepth 20000 in
theorem ggX3_addKind_X1_init : GoodIn wsX3_addKind wsX1_init := goodIn_r _ [16, 17, 18, 19, 20, 21, 22, 23, 24, 25, 26, 27, 42, 43, 44, 45, 46, 47, 48, 49] (by decide +kernel) (by decide +kernel)
set_option maxRecDepth 20000 in
theorem gX3_addKind_X1_init : GoodIn wsX3_addKind (wsX1_init) := ggX3_addKind_X1_init
theorem dX3_addKind_0 : decode cX3_addKind 0 = .ok (.iload_n 1, 1) := by decide +kernel
theorem dX3_addKind_1 : decode cX3_addKind 1 = .ok (.iconst 1, 1) := by decide +kernel
theorem dX3_addKind_2 : decode cX3_addKind 2 = .ok (.bipush 6, 2) := by decide +kernel
theorem dX3_addKind_4 : decode cX3_addKind 4 = .ok (.invokestatic 65, 3) := by decide +kernel
theorem dX3_addKind_7 : decode cX3_addKind 7 = .ok (.ifCond .eq 57, 3) := by decide +kernel
theorem dX3_addKind_10 : decode cX3_addKind 10 = .ok (.iload_n 2, 1) := by decide +kernel
theorem dX3_addKind_11 : decode cX3_addKind 11 = .ok (.iconst 1, 1) := by decide +kernel
theorem dX3_addKind_12 : decode cX3_addKind 12 = .ok (.bipush 6, 2) := by decide +kernel
theorem dX3_addKind_14 : decode cX3_addKind 14 = .ok (.invokestatic 65, 3) := by decide +kernel
theorem dX3_addKind_17 : decode cX3_addKind 17 = .ok (.ifCond .eq 47, 3) := by decide +kernel
theorem dX3_addKind_20 : decode cX3_addKind 20 = .ok (.iload_n 3, 1) := by decide +kernel
theorem dX3_addKind_21 : decode cX3_addKind 21 = .ok (.iconst 1, 1) := by decide +kernel
theorem dX3_addKind_22 : decode cX3_addKind 22 = .ok (.bipush 8, 2) := by decide +kernel
theorem dX3_addKind_24 : decode cX3_addKind 24 = .ok (.invokestatic 65, 3) := by decide +kernel
theorem dX3_addKind_27 : decode cX3_addKind 27 = .ok (.ifCond .eq 37, 3) := by decide +kernel
theorem dX3_addKind_30 : decode cX3_addKind 30 = .ok (.iload 4, 2) := by decide +kernel
theorem dX3_addKind_32 : decode cX3_addKind 32 = .ok (.iconst 1, 1) := by decide +kernel
theorem dX3_addKind_33 : decode cX3_addKind 33 = .ok (.sipush 500, 3) := by decide +kernel
theorem dX3_addKind_36 : decode cX3_addKind 36 = .ok (.invokestatic 65, 3) := by decide +kernel
theorem dX3_addKind_39 : decode cX3_addKind 39 = .ok (.ifCond .eq 25, 3) := by decide +kernel
theorem dX3_addKind_42 : decode cX3_addKind 42 = .ok (.iload 5, 2) := by decide +kernel
theorem dX3_addKind_44 : decode cX3_addKind 44 = .ok (.iconst 0, 1) := by decide +kernel
theorem dX3_addKind_45 : decode cX3_addKind 45 = .ok (.sipush 5000, 3) := by decide +kernel
theorem dX3_addKind_48 : decode cX3_addKind 48 = .ok (.invokestatic 65, 3) := by decide +kernel
theorem dX3_addKind_51 : decode cX3_addKind 51 = .ok (.ifCond .eq 13, 3) := by decide +kernel
theorem dX3_addKind_54 : decode cX3_addKind 54 = .ok (.iload 6, 2) := by decide +kernel
theorem dX3_addKind_56 : decode cX3_addKind 56 = .ok (.iconst 0, 1) := by decide +kernel
theorem dX3_addKind_57 : decode cX3_addKind 57 = .ok (.iconst 3, 1) := by decide +kernel
theorem dX3_addKind_58 : decode cX3_addKind 58 = .ok (.invokestatic 65, 3) := by decide +kernel
theorem dX3_addKind_61 : decode cX3_addKind 61 = .ok (.ifCond .ne 11, 3) := by decide +kernel
theorem dX3_addKind_64 : decode cX3_addKind 64 = .ok (.new 69, 3) := by decide +kernel
theorem dX3_addKind_67 : decode cX3_addKind 67 = .ok (.dup, 1) := by decide +kernel
theorem dX3_addKind_68 : decode cX3_addKind 68 = .ok (.invokespecial 71, 3) := by decide +kernel
theorem dX3_addKind_71 : decode cX3_addKind 71 = .ok (.athrow, 1) := by decide +kernel
theorem dX3_addKind_72 : decode cX3_addKind 72 = .ok (.aload_n 0, 1) := by decide +kernel
theorem dX3_addKind_73 : decode cX3_addKind 73 = .ok (.getfield 15, 3) := by decide +kernel
theorem dX3_addKind_76 : decode cX3_addKind 76 = .ok (.ifCond .lt 12, 3) := by decide +kernel
theorem dX3_addKind_79 : decode cX3_addKind 79 = .ok (.aload_n 0, 1) := by decide +kernel
theorem dX3_addKind_80 : decode cX3_addKind 80 = .ok (.getfield 15, 3) := by decide +kernel
theorem dX3_addKind_83 : decode cX3_addKind 83 = .ok (.bipush 10, 2) := by decide +kernel
theorem dX3_addKind_85 : decode cX3_addKind 85 = .ok (.if_icmp .lt 11, 3) := by decide +kernel
theorem dX3_addKind_88 : decode cX3_addKind 88 = .ok (.new 72, 3) := by decide +kernel
theorem dX3_addKind_91 : decode cX3_addKind 91 = .ok (.dup, 1) := by decide +kernel
theorem dX3_addKind_92 : decode cX3_addKind 92 = .ok (.invokespecial 74, 3) := by decide +kernel
theorem dX3_addKind_95 : decode cX3_addKind 95 = .ok (.athrow, 1) := by decide +kernel
theorem dX3_addKind_96 : decode cX3_addKind 96 = .ok (.aload_n 0, 1) := by decide +kernel
theorem dX3_addKind_97 : decode cX3_addKind 97 = .ok (.getfield 15, 3) := by decide +kernel
theorem dX3_addKind_100 : decode cX3_addKind 100 = .ok (.istore 7, 2) := by decide +kernel
theorem dX3_addKind_102 : decode cX3_addKind 102 = .ok (.aload_n 0, 1) := by decide +kernel
theorem dX3_addKind_103 : decode cX3_addKind 103 = .ok (.getfield 11, 3) := by decide +kernel
theorem dX3_addKind_106 : decode cX3_addKind 106 = .ok (.iload 7, 2) := by decide +kernel
theorem dX3_addKind_108 : decode cX3_addKind 108 = .ok (.new 9, 3) := by decide +kernel
theorem dX3_addKind_111 : decode cX3_addKind 111 = .ok (.dup, 1) := by decide +kernel
theorem dX3_addKind_112 : decode cX3_addKind 112 = .ok (.iload 7, 2) := by decide +kernel
theorem dX3_addKind_114 : decode cX3_addKind 114 = .ok (.iload_n 1, 1) := by decide +kernel
theorem dX3_addKind_115 : decode cX3_addKind 115 = .ok (.iload_n 2, 1) := by decide +kernel
theorem dX3_addKind_116 : decode cX3_addKind 116 = .ok (.iload_n 3, 1) := by decide +kernel
theorem dX3_addKind_117 : decode cX3_addKind 117 = .ok (.iload 4, 2) := by decide +kernel
theorem dX3_addKind_119 : decode cX3_addKind 119 = .ok (.iload 5, 2) := by decide +kernel
theorem dX3_addKind_121 : decode cX3_addKind 121 = .ok (.iload 6, 2) := by decide +kernel
theorem dX3_addKind_123 : decode cX3_addKind 123 = .ok (.invokespecial 75, 3) := by decide +kernel
theorem dX3_addKind_126 : decode cX3_addKind 126 = .ok (.aastore, 1) := by decide +kernel
theorem dX3_addKind_127 : decode cX3_addKind 127 = .ok (.aload_n 0, 1) := by decide +kernel
theorem dX3_addKind_128 : decode cX3_addKind 128 = .ok (.iload 7, 2) := by decide +kernel
theorem dX3_addKind_130 : decode cX3_addKind 130 = .ok (.iconst 1, 1) := by decide +kernel
theorem dX3_addKind_131 : decode cX3_addKind 131 = .ok (.iadd, 1) := by decide +kernel
theorem dX3_addKind_132 : decode cX3_addKind 132 = .ok (.putfield 15, 3) := by decide +kernel
theorem dX3_addKind_135 : decode cX3_addKind 135 = .ok (.iload 7, 2) := by decide +kernel
theorem dX3_addKind_137 : decode cX3_addKind 137 = .ok (.ireturn, 1) := by decide +kernel
set_option maxRecDepth 20000 in
theorem ggX3_setRules_X3_isWithin : GoodIn wsX3_setRules wsX3_isWithin := goodIn_r _ [10] (by decide +kernel) (by decide +kernel)
set_option maxRecDepth 20000 in
theorem gX3_setRules_X3_isWithin : GoodIn wsX3_setRules (va_wsS RX3 65 yX3_isWithin wsX3_isWithin) := goodIn_app (goodIn_of _ (by decide +kernel)) ggX3_setRules_X3_isWithin
theorem dX3_setRules_0 : decode cX3_setRules 0 = .ok (.iload_n 1, 1) := by decide +kernel
theorem dX3_setRules_1 : decode cX3_setRules 1 = .ok (.iconst 1, 1) := by decide +kernel
theorem dX3_setRules_2 : decode cX3_setRules 2 = .ok (.bipush 40, 2) := by decide +kernel
theorem dX3_setRules_4 : decode cX3_setRules 4 = .ok (.invokestatic 65, 3) := by decide +kernel
theorem dX3_setRules_7 : decode cX3_setRules 7 = .ok (.ifCond .eq 24, 3) := by decide +kernel
theorem dX3_setRules_10 : decode cX3_setRules 10 = .ok (.iload_n 2, 1) := by decide +kernel
theorem dX3_setRules_11 : decode cX3_setRules 11 = .ok (.iconst 0, 1) := by decide +kernel
theorem dX3_setRules_12 : decode cX3_setRules 12 = .ok (.bipush 100, 2) := by decide +kernel
theorem dX3_setRules_14 : decode cX3_setRules 14 = .ok (.invokestatic 65, 3) := by decide +kernel
theorem dX3_setRules_17 : decode cX3_setRules 17 = .ok (.ifCond .eq 14, 3) := by decide +kernel
theorem dX3_setRules_20 : decode cX3_setRules 20 = .ok (.iload_n 3, 1) := by decide +kernel
theorem dX3_setRules_21 : decode cX3_setRules 21 = .ok (.iconst 1, 1) := by decide +kernel
theorem dX3_setRules_22 : decode cX3_setRules 22 = .ok (.sipush 20000, 3) := by decide +kernel
theorem dX3_setRules_25 : decode cX3_setRules 25 = .ok (.invokestatic 65, 3) := by decide +kernel
theorem dX3_setRules_28 : decode cX3_setRules 28 = .ok (.ifCond .ne 11, 3) := by decide +kernel
theorem dX3_setRules_31 : decode cX3_setRules 31 = .ok (.new 69, 3) := by decide +kernel
theorem dX3_setRules_34 : decode cX3_setRules 34 = .ok (.dup, 1) := by decide +kernel
theorem dX3_setRules_35 : decode cX3_setRules 35 = .ok (.invokespecial 71, 3) := by decide +kernel
theorem dX3_setRules_38 : decode cX3_setRules 38 = .ok (.athrow, 1) := by decide +kernel
theorem dX3_setRules_39 : decode cX3_setRules 39 = .ok (.aload_n 0, 1) := by decide +kernel
theorem dX3_setRules_40 : decode cX3_setRules 40 = .ok (.getfield 19, 3) := by decide +kernel
theorem dX3_setRules_43 : decode cX3_setRules 43 = .ok (.istore 5, 2) := by decide +kernel
theorem dX3_setRules_45 : decode cX3_setRules 45 = .ok (.aload_n 0, 1) := by decide +kernel
theorem dX3_setRules_46 : decode cX3_setRules 46 = .ok (.iload_n 1, 1) := by decide +kernel
theorem dX3_setRules_47 : decode cX3_setRules 47 = .ok (.putfield 19, 3) := by decide +kernel
theorem dX3_setRules_50 : decode cX3_setRules 50 = .ok (.aload_n 0, 1) := by decide +kernel
theorem dX3_setRules_51 : decode cX3_setRules 51 = .ok (.iload_n 2, 1) := by decide +kernel
theorem dX3_setRules_52 : decode cX3_setRules 52 = .ok (.putfield 22, 3) := by decide +kernel
theorem dX3_setRules_55 : decode cX3_setRules 55 = .ok (.aload_n 0, 1) := by decide +kernel
theorem dX3_setRules_56 : decode cX3_setRules 56 = .ok (.iload_n 3, 1) := by decide +kernel
theorem dX3_setRules_57 : decode cX3_setRules 57 = .ok (.putfield 25, 3) := by decide +kernel
theorem dX3_setRules_60 : decode cX3_setRules 60 = .ok (.aload_n 0, 1) := by decide +kernel
theorem dX3_setRules_61 : decode cX3_setRules 61 = .ok (.iload 4, 2) := by decide +kernel
theorem dX3_setRules_63 : decode cX3_setRules 63 = .ok (.putfield 28, 3) := by decide +kernel
theorem dX3_setRules_66 : decode cX3_setRules 66 = .ok (.iload 5, 2) := by decide +kernel
theorem dX3_setRules_68 : decode cX3_setRules 68 = .ok (.ireturn, 1) := by decide +kernel
set_option maxRecDepth 20000 in
theorem ggX3_count_X3_isWithin : GoodIn wsX3_count wsX3_isWithin := goodIn_r _ [6] (by decide +kernel) (by decide +kernel)
set_option maxRecDepth 20000 in
theorem gX3_count_X3_isWithin : GoodIn wsX3_count (va_wsS RX3 65 yX3_isWithin wsX3_isWithin) := goodIn_app (goodIn_of _ (by decide +kernel)) ggX3_count_X3_isWithin
set_option maxRecDepth 20000 in
theorem ggX3_count_X3_countOf : GoodIn wsX3_count wsX3_countOf := goodIn_r _ [10, 11, 12, 13, 14, 15, 16, 17, 18, 19, 20, 21, 22, 23, 24, 25, 26, 27, 28] (by decide +kernel) (by decide +kernel)
set_option maxRecDepth 20000 in
theorem gX3_count_X3_countOf : GoodIn wsX3_count (wsV RX3 81 RX3 yX3_countOf wsX3_countOf) := goodIn_app (goodIn_of _ (by decide +kernel)) ggX3_count_X3_countOf
theorem dX3_count_0 : decode cX3_count 0 = .ok (.iload_n 1, 1) := by decide +kernel
theorem dX3_count_1 : decode cX3_count 1 = .ok (.iconst 0, 1) := by decide +kernel
theorem dX3_count_2 : decode cX3_count 2 = .ok (.iconst 3, 1) := by decide +kernel
theorem dX3_count_3 : decode cX3_count 3 = .ok (.invokestatic 65, 3) := by decide +kernel
theorem dX3_count_6 : decode cX3_count 6 = .ok (.ifCond .ne 11, 3) := by decide +kernel
theorem dX3_count_9 : decode cX3_count 9 = .ok (.new 78, 3) := by decide +kernel
theorem dX3_count_12 : decode cX3_count 12 = .ok (.dup, 1) := by decide +kernel
theorem dX3_count_13 : decode cX3_count 13 = .ok (.invokespecial 80, 3) := by decide +kernel
theorem dX3_count_16 : decode cX3_count 16 = .ok (.athrow, 1) := by decide +kernel
theorem dX3_count_17 : decode cX3_count 17 = .ok (.aload_n 0, 1) := by decide +kernel
theorem dX3_count_18 : decode cX3_count 18 = .ok (.iload_n 1, 1) := by decide +kernel
theorem dX3_count_19 : decode cX3_count 19 = .ok (.invokevirtual 81, 3) := by decide +kernel
theorem dX3_count_22 : decode cX3_count 22 = .ok (.ireturn, 1) := by decide +kernel
set_option maxRecDepth 20000 in
theorem ggX3_item_X3_itemOf : GoodIn wsX3_item wsX3_itemOf := goodIn_r _ [7, 8, 9, 10, 53, 54, 55, 56, 57, 58, 59, 60, 61, 62, 63, 64, 65, 66, 67, 68, 69, 70, 71, 72, 73, 74, 75, 76, 77, 78, 79, 80, 81, 82, 83, 84] (by decide +kernel) (by decide +kernel)
set_option maxRecDepth 20000 in
theorem gX3_item_X3_itemOf : GoodIn wsX3_item (wsV RX3 96 RX3 yX3_itemOf wsX3_itemOf) := goodIn_app (goodIn_of _ (by decide +kernel)) ggX3_item_X3_itemOf
set_option maxRecDepth 20000 in
theorem ggX3_item_X3_isWithin : GoodIn wsX3_item wsX3_isWithin := goodIn_r _ [13] (by decide +kernel) (by decide +kernel)
set_option maxRecDepth 20000 in
theorem gX3_item_X3_isWithin : GoodIn wsX3_item (va_wsS RX3 65 yX3_isWithin wsX3_isWithin) := goodIn_app (goodIn_of _ (by decide +kernel)) ggX3_item_X3_isWithin
set_option maxRecDepth 20000 in
theorem ggX3_item_X3_factOf : GoodIn wsX3_item wsX3_factOf := goodIn_r _ [17, 18, 19, 20, 21, 22, 23, 24, 25, 26, 27, 28, 29, 6, 30, 8, 3, 4, 5, 7, 9, 10, 31, 32, 33, 34, 35, 36, 37, 38, 39, 40, 41, 42, 43, 44, 45, 46, 47, 48, 49, 50, 51, 52, 67, 68, 69, 70, 71, 72, 73, 74, 75, 76, 77, 78, 79, 80, 81, 82, 83, 84, 53, 54, 55, 56, 57, 58, 59, 60, 61, 62, 63, 64, 65, 66] (by decide +kernel) (by decide +kernel)
set_option maxRecDepth 20000 in
theorem gX3_item_X3_factOf : GoodIn wsX3_item (wsV RX3 116 RX3 yX3_factOf wsX3_factOf) := goodIn_app (goodIn_of _ (by decide +kernel)) ggX3_item_X3_factOf
theorem dX3_item_0 : decode cX3_item 0 = .ok (.aload_n 0, 1) := by decide +kernel
theorem dX3_item_1 : decode cX3_item 1 = .ok (.iload_n 1, 1) := by decide +kernel
theorem dX3_item_2 : decode cX3_item 2 = .ok (.invokevirtual 96, 3) := by decide +kernel
theorem dX3_item_5 : decode cX3_item 5 = .ok (.astore_n 3, 1) := by decide +kernel
theorem dX3_item_6 : decode cX3_item 6 = .ok (.aload_n 3, 1) := by decide +kernel
theorem dX3_item_7 : decode cX3_item 7 = .ok (.ifnull 13, 3) := by decide +kernel
theorem dX3_item_10 : decode cX3_item 10 = .ok (.iload_n 2, 1) := by decide +kernel
theorem dX3_item_11 : decode cX3_item 11 = .ok (.iconst 0, 1) := by decide +kernel
theorem dX3_item_12 : decode cX3_item 12 = .ok (.bipush 9, 2) := by decide +kernel
theorem dX3_item_14 : decode cX3_item 14 = .ok (.invokestatic 65, 3) := by decide +kernel
theorem dX3_item_17 : decode cX3_item 17 = .ok (.ifCond .ne 11, 3) := by decide +kernel
theorem dX3_item_20 : decode cX3_item 20 = .ok (.new 78, 3) := by decide +kernel
theorem dX3_item_23 : decode cX3_item 23 = .ok (.dup, 1) := by decide +kernel
theorem dX3_item_24 : decode cX3_item 24 = .ok (.invokespecial 80, 3) := by decide +kernel
theorem dX3_item_27 : decode cX3_item 27 = .ok (.athrow, 1) := by decide +kernel
theorem dX3_item_28 : decode cX3_item 28 = .ok (.aload_n 0, 1) := by decide +kernel
theorem dX3_item_29 : decode cX3_item 29 = .ok (.aload_n 3, 1) := by decide +kernel
theorem dX3_item_30 : decode cX3_item 30 = .ok (.iload_n 2, 1) := by decide +kernel
theorem dX3_item_31 : decode cX3_item 31 = .ok (.invokevirtual 116, 3) := by decide +kernel
theorem dX3_item_34 : decode cX3_item 34 = .ok (.ireturn, 1) := by decide +kernel
set_option maxRecDepth 20000 in
theorem ggX3_at_X3_isCell : GoodIn wsX3_at wsX3_isCell := goodIn_r _ [9, 10, 11, 8, 12] (by decide +kernel) (by decide +kernel)
set_option maxRecDepth 20000 in
theorem gX3_at_X3_isCell : GoodIn wsX3_at (va_wsS RX3 120 yX3_isCell wsX3_isCell) := goodIn_app (goodIn_of _ (by decide +kernel)) ggX3_at_X3_isCell
set_option maxRecDepth 20000 in
theorem ggX3_at_X3_isWithin : GoodIn wsX3_at wsX3_isWithin := goodIn_r _ [12] (by decide +kernel) (by decide +kernel)
set_option maxRecDepth 20000 in
theorem gX3_at_X3_isWithin : GoodIn wsX3_at (va_wsS RX3 65 yX3_isWithin wsX3_isWithin) := goodIn_app (goodIn_of _ (by decide +kernel)) ggX3_at_X3_isWithin
set_option maxRecDepth 20000 in
theorem ggX3_at_X3_itemOf : GoodIn wsX3_at wsX3_itemOf := goodIn_r _ [16, 3, 17, 18, 28, 29, 30, 31, 32, 33, 34, 35, 36, 37, 38, 39, 40, 41, 42, 43, 44, 45, 46, 47, 48, 49, 50, 51, 52, 53, 54, 55, 56, 57, 58, 59] (by decide +kernel) (by decide +kernel)
set_option maxRecDepth 20000 in
theorem gX3_at_X3_itemOf : GoodIn wsX3_at (wsV RX3 96 RX3 yX3_itemOf wsX3_itemOf) := goodIn_app (goodIn_of _ (by decide +kernel)) ggX3_at_X3_itemOf
set_option maxRecDepth 20000 in
theorem ggX3_at_X0_covers : GoodIn wsX3_at wsX0_covers := goodIn_r _ [23, 24, 25, 26, 27, 42, 43, 44, 45, 46, 47, 48, 49, 50, 51, 52, 53, 54, 55, 56, 57, 58, 59] (by decide +kernel) (by decide +kernel)
set_option maxRecDepth 20000 in
theorem gX3_at_X0_covers : GoodIn wsX3_at (wsV RX3 128 RX0 yX0_covers wsX0_covers) := goodIn_app (goodIn_of _ (by decide +kernel)) ggX3_at_X0_covers
theorem dX3_at_0 : decode cX3_at 0 = .ok (.iload_n 1, 1) := by decide +kernel
theorem dX3_at_1 : decode cX3_at 1 = .ok (.iload_n 2, 1) := by decide +kernel
theorem dX3_at_2 : decode cX3_at 2 = .ok (.invokestatic 120, 3) := by decide +kernel
theorem dX3_at_5 : decode cX3_at 5 = .ok (.ifCond .eq 13, 3) := by decide +kernel
theorem dX3_at_8 : decode cX3_at 8 = .ok (.iload_n 3, 1) := by decide +kernel
theorem dX3_at_9 : decode cX3_at 9 = .ok (.iconst 0, 1) := by decide +kernel
theorem dX3_at_10 : decode cX3_at 10 = .ok (.bipush 39, 2) := by decide +kernel
theorem dX3_at_12 : decode cX3_at 12 = .ok (.invokestatic 65, 3) := by decide +kernel
theorem dX3_at_15 : decode cX3_at 15 = .ok (.ifCond .ne 11, 3) := by decide +kernel
theorem dX3_at_18 : decode cX3_at 18 = .ok (.new 78, 3) := by decide +kernel
theorem dX3_at_21 : decode cX3_at 21 = .ok (.dup, 1) := by decide +kernel
theorem dX3_at_22 : decode cX3_at 22 = .ok (.invokespecial 80, 3) := by decide +kernel
theorem dX3_at_25 : decode cX3_at 25 = .ok (.athrow, 1) := by decide +kernel
theorem dX3_at_26 : decode cX3_at 26 = .ok (.iconst 0, 1) := by decide +kernel
theorem dX3_at_27 : decode cX3_at 27 = .ok (.istore 4, 2) := by decide +kernel
theorem dX3_at_29 : decode cX3_at 29 = .ok (.iload 4, 2) := by decide +kernel
theorem dX3_at_31 : decode cX3_at 31 = .ok (.aload_n 0, 1) := by decide +kernel
theorem dX3_at_32 : decode cX3_at 32 = .ok (.getfield 38, 3) := by decide +kernel
theorem dX3_at_35 : decode cX3_at 35 = .ok (.if_icmp .ge 53, 3) := by decide +kernel
theorem dX3_at_38 : decode cX3_at 38 = .ok (.aload_n 0, 1) := by decide +kernel
theorem dX3_at_39 : decode cX3_at 39 = .ok (.iload 4, 2) := by decide +kernel
theorem dX3_at_41 : decode cX3_at 41 = .ok (.invokevirtual 96, 3) := by decide +kernel
theorem dX3_at_44 : decode cX3_at 44 = .ok (.astore 5, 2) := by decide +kernel
theorem dX3_at_46 : decode cX3_at 46 = .ok (.aload 5, 2) := by decide +kernel
theorem dX3_at_48 : decode cX3_at 48 = .ok (.ifnull 34, 3) := by decide +kernel
theorem dX3_at_51 : decode cX3_at 51 = .ok (.aload 5, 2) := by decide +kernel
theorem dX3_at_53 : decode cX3_at 53 = .ok (.iload_n 1, 1) := by decide +kernel
theorem dX3_at_54 : decode cX3_at 54 = .ok (.iload_n 2, 1) := by decide +kernel
theorem dX3_at_55 : decode cX3_at 55 = .ok (.invokevirtual 128, 3) := by decide +kernel
theorem dX3_at_58 : decode cX3_at 58 = .ok (.ifCond .eq 24, 3) := by decide +kernel
theorem dX3_at_61 : decode cX3_at 61 = .ok (.aload 5, 2) := by decide +kernel
theorem dX3_at_63 : decode cX3_at 63 = .ok (.getfield 131, 3) := by decide +kernel
theorem dX3_at_66 : decode cX3_at 66 = .ok (.iload_n 3, 1) := by decide +kernel
theorem dX3_at_67 : decode cX3_at 67 = .ok (.if_icmp .gt 15, 3) := by decide +kernel
theorem dX3_at_70 : decode cX3_at 70 = .ok (.iload_n 3, 1) := by decide +kernel
theorem dX3_at_71 : decode cX3_at 71 = .ok (.aload 5, 2) := by decide +kernel
theorem dX3_at_73 : decode cX3_at 73 = .ok (.getfield 134, 3) := by decide +kernel
theorem dX3_at_76 : decode cX3_at 76 = .ok (.if_icmp .ge 6, 3) := by decide +kernel
theorem dX3_at_79 : decode cX3_at 79 = .ok (.iload 4, 2) := by decide +kernel
theorem dX3_at_81 : decode cX3_at 81 = .ok (.ireturn, 1) := by decide +kernel
theorem dX3_at_82 : decode cX3_at 82 = .ok (.iinc 4 1, 3) := by decide +kernel
theorem dX3_at_85 : decode cX3_at 85 = .ok (.goto (-56), 3) := by decide +kernel
theorem dX3_at_88 : decode cX3_at 88 = .ok (.iconst (-1), 1) := by decide +kernel
theorem dX3_at_89 : decode cX3_at 89 = .ok (.ireturn, 1) := by decide +kernel
set_option maxRecDepth 20000 in
theorem ggX3_restsOn_X3_itemOf : GoodIn wsX3_restsOn wsX3_itemOf := goodIn_r _ [7, 8, 9, 10, 24, 25, 26, 27, 28, 29, 30, 31, 32, 33, 34, 35, 36, 37, 38, 39, 40, 41, 42, 43, 44, 45, 46, 47, 48, 49, 50, 51, 52, 53, 54, 55] (by decide +kernel) (by decide +kernel)
set_option maxRecDepth 20000 in
theorem gX3_restsOn_X3_itemOf : GoodIn wsX3_restsOn (wsV RX3 96 RX3 yX3_itemOf wsX3_itemOf) := goodIn_app (goodIn_of _ (by decide +kernel)) ggX3_restsOn_X3_itemOf
set_option maxRecDepth 20000 in
theorem ggX3_restsOn_X3_isCarriedBy : GoodIn wsX3_restsOn wsX3_isCarriedBy := goodIn_r _ [14, 8, 15, 3, 4, 5, 6, 7, 9, 10, 16, 17, 18, 19, 20, 21, 22, 23, 24, 25, 26, 27, 28, 29, 30, 31, 32, 33, 34, 35, 36, 37, 38, 39, 40, 41, 42, 43, 44, 45, 46, 47, 48, 49, 50, 51, 52, 53, 54, 55] (by decide +kernel) (by decide +kernel)
set_option maxRecDepth 20000 in
theorem gX3_restsOn_X3_isCarriedBy : GoodIn wsX3_restsOn (wsV RX3 137 RX3 yX3_isCarriedBy wsX3_isCarriedBy) := goodIn_app (goodIn_of _ (by decide +kernel)) ggX3_restsOn_X3_isCarriedBy
theorem dX3_restsOn_0 : decode cX3_restsOn 0 = .ok (.aload_n 0, 1) := by decide +kernel
theorem dX3_restsOn_1 : decode cX3_restsOn 1 = .ok (.iload_n 1, 1) := by decide +kernel
theorem dX3_restsOn_2 : decode cX3_restsOn 2 = .ok (.invokevirtual 96, 3) := by decide +kernel
theorem dX3_restsOn_5 : decode cX3_restsOn 5 = .ok (.astore_n 3, 1) := by decide +kernel
theorem dX3_restsOn_6 : decode cX3_restsOn 6 = .ok (.aload_n 0, 1) := by decide +kernel
theorem dX3_restsOn_7 : decode cX3_restsOn 7 = .ok (.iload_n 2, 1) := by decide +kernel
theorem dX3_restsOn_8 : decode cX3_restsOn 8 = .ok (.invokevirtual 96, 3) := by decide +kernel
theorem dX3_restsOn_11 : decode cX3_restsOn 11 = .ok (.astore 4, 2) := by decide +kernel
theorem dX3_restsOn_13 : decode cX3_restsOn 13 = .ok (.aload_n 3, 1) := by decide +kernel
theorem dX3_restsOn_14 : decode cX3_restsOn 14 = .ok (.ifnull 8, 3) := by decide +kernel
theorem dX3_restsOn_17 : decode cX3_restsOn 17 = .ok (.aload 4, 2) := by decide +kernel
theorem dX3_restsOn_19 : decode cX3_restsOn 19 = .ok (.ifnonnull 11, 3) := by decide +kernel
theorem dX3_restsOn_22 : decode cX3_restsOn 22 = .ok (.new 78, 3) := by decide +kernel
theorem dX3_restsOn_25 : decode cX3_restsOn 25 = .ok (.dup, 1) := by decide +kernel
theorem dX3_restsOn_26 : decode cX3_restsOn 26 = .ok (.invokespecial 80, 3) := by decide +kernel
theorem dX3_restsOn_29 : decode cX3_restsOn 29 = .ok (.athrow, 1) := by decide +kernel
theorem dX3_restsOn_30 : decode cX3_restsOn 30 = .ok (.aload_n 0, 1) := by decide +kernel
theorem dX3_restsOn_31 : decode cX3_restsOn 31 = .ok (.aload_n 3, 1) := by decide +kernel
theorem dX3_restsOn_32 : decode cX3_restsOn 32 = .ok (.aload 4, 2) := by decide +kernel
theorem dX3_restsOn_34 : decode cX3_restsOn 34 = .ok (.invokevirtual 137, 3) := by decide +kernel
theorem dX3_restsOn_37 : decode cX3_restsOn 37 = .ok (.ireturn, 1) := by decide +kernel
set_option maxRecDepth 20000 in
theorem ggX3_addLine_X3_kindOf : GoodIn wsX3_addLine wsX3_kindOf := goodIn_r _ [16, 17, 18, 19, 20, 15, 21, 31, 32, 33, 34, 35, 36, 37, 38, 39, 40, 41, 42, 43, 44] (by decide +kernel) (by decide +kernel)
set_option maxRecDepth 20000 in
theorem gX3_addLine_X3_kindOf : GoodIn wsX3_addLine (wsV RX3 85 RX3 yX3_kindOf wsX3_kindOf) := goodIn_app (goodIn_of _ (by decide +kernel)) ggX3_addLine_X3_kindOf
set_option maxRecDepth 20000 in
theorem ggX3_addLine_X3_isWithin : GoodIn wsX3_addLine wsX3_isWithin := goodIn_r _ [21] (by decide +kernel) (by decide +kernel)
set_option maxRecDepth 20000 in
theorem gX3_addLine_X3_isWithin : GoodIn wsX3_addLine (va_wsS RX3 65 yX3_isWithin wsX3_isWithin) := goodIn_app (goodIn_of _ (by decide +kernel)) ggX3_addLine_X3_isWithin
set_option maxRecDepth 20000 in
theorem ggX3_addLine_X2_init : GoodIn wsX3_addLine wsX2_init := goodIn_r _ [24, 25, 26, 27, 28, 29, 30, 45, 46, 47] (by decide +kernel) (by decide +kernel)
set_option maxRecDepth 20000 in
theorem gX3_addLine_X2_init : GoodIn wsX3_addLine (wsX2_init) := ggX3_addLine_X2_init
theorem dX3_addLine_0 : decode cX3_addLine 0 = .ok (.aload_n 0, 1) := by decide +kernel
theorem dX3_addLine_1 : decode cX3_addLine 1 = .ok (.iload_n 1, 1) := by decide +kernel
theorem dX3_addLine_2 : decode cX3_addLine 2 = .ok (.invokevirtual 85, 3) := by decide +kernel
theorem dX3_addLine_5 : decode cX3_addLine 5 = .ok (.astore_n 3, 1) := by decide +kernel
theorem dX3_addLine_6 : decode cX3_addLine 6 = .ok (.aload_n 3, 1) := by decide +kernel
theorem dX3_addLine_7 : decode cX3_addLine 7 = .ok (.ifnonnull 11, 3) := by decide +kernel
theorem dX3_addLine_10 : decode cX3_addLine 10 = .ok (.new 78, 3) := by decide +kernel
theorem dX3_addLine_13 : decode cX3_addLine 13 = .ok (.dup, 1) := by decide +kernel
theorem dX3_addLine_14 : decode cX3_addLine 14 = .ok (.invokespecial 80, 3) := by decide +kernel
theorem dX3_addLine_17 : decode cX3_addLine 17 = .ok (.athrow, 1) := by decide +kernel
theorem dX3_addLine_18 : decode cX3_addLine 18 = .ok (.iload_n 2, 1) := by decide +kernel
theorem dX3_addLine_19 : decode cX3_addLine 19 = .ok (.iconst 1, 1) := by decide +kernel
theorem dX3_addLine_20 : decode cX3_addLine 20 = .ok (.bipush 20, 2) := by decide +kernel
theorem dX3_addLine_22 : decode cX3_addLine 22 = .ok (.invokestatic 65, 3) := by decide +kernel
theorem dX3_addLine_25 : decode cX3_addLine 25 = .ok (.ifCond .ne 11, 3) := by decide +kernel
theorem dX3_addLine_28 : decode cX3_addLine 28 = .ok (.new 69, 3) := by decide +kernel
theorem dX3_addLine_31 : decode cX3_addLine 31 = .ok (.dup, 1) := by decide +kernel
theorem dX3_addLine_32 : decode cX3_addLine 32 = .ok (.invokespecial 71, 3) := by decide +kernel
theorem dX3_addLine_35 : decode cX3_addLine 35 = .ok (.athrow, 1) := by decide +kernel
theorem dX3_addLine_36 : decode cX3_addLine 36 = .ok (.aload_n 0, 1) := by decide +kernel
theorem dX3_addLine_37 : decode cX3_addLine 37 = .ok (.getfield 62, 3) := by decide +kernel
theorem dX3_addLine_40 : decode cX3_addLine 40 = .ok (.ifCond .lt 12, 3) := by decide +kernel
theorem dX3_addLine_43 : decode cX3_addLine 43 = .ok (.aload_n 0, 1) := by decide +kernel
theorem dX3_addLine_44 : decode cX3_addLine 44 = .ok (.getfield 62, 3) := by decide +kernel
theorem dX3_addLine_47 : decode cX3_addLine 47 = .ok (.bipush 20, 2) := by decide +kernel
theorem dX3_addLine_49 : decode cX3_addLine 49 = .ok (.if_icmp .lt 11, 3) := by decide +kernel
theorem dX3_addLine_52 : decode cX3_addLine 52 = .ok (.new 72, 3) := by decide +kernel
theorem dX3_addLine_55 : decode cX3_addLine 55 = .ok (.dup, 1) := by decide +kernel
theorem dX3_addLine_56 : decode cX3_addLine 56 = .ok (.invokespecial 74, 3) := by decide +kernel
theorem dX3_addLine_59 : decode cX3_addLine 59 = .ok (.athrow, 1) := by decide +kernel
theorem dX3_addLine_60 : decode cX3_addLine 60 = .ok (.aload_n 0, 1) := by decide +kernel
theorem dX3_addLine_61 : decode cX3_addLine 61 = .ok (.getfield 62, 3) := by decide +kernel
theorem dX3_addLine_64 : decode cX3_addLine 64 = .ok (.istore 4, 2) := by decide +kernel
theorem dX3_addLine_66 : decode cX3_addLine 66 = .ok (.aload_n 0, 1) := by decide +kernel
theorem dX3_addLine_67 : decode cX3_addLine 67 = .ok (.getfield 58, 3) := by decide +kernel
theorem dX3_addLine_70 : decode cX3_addLine 70 = .ok (.iload 4, 2) := by decide +kernel
theorem dX3_addLine_72 : decode cX3_addLine 72 = .ok (.new 56, 3) := by decide +kernel
theorem dX3_addLine_75 : decode cX3_addLine 75 = .ok (.dup, 1) := by decide +kernel
theorem dX3_addLine_76 : decode cX3_addLine 76 = .ok (.aload_n 3, 1) := by decide +kernel
theorem dX3_addLine_77 : decode cX3_addLine 77 = .ok (.iload_n 2, 1) := by decide +kernel
theorem dX3_addLine_78 : decode cX3_addLine 78 = .ok (.invokespecial 149, 3) := by decide +kernel
theorem dX3_addLine_81 : decode cX3_addLine 81 = .ok (.aastore, 1) := by decide +kernel
theorem dX3_addLine_82 : decode cX3_addLine 82 = .ok (.aload_n 0, 1) := by decide +kernel
theorem dX3_addLine_83 : decode cX3_addLine 83 = .ok (.iload 4, 2) := by decide +kernel
theorem dX3_addLine_85 : decode cX3_addLine 85 = .ok (.iconst 1, 1) := by decide +kernel
theorem dX3_addLine_86 : decode cX3_addLine 86 = .ok (.iadd, 1) := by decide +kernel
theorem dX3_addLine_87 : decode cX3_addLine 87 = .ok (.putfield 62, 3) := by decide +kernel
theorem dX3_addLine_90 : decode cX3_addLine 90 = .ok (.iload 4, 2) := by decide +kernel
theorem dX3_addLine_92 : decode cX3_addLine 92 = .ok (.ireturn, 1) := by decide +kernel
set_option maxRecDepth 20000 in
theorem ggX3_stack_X3_lineOf : GoodIn wsX3_stack wsX3_lineOf := goodIn_r _ [9, 1, 10, 11, 12, 8, 13, 171, 172, 173, 174, 175, 176, 177, 178, 179, 180, 181, 182, 183, 184] (by decide +kernel) (by decide +kernel)
set_option maxRecDepth 20000 in
theorem gX3_stack_X3_lineOf : GoodIn wsX3_stack (wsV RX3 152 RX3 yX3_lineOf wsX3_lineOf) := goodIn_app (goodIn_of _ (by decide +kernel)) ggX3_stack_X3_lineOf
set_option maxRecDepth 20000 in
theorem ggX3_stack_X3_nextLine : GoodIn wsX3_stack wsX3_nextLine := goodIn_r _ [17, 1, 4, 2, 3, 5, 6, 7, 8, 9, 10, 11, 12, 13, 18, 19, 20, 21, 22, 23, 24, 25, 171, 172, 173, 174, 175, 176, 177, 178, 179, 180, 181, 182, 183, 184, 185, 186, 187, 188, 189, 190, 191, 192, 193, 194, 195] (by decide +kernel) (by decide +kernel)
set_option maxRecDepth 20000 in
theorem gX3_stack_X3_nextLine : GoodIn wsX3_stack (wsV RX3 159 RX3 yX3_nextLine wsX3_nextLine) := goodIn_app (goodIn_of _ (by decide +kernel)) ggX3_stack_X3_nextLine
set_option maxRecDepth 20000 in
theorem ggX3_stack_X3_putAtBest : GoodIn wsX3_stack wsX3_putAtBest := goodIn_r _ [29, 30, 31, 32, 33, 8, 34, 35, 36, 37, 38, 39, 40, 41, 42, 43, 44, 45, 46, 47, 48, 49, 50, 51, 52, 11, 12, 13, 53, 54, 55, 56, 57, 58, 59, 60, 61, 62, 63, 64, 65, 66, 67, 68, 69, 70, 71, 72, 73, 74, 75, 76, 77, 78, 79, 80, 81, 82, 83, 84, 85, 86, 87, 88, 89, 90, 91, 92, 93, 94, 95, 96, 97, 98, 99, 100, 101, 102, 103, 104, 105, 106, 107, 108, 109, 110, 111, 112, 113, 114, 115, 116, 117, 118, 119, 120, 121, 122, 123, 124, 125, 126, 127, 128, 129, 130, 131, 132, 133, 134, 135, 136, 137, 138, 139, 140, 141, 142, 143, 144, 145, 146, 147, 148, 149, 150, 151, 152, 153, 154, 155, 156, 157, 158, 159, 160, 161, 162, 163, 164, 165, 166, 167, 168, 169, 170, 171, 172, 173, 174, 175, 176, 177, 178, 179, 180, 181, 182, 183, 184, 196, 197, 198, 199, 200, 201, 202, 203, 204, 205, 206, 207, 208, 209, 210, 211, 212, 213, 188, 189, 190, 191, 192, 193, 194, 195] (by decide +kernel) (by decide +kernel)
set_option maxRecDepth 20000 in
theorem gX3_stack_X3_putAtBest : GoodIn wsX3_stack (wsV RX3 145 RX3 yX3_putAtBest wsX3_putAtBest) := goodIn_app (goodIn_of _ (by decide +kernel)) ggX3_stack_X3_putAtBest
theorem dX3_stack_0 : decode cX3_stack 0 = .ok (.iconst 0, 1) := by decide +kernel
theorem dX3_stack_1 : decode cX3_stack 1 = .ok (.istore_n 1, 1) := by decide +kernel
theorem dX3_stack_2 : decode cX3_stack 2 = .ok (.iload_n 1, 1) := by decide +kernel
theorem dX3_stack_3 : decode cX3_stack 3 = .ok (.aload_n 0, 1) := by decide +kernel
theorem dX3_stack_4 : decode cX3_stack 4 = .ok (.getfield 62, 3) := by decide +kernel
theorem dX3_stack_7 : decode cX3_stack 7 = .ok (.if_icmp .ge 24, 3) := by decide +kernel
theorem dX3_stack_10 : decode cX3_stack 10 = .ok (.aload_n 0, 1) := by decide +kernel
theorem dX3_stack_11 : decode cX3_stack 11 = .ok (.iload_n 1, 1) := by decide +kernel
theorem dX3_stack_12 : decode cX3_stack 12 = .ok (.invokevirtual 152, 3) := by decide +kernel
theorem dX3_stack_15 : decode cX3_stack 15 = .ok (.astore_n 2, 1) := by decide +kernel
theorem dX3_stack_16 : decode cX3_stack 16 = .ok (.aload_n 2, 1) := by decide +kernel
theorem dX3_stack_17 : decode cX3_stack 17 = .ok (.ifnull 8, 3) := by decide +kernel
theorem dX3_stack_20 : decode cX3_stack 20 = .ok (.aload_n 2, 1) := by decide +kernel
theorem dX3_stack_21 : decode cX3_stack 21 = .ok (.iconst 0, 1) := by decide +kernel
theorem dX3_stack_22 : decode cX3_stack 22 = .ok (.putfield 156, 3) := by decide +kernel
theorem dX3_stack_25 : decode cX3_stack 25 = .ok (.iinc 1 1, 3) := by decide +kernel
theorem dX3_stack_28 : decode cX3_stack 28 = .ok (.goto (-26), 3) := by decide +kernel
theorem dX3_stack_31 : decode cX3_stack 31 = .ok (.iconst 0, 1) := by decide +kernel
theorem dX3_stack_32 : decode cX3_stack 32 = .ok (.istore_n 1, 1) := by decide +kernel
theorem dX3_stack_33 : decode cX3_stack 33 = .ok (.iconst 0, 1) := by decide +kernel
theorem dX3_stack_34 : decode cX3_stack 34 = .ok (.istore_n 2, 1) := by decide +kernel
theorem dX3_stack_35 : decode cX3_stack 35 = .ok (.iload_n 2, 1) := by decide +kernel
theorem dX3_stack_36 : decode cX3_stack 36 = .ok (.bipush 80, 2) := by decide +kernel
theorem dX3_stack_38 : decode cX3_stack 38 = .ok (.if_icmp .ge 52, 3) := by decide +kernel
theorem dX3_stack_41 : decode cX3_stack 41 = .ok (.aload_n 0, 1) := by decide +kernel
theorem dX3_stack_42 : decode cX3_stack 42 = .ok (.invokevirtual 159, 3) := by decide +kernel
theorem dX3_stack_45 : decode cX3_stack 45 = .ok (.astore_n 3, 1) := by decide +kernel
theorem dX3_stack_46 : decode cX3_stack 46 = .ok (.aload_n 3, 1) := by decide +kernel
theorem dX3_stack_47 : decode cX3_stack 47 = .ok (.ifnonnull 5, 3) := by decide +kernel
theorem dX3_stack_50 : decode cX3_stack 50 = .ok (.iload_n 1, 1) := by decide +kernel
theorem dX3_stack_51 : decode cX3_stack 51 = .ok (.ireturn, 1) := by decide +kernel
theorem dX3_stack_52 : decode cX3_stack 52 = .ok (.aload_n 0, 1) := by decide +kernel
theorem dX3_stack_53 : decode cX3_stack 53 = .ok (.aload_n 3, 1) := by decide +kernel
theorem dX3_stack_54 : decode cX3_stack 54 = .ok (.getfield 163, 3) := by decide +kernel
theorem dX3_stack_57 : decode cX3_stack 57 = .ok (.invokevirtual 145, 3) := by decide +kernel
theorem dX3_stack_60 : decode cX3_stack 60 = .ok (.ifCond .eq 19, 3) := by decide +kernel
theorem dX3_stack_63 : decode cX3_stack 63 = .ok (.aload_n 3, 1) := by decide +kernel
theorem dX3_stack_64 : decode cX3_stack 64 = .ok (.dup, 1) := by decide +kernel
theorem dX3_stack_65 : decode cX3_stack 65 = .ok (.getfield 167, 3) := by decide +kernel
theorem dX3_stack_68 : decode cX3_stack 68 = .ok (.iconst 1, 1) := by decide +kernel
theorem dX3_stack_69 : decode cX3_stack 69 = .ok (.isub, 1) := by decide +kernel
theorem dX3_stack_70 : decode cX3_stack 70 = .ok (.putfield 167, 3) := by decide +kernel
theorem dX3_stack_73 : decode cX3_stack 73 = .ok (.iinc 1 1, 3) := by decide +kernel
theorem dX3_stack_76 : decode cX3_stack 76 = .ok (.goto 8, 3) := by decide +kernel
theorem dX3_stack_79 : decode cX3_stack 79 = .ok (.aload_n 3, 1) := by decide +kernel
theorem dX3_stack_80 : decode cX3_stack 80 = .ok (.iconst 1, 1) := by decide +kernel
theorem dX3_stack_81 : decode cX3_stack 81 = .ok (.putfield 156, 3) := by decide +kernel
theorem dX3_stack_84 : decode cX3_stack 84 = .ok (.iinc 2 1, 3) := by decide +kernel
theorem dX3_stack_87 : decode cX3_stack 87 = .ok (.goto (-52), 3) := by decide +kernel
theorem dX3_stack_90 : decode cX3_stack 90 = .ok (.iload_n 1, 1) := by decide +kernel
theorem dX3_stack_91 : decode cX3_stack 91 = .ok (.ireturn, 1) := by decide +kernel
set_option maxRecDepth 20000 in
theorem ggX3_line_X3_lineOf : GoodIn wsX3_line wsX3_lineOf := goodIn_r _ [10, 11, 12, 13, 14, 9, 15, 27, 28, 29, 30, 31, 32, 33, 34, 35, 36, 37, 38, 39, 40] (by decide +kernel) (by decide +kernel)
set_option maxRecDepth 20000 in
theorem gX3_line_X3_lineOf : GoodIn wsX3_line (wsV RX3 152 RX3 yX3_lineOf wsX3_lineOf) := goodIn_app (goodIn_of _ (by decide +kernel)) ggX3_line_X3_lineOf
theorem dX3_line_0 : decode cX3_line 0 = .ok (.aload_n 0, 1) := by decide +kernel
theorem dX3_line_1 : decode cX3_line 1 = .ok (.iload_n 1, 1) := by decide +kernel
theorem dX3_line_2 : decode cX3_line 2 = .ok (.invokevirtual 152, 3) := by decide +kernel
theorem dX3_line_5 : decode cX3_line 5 = .ok (.astore_n 3, 1) := by decide +kernel
theorem dX3_line_6 : decode cX3_line 6 = .ok (.aload_n 3, 1) := by decide +kernel
theorem dX3_line_7 : decode cX3_line 7 = .ok (.ifnonnull 11, 3) := by decide +kernel
theorem dX3_line_10 : decode cX3_line 10 = .ok (.new 78, 3) := by decide +kernel
theorem dX3_line_13 : decode cX3_line 13 = .ok (.dup, 1) := by decide +kernel
theorem dX3_line_14 : decode cX3_line 14 = .ok (.invokespecial 80, 3) := by decide +kernel
theorem dX3_line_17 : decode cX3_line 17 = .ok (.athrow, 1) := by decide +kernel
theorem dX3_line_18 : decode cX3_line 18 = .ok (.iload_n 2, 1) := by decide +kernel
theorem dX3_line_19 : decode cX3_line 19 = .ok (.ifCond .eq 10, 3) := by decide +kernel
theorem dX3_line_22 : decode cX3_line 22 = .ok (.aload_n 3, 1) := by decide +kernel
theorem dX3_line_23 : decode cX3_line 23 = .ok (.getfield 167, 3) := by decide +kernel
theorem dX3_line_26 : decode cX3_line 26 = .ok (.goto 10, 3) := by decide +kernel
theorem dX3_line_29 : decode cX3_line 29 = .ok (.aload_n 3, 1) := by decide +kernel
theorem dX3_line_30 : decode cX3_line 30 = .ok (.getfield 163, 3) := by decide +kernel
theorem dX3_line_33 : decode cX3_line 33 = .ok (.getfield 170, 3) := by decide +kernel
theorem dX3_line_36 : decode cX3_line 36 = .ok (.ireturn, 1) := by decide +kernel
set_option maxRecDepth 20000 in
theorem ggX3_sum_X3_isWithin : GoodIn wsX3_sum wsX3_isWithin := goodIn_r _ [6] (by decide +kernel) (by decide +kernel)
set_option maxRecDepth 20000 in
theorem gX3_sum_X3_isWithin : GoodIn wsX3_sum (va_wsS RX3 65 yX3_isWithin wsX3_isWithin) := goodIn_app (goodIn_of _ (by decide +kernel)) ggX3_sum_X3_isWithin
set_option maxRecDepth 20000 in
theorem ggX3_sum_X3_sumOf : GoodIn wsX3_sum wsX3_sumOf := goodIn_r _ [10, 11, 12, 13, 14, 5, 15, 16, 17, 18, 19, 20, 21, 22, 23, 24, 25, 26, 27, 28, 29, 30, 31, 32, 33, 34, 35, 36, 37, 38, 39, 40, 41, 42, 43, 44, 45, 46, 47, 48, 49, 50, 51, 52, 53, 54, 55, 56, 57, 58, 59, 60, 61, 62, 63, 64, 65, 66, 67, 68, 69, 70, 71, 72] (by decide +kernel) (by decide +kernel)
set_option maxRecDepth 20000 in
theorem gX3_sum_X3_sumOf : GoodIn wsX3_sum (wsV RX3 173 RX3 yX3_sumOf wsX3_sumOf) := goodIn_app (goodIn_of _ (by decide +kernel)) ggX3_sum_X3_sumOf
theorem dX3_sum_0 : decode cX3_sum 0 = .ok (.iload_n 1, 1) := by decide +kernel
theorem dX3_sum_1 : decode cX3_sum 1 = .ok (.iconst 0, 1) := by decide +kernel
theorem dX3_sum_2 : decode cX3_sum 2 = .ok (.iconst 3, 1) := by decide +kernel
theorem dX3_sum_3 : decode cX3_sum 3 = .ok (.invokestatic 65, 3) := by decide +kernel
theorem dX3_sum_6 : decode cX3_sum 6 = .ok (.ifCond .ne 11, 3) := by decide +kernel
theorem dX3_sum_9 : decode cX3_sum 9 = .ok (.new 78, 3) := by decide +kernel
theorem dX3_sum_12 : decode cX3_sum 12 = .ok (.dup, 1) := by decide +kernel
theorem dX3_sum_13 : decode cX3_sum 13 = .ok (.invokespecial 80, 3) := by decide +kernel
theorem dX3_sum_16 : decode cX3_sum 16 = .ok (.athrow, 1) := by decide +kernel
theorem dX3_sum_17 : decode cX3_sum 17 = .ok (.aload_n 0, 1) := by decide +kernel
theorem dX3_sum_18 : decode cX3_sum 18 = .ok (.iload_n 1, 1) := by decide +kernel
theorem dX3_sum_19 : decode cX3_sum 19 = .ok (.invokevirtual 173, 3) := by decide +kernel
theorem dX3_sum_22 : decode cX3_sum 22 = .ok (.ireturn, 1) := by decide +kernel
set_option maxRecDepth 20000 in
theorem ggX3_filled_X3_itemOf : GoodIn wsX3_filled wsX3_itemOf := goodIn_r _ [8, 1, 9, 10, 22, 23, 24, 25, 26, 27, 28, 29, 30, 31, 32, 33, 34, 35, 36, 37, 38, 39, 40, 41, 42, 43, 44, 45, 46, 47, 48, 49, 50, 51, 52, 53] (by decide +kernel) (by decide +kernel)
set_option maxRecDepth 20000 in
theorem gX3_filled_X3_itemOf : GoodIn wsX3_filled (wsV RX3 96 RX3 yX3_itemOf wsX3_itemOf) := goodIn_app (goodIn_of _ (by decide +kernel)) ggX3_filled_X3_itemOf
set_option maxRecDepth 20000 in
theorem ggX3_filled_X0_cells : GoodIn wsX3_filled wsX0_cells := goodIn_r _ [15, 16, 17, 36, 37, 38, 39, 40, 41, 42, 43, 44, 45, 46, 47, 48, 49, 50, 51, 52, 53] (by decide +kernel) (by decide +kernel)
set_option maxRecDepth 20000 in
theorem gX3_filled_X0_cells : GoodIn wsX3_filled (wsV RX3 188 RX0 yX0_cells wsX0_cells) := goodIn_app (goodIn_of _ (by decide +kernel)) ggX3_filled_X0_cells
set_option maxRecDepth 20000 in
theorem ggX3_filled_X3_greatestTop : GoodIn wsX3_filled wsX3_greatestTop := goodIn_r _ [21, 1, 2, 4, 5, 6, 7, 8, 9, 10, 22, 23, 24, 25, 26, 27, 28, 29, 30, 31, 32, 33, 34, 35, 36, 37, 38, 39, 40, 41, 42, 43, 44, 45, 46, 47, 48, 49, 50, 51, 52, 53] (by decide +kernel) (by decide +kernel)
set_option maxRecDepth 20000 in
theorem gX3_filled_X3_greatestTop : GoodIn wsX3_filled (wsV RX3 192 RX3 yX3_greatestTop wsX3_greatestTop) := goodIn_app (goodIn_of _ (by decide +kernel)) ggX3_filled_X3_greatestTop
theorem dX3_filled_0 : decode cX3_filled 0 = .ok (.iconst 0, 1) := by decide +kernel
theorem dX3_filled_1 : decode cX3_filled 1 = .ok (.istore_n 1, 1) := by decide +kernel
theorem dX3_filled_2 : decode cX3_filled 2 = .ok (.iconst 0, 1) := by decide +kernel
theorem dX3_filled_3 : decode cX3_filled 3 = .ok (.istore_n 2, 1) := by decide +kernel
theorem dX3_filled_4 : decode cX3_filled 4 = .ok (.iload_n 2, 1) := by decide +kernel
theorem dX3_filled_5 : decode cX3_filled 5 = .ok (.aload_n 0, 1) := by decide +kernel
theorem dX3_filled_6 : decode cX3_filled 6 = .ok (.getfield 38, 3) := by decide +kernel
theorem dX3_filled_9 : decode cX3_filled 9 = .ok (.if_icmp .ge 36, 3) := by decide +kernel
theorem dX3_filled_12 : decode cX3_filled 12 = .ok (.aload_n 0, 1) := by decide +kernel
theorem dX3_filled_13 : decode cX3_filled 13 = .ok (.iload_n 2, 1) := by decide +kernel
theorem dX3_filled_14 : decode cX3_filled 14 = .ok (.invokevirtual 96, 3) := by decide +kernel
theorem dX3_filled_17 : decode cX3_filled 17 = .ok (.astore_n 3, 1) := by decide +kernel
theorem dX3_filled_18 : decode cX3_filled 18 = .ok (.aload_n 3, 1) := by decide +kernel
theorem dX3_filled_19 : decode cX3_filled 19 = .ok (.ifnull 20, 3) := by decide +kernel
theorem dX3_filled_22 : decode cX3_filled 22 = .ok (.iload_n 1, 1) := by decide +kernel
theorem dX3_filled_23 : decode cX3_filled 23 = .ok (.aload_n 3, 1) := by decide +kernel
theorem dX3_filled_24 : decode cX3_filled 24 = .ok (.invokevirtual 188, 3) := by decide +kernel
theorem dX3_filled_27 : decode cX3_filled 27 = .ok (.aload_n 3, 1) := by decide +kernel
theorem dX3_filled_28 : decode cX3_filled 28 = .ok (.getfield 134, 3) := by decide +kernel
theorem dX3_filled_31 : decode cX3_filled 31 = .ok (.aload_n 3, 1) := by decide +kernel
theorem dX3_filled_32 : decode cX3_filled 32 = .ok (.getfield 131, 3) := by decide +kernel
theorem dX3_filled_35 : decode cX3_filled 35 = .ok (.isub, 1) := by decide +kernel
theorem dX3_filled_36 : decode cX3_filled 36 = .ok (.imul, 1) := by decide +kernel
theorem dX3_filled_37 : decode cX3_filled 37 = .ok (.iadd, 1) := by decide +kernel
theorem dX3_filled_38 : decode cX3_filled 38 = .ok (.istore_n 1, 1) := by decide +kernel
theorem dX3_filled_39 : decode cX3_filled 39 = .ok (.iinc 2 1, 3) := by decide +kernel
theorem dX3_filled_42 : decode cX3_filled 42 = .ok (.goto (-38), 3) := by decide +kernel
theorem dX3_filled_45 : decode cX3_filled 45 = .ok (.aload_n 0, 1) := by decide +kernel
theorem dX3_filled_46 : decode cX3_filled 46 = .ok (.invokevirtual 192, 3) := by decide +kernel
theorem dX3_filled_49 : decode cX3_filled 49 = .ok (.istore_n 2, 1) := by decide +kernel
theorem dX3_filled_50 : decode cX3_filled 50 = .ok (.iload_n 2, 1) := by decide +kernel
theorem dX3_filled_51 : decode cX3_filled 51 = .ok (.ifCond .gt 7, 3) := by decide +kernel
theorem dX3_filled_54 : decode cX3_filled 54 = .ok (.dconst 0, 1) := by decide +kernel
theorem dX3_filled_55 : decode cX3_filled 55 = .ok (.goto 11, 3) := by decide +kernel
theorem dX3_filled_58 : decode cX3_filled 58 = .ok (.iload_n 1, 1) := by decide +kernel
theorem dX3_filled_59 : decode cX3_filled 59 = .ok (.i2d, 1) := by decide +kernel
theorem dX3_filled_60 : decode cX3_filled 60 = .ok (.bipush 120, 2) := by decide +kernel
theorem dX3_filled_62 : decode cX3_filled 62 = .ok (.iload_n 2, 1) := by decide +kernel
theorem dX3_filled_63 : decode cX3_filled 63 = .ok (.imul, 1) := by decide +kernel
theorem dX3_filled_64 : decode cX3_filled 64 = .ok (.i2d, 1) := by decide +kernel
theorem dX3_filled_65 : decode cX3_filled 65 = .ok (.ddiv, 1) := by decide +kernel
theorem dX3_filled_66 : decode cX3_filled 66 = .ok (.dreturn, 1) := by decide +kernel
theorem dX3_isWithin_0 : decode cX3_isWithin 0 = .ok (.iload_n 0, 1) := by decide +kernel
theorem dX3_isWithin_1 : decode cX3_isWithin 1 = .ok (.iload_n 1, 1) := by decide +kernel
theorem dX3_isWithin_2 : decode cX3_isWithin 2 = .ok (.if_icmp .lt 12, 3) := by decide +kernel
theorem dX3_isWithin_5 : decode cX3_isWithin 5 = .ok (.iload_n 0, 1) := by decide +kernel
theorem dX3_isWithin_6 : decode cX3_isWithin 6 = .ok (.iload_n 2, 1) := by decide +kernel
theorem dX3_isWithin_7 : decode cX3_isWithin 7 = .ok (.if_icmp .gt 7, 3) := by decide +kernel
theorem dX3_isWithin_10 : decode cX3_isWithin 10 = .ok (.iconst 1, 1) := by decide +kernel
theorem dX3_isWithin_11 : decode cX3_isWithin 11 = .ok (.goto 4, 3) := by decide +kernel
theorem dX3_isWithin_14 : decode cX3_isWithin 14 = .ok (.iconst 0, 1) := by decide +kernel
theorem dX3_isWithin_15 : decode cX3_isWithin 15 = .ok (.ireturn, 1) := by decide +kernel
set_option maxRecDepth 20000 in
theorem ggX3_isCell_X3_isWithin : GoodIn wsX3_isCell wsX3_isWithin := goodIn_r _ [4] (by decide +kernel) (by decide +kernel)
set_option maxRecDepth 20000 in
theorem gX3_isCell_X3_isWithin : GoodIn wsX3_isCell (va_wsS RX3 65 yX3_isWithin wsX3_isWithin) := goodIn_app (goodIn_of _ (by decide +kernel)) ggX3_isCell_X3_isWithin
theorem dX3_isCell_0 : decode cX3_isCell 0 = .ok (.iload_n 0, 1) := by decide +kernel
theorem dX3_isCell_1 : decode cX3_isCell 1 = .ok (.iconst 0, 1) := by decide +kernel
theorem dX3_isCell_2 : decode cX3_isCell 2 = .ok (.bipush 11, 2) := by decide +kernel
theorem dX3_isCell_4 : decode cX3_isCell 4 = .ok (.invokestatic 65, 3) := by decide +kernel
theorem dX3_isCell_7 : decode cX3_isCell 7 = .ok (.ifCond .eq 17, 3) := by decide +kernel
theorem dX3_isCell_10 : decode cX3_isCell 10 = .ok (.iload_n 1, 1) := by decide +kernel
theorem dX3_isCell_11 : decode cX3_isCell 11 = .ok (.iconst 0, 1) := by decide +kernel
theorem dX3_isCell_12 : decode cX3_isCell 12 = .ok (.bipush 9, 2) := by decide +kernel
theorem dX3_isCell_14 : decode cX3_isCell 14 = .ok (.invokestatic 65, 3) := by decide +kernel
theorem dX3_isCell_17 : decode cX3_isCell 17 = .ok (.ifCond .eq 7, 3) := by decide +kernel
theorem dX3_isCell_20 : decode cX3_isCell 20 = .ok (.iconst 1, 1) := by decide +kernel
theorem dX3_isCell_21 : decode cX3_isCell 21 = .ok (.goto 4, 3) := by decide +kernel
theorem dX3_isCell_24 : decode cX3_isCell 24 = .ok (.iconst 0, 1) := by decide +kernel
theorem dX3_isCell_25 : decode cX3_isCell 25 = .ok (.ireturn, 1) := by decide +kernel
set_option maxRecDepth 20000 in
theorem ggX3_kindOf_X3_isWithin : GoodIn wsX3_kindOf wsX3_isWithin := goodIn_r _ [6] (by decide +kernel) (by decide +kernel)
set_option maxRecDepth 20000 in
theorem gX3_kindOf_X3_isWithin : GoodIn wsX3_kindOf (va_wsS RX3 65 yX3_isWithin wsX3_isWithin) := goodIn_app (goodIn_of _ (by decide +kernel)) ggX3_kindOf_X3_isWithin
theorem dX3_kindOf_0 : decode cX3_kindOf 0 = .ok (.iload_n 1, 1) := by decide +kernel
theorem dX3_kindOf_1 : decode cX3_kindOf 1 = .ok (.iconst 0, 1) := by decide +kernel
theorem dX3_kindOf_2 : decode cX3_kindOf 2 = .ok (.bipush 9, 2) := by decide +kernel
theorem dX3_kindOf_4 : decode cX3_kindOf 4 = .ok (.invokestatic 65, 3) := by decide +kernel
theorem dX3_kindOf_7 : decode cX3_kindOf 7 = .ok (.ifCond .eq 20, 3) := by decide +kernel
theorem dX3_kindOf_10 : decode cX3_kindOf 10 = .ok (.iload_n 1, 1) := by decide +kernel
theorem dX3_kindOf_11 : decode cX3_kindOf 11 = .ok (.aload_n 0, 1) := by decide +kernel
theorem dX3_kindOf_12 : decode cX3_kindOf 12 = .ok (.getfield 15, 3) := by decide +kernel
theorem dX3_kindOf_15 : decode cX3_kindOf 15 = .ok (.if_icmp .ge 12, 3) := by decide +kernel
theorem dX3_kindOf_18 : decode cX3_kindOf 18 = .ok (.aload_n 0, 1) := by decide +kernel
theorem dX3_kindOf_19 : decode cX3_kindOf 19 = .ok (.getfield 11, 3) := by decide +kernel
theorem dX3_kindOf_22 : decode cX3_kindOf 22 = .ok (.iload_n 1, 1) := by decide +kernel
theorem dX3_kindOf_23 : decode cX3_kindOf 23 = .ok (.aaload, 1) := by decide +kernel
theorem dX3_kindOf_24 : decode cX3_kindOf 24 = .ok (.goto 4, 3) := by decide +kernel
theorem dX3_kindOf_27 : decode cX3_kindOf 27 = .ok (.aconst_null, 1) := by decide +kernel
theorem dX3_kindOf_28 : decode cX3_kindOf 28 = .ok (.areturn, 1) := by decide +kernel
theorem dX3_itemOf_0 : decode cX3_itemOf 0 = .ok (.iload_n 1, 1) := by decide +kernel
theorem dX3_itemOf_1 : decode cX3_itemOf 1 = .ok (.ifCond .lt 17, 3) := by decide +kernel
theorem dX3_itemOf_4 : decode cX3_itemOf 4 = .ok (.iload_n 1, 1) := by decide +kernel
theorem dX3_itemOf_5 : decode cX3_itemOf 5 = .ok (.bipush 60, 2) := by decide +kernel
theorem dX3_itemOf_7 : decode cX3_itemOf 7 = .ok (.if_icmp .ge 11, 3) := by decide +kernel
theorem dX3_itemOf_10 : decode cX3_itemOf 10 = .ok (.iload_n 1, 1) := by decide +kernel
theorem dX3_itemOf_11 : decode cX3_itemOf 11 = .ok (.aload_n 0, 1) := by decide +kernel
theorem dX3_itemOf_12 : decode cX3_itemOf 12 = .ok (.getfield 38, 3) := by decide +kernel
theorem dX3_itemOf_15 : decode cX3_itemOf 15 = .ok (.if_icmp .lt 5, 3) := by decide +kernel
theorem dX3_itemOf_18 : decode cX3_itemOf 18 = .ok (.aconst_null, 1) := by decide +kernel
theorem dX3_itemOf_19 : decode cX3_itemOf 19 = .ok (.areturn, 1) := by decide +kernel
theorem dX3_itemOf_20 : decode cX3_itemOf 20 = .ok (.aload_n 0, 1) := by decide +kernel
theorem dX3_itemOf_21 : decode cX3_itemOf 21 = .ok (.getfield 34, 3) := by decide +kernel
theorem dX3_itemOf_24 : decode cX3_itemOf 24 = .ok (.iload_n 1, 1) := by decide +kernel
theorem dX3_itemOf_25 : decode cX3_itemOf 25 = .ok (.aaload, 1) := by decide +kernel
theorem dX3_itemOf_26 : decode cX3_itemOf 26 = .ok (.astore_n 2, 1) := by decide +kernel
theorem dX3_itemOf_27 : decode cX3_itemOf 27 = .ok (.aload_n 2, 1) := by decide +kernel
theorem dX3_itemOf_28 : decode cX3_itemOf 28 = .ok (.ifnull 14, 3) := by decide +kernel
theorem dX3_itemOf_31 : decode cX3_itemOf 31 = .ok (.aload_n 2, 1) := by decide +kernel
theorem dX3_itemOf_32 : decode cX3_itemOf 32 = .ok (.getfield 104, 3) := by decide +kernel
theorem dX3_itemOf_35 : decode cX3_itemOf 35 = .ok (.ifCond .eq 7, 3) := by decide +kernel
theorem dX3_itemOf_38 : decode cX3_itemOf 38 = .ok (.aload_n 2, 1) := by decide +kernel
theorem dX3_itemOf_39 : decode cX3_itemOf 39 = .ok (.goto 4, 3) := by decide +kernel
theorem dX3_itemOf_42 : decode cX3_itemOf 42 = .ok (.aconst_null, 1) := by decide +kernel
theorem dX3_itemOf_43 : decode cX3_itemOf 43 = .ok (.areturn, 1) := by decide +kernel
set_option maxRecDepth 20000 in
theorem ggX3_lineOf_X3_isWithin : GoodIn wsX3_lineOf wsX3_isWithin := goodIn_r _ [6] (by decide +kernel) (by decide +kernel)
set_option maxRecDepth 20000 in
theorem gX3_lineOf_X3_isWithin : GoodIn wsX3_lineOf (va_wsS RX3 65 yX3_isWithin wsX3_isWithin) := goodIn_app (goodIn_of _ (by decide +kernel)) ggX3_lineOf_X3_isWithin
theorem dX3_lineOf_0 : decode cX3_lineOf 0 = .ok (.iload_n 1, 1) := by decide +kernel
theorem dX3_lineOf_1 : decode cX3_lineOf 1 = .ok (.iconst 0, 1) := by decide +kernel
theorem dX3_lineOf_2 : decode cX3_lineOf 2 = .ok (.bipush 19, 2) := by decide +kernel
theorem dX3_lineOf_4 : decode cX3_lineOf 4 = .ok (.invokestatic 65, 3) := by decide +kernel
theorem dX3_lineOf_7 : decode cX3_lineOf 7 = .ok (.ifCond .eq 20, 3) := by decide +kernel
theorem dX3_lineOf_10 : decode cX3_lineOf 10 = .ok (.iload_n 1, 1) := by decide +kernel
theorem dX3_lineOf_11 : decode cX3_lineOf 11 = .ok (.aload_n 0, 1) := by decide +kernel
theorem dX3_lineOf_12 : decode cX3_lineOf 12 = .ok (.getfield 62, 3) := by decide +kernel
theorem dX3_lineOf_15 : decode cX3_lineOf 15 = .ok (.if_icmp .ge 12, 3) := by decide +kernel
theorem dX3_lineOf_18 : decode cX3_lineOf 18 = .ok (.aload_n 0, 1) := by decide +kernel
theorem dX3_lineOf_19 : decode cX3_lineOf 19 = .ok (.getfield 58, 3) := by decide +kernel
theorem dX3_lineOf_22 : decode cX3_lineOf 22 = .ok (.iload_n 1, 1) := by decide +kernel
theorem dX3_lineOf_23 : decode cX3_lineOf 23 = .ok (.aaload, 1) := by decide +kernel
theorem dX3_lineOf_24 : decode cX3_lineOf 24 = .ok (.goto 4, 3) := by decide +kernel
theorem dX3_lineOf_27 : decode cX3_lineOf 27 = .ok (.aconst_null, 1) := by decide +kernel
theorem dX3_lineOf_28 : decode cX3_lineOf 28 = .ok (.areturn, 1) := by decide +kernel
theorem dX3_topOf_0 : decode cX3_topOf 0 = .ok (.iload_n 2, 1) := by decide +kernel
theorem dX3_topOf_1 : decode cX3_topOf 1 = .ok (.bipush 12, 2) := by decide +kernel
theorem dX3_topOf_3 : decode cX3_topOf 3 = .ok (.imul, 1) := by decide +kernel
theorem dX3_topOf_4 : decode cX3_topOf 4 = .ok (.iload_n 1, 1) := by decide +kernel
theorem dX3_topOf_5 : decode cX3_topOf 5 = .ok (.iadd, 1) := by decide +kernel
theorem dX3_topOf_6 : decode cX3_topOf 6 = .ok (.istore_n 3, 1) := by decide +kernel
theorem dX3_topOf_7 : decode cX3_topOf 7 = .ok (.iload_n 3, 1) := by decide +kernel
theorem dX3_topOf_8 : decode cX3_topOf 8 = .ok (.ifCond .lt 18, 3) := by decide +kernel
theorem dX3_topOf_11 : decode cX3_topOf 11 = .ok (.iload_n 3, 1) := by decide +kernel
theorem dX3_topOf_12 : decode cX3_topOf 12 = .ok (.bipush 120, 2) := by decide +kernel
theorem dX3_topOf_14 : decode cX3_topOf 14 = .ok (.if_icmp .ge 12, 3) := by decide +kernel
theorem dX3_topOf_17 : decode cX3_topOf 17 = .ok (.aload_n 0, 1) := by decide +kernel
theorem dX3_topOf_18 : decode cX3_topOf 18 = .ok (.getfield 47, 3) := by decide +kernel
theorem dX3_topOf_21 : decode cX3_topOf 21 = .ok (.iload_n 3, 1) := by decide +kernel
theorem dX3_topOf_22 : decode cX3_topOf 22 = .ok (.iaload, 1) := by decide +kernel
theorem dX3_topOf_23 : decode cX3_topOf 23 = .ok (.goto 4, 3) := by decide +kernel
theorem dX3_topOf_26 : decode cX3_topOf 26 = .ok (.iconst 0, 1) := by decide +kernel
theorem dX3_topOf_27 : decode cX3_topOf 27 = .ok (.ireturn, 1) := by decide +kernel
theorem dX3_countOf_0 : decode cX3_countOf 0 = .ok (.iload_n 1, 1) := by decide +kernel
theorem dX3_countOf_1 : decode cX3_countOf 1 = .ok (.tableswitch 42 0 2 #[27, 32, 37], 27) := by decide +kernel
theorem dX3_countOf_28 : decode cX3_countOf 28 = .ok (.aload_n 0, 1) := by decide +kernel
theorem dX3_countOf_29 : decode cX3_countOf 29 = .ok (.getfield 15, 3) := by decide +kernel
theorem dX3_countOf_32 : decode cX3_countOf 32 = .ok (.ireturn, 1) := by decide +kernel
theorem dX3_countOf_33 : decode cX3_countOf 33 = .ok (.aload_n 0, 1) := by decide +kernel
theorem dX3_countOf_34 : decode cX3_countOf 34 = .ok (.getfield 41, 3) := by decide +kernel
theorem dX3_countOf_37 : decode cX3_countOf 37 = .ok (.ireturn, 1) := by decide +kernel
theorem dX3_countOf_38 : decode cX3_countOf 38 = .ok (.aload_n 0, 1) := by decide +kernel
theorem dX3_countOf_39 : decode cX3_countOf 39 = .ok (.getfield 38, 3) := by decide +kernel
theorem dX3_countOf_42 : decode cX3_countOf 42 = .ok (.ireturn, 1) := by decide +kernel
theorem dX3_countOf_43 : decode cX3_countOf 43 = .ok (.aload_n 0, 1) := by decide +kernel
theorem dX3_countOf_44 : decode cX3_countOf 44 = .ok (.getfield 62, 3) := by decide +kernel
theorem dX3_countOf_47 : decode cX3_countOf 47 = .ok (.ireturn, 1) := by decide +kernel
theorem dX3_factOf_0 : decode cX3_factOf 0 = .ok (.iload_n 2, 1) := by decide +kernel
theorem dX3_factOf_1 : decode cX3_factOf 1 = .ok (.tableswitch 105 0 8 #[51, 56, 61, 66, 71, 76, 89, 94, 100], 51) := by decide +kernel
theorem dX3_factOf_52 : decode cX3_factOf 52 = .ok (.aload_n 1, 1) := by decide +kernel
theorem dX3_factOf_53 : decode cX3_factOf 53 = .ok (.getfield 203, 3) := by decide +kernel
theorem dX3_factOf_56 : decode cX3_factOf 56 = .ok (.ireturn, 1) := by decide +kernel
theorem dX3_factOf_57 : decode cX3_factOf 57 = .ok (.aload_n 1, 1) := by decide +kernel
theorem dX3_factOf_58 : decode cX3_factOf 58 = .ok (.getfield 182, 3) := by decide +kernel
theorem dX3_factOf_61 : decode cX3_factOf 61 = .ok (.ireturn, 1) := by decide +kernel
theorem dX3_factOf_62 : decode cX3_factOf 62 = .ok (.aload_n 1, 1) := by decide +kernel
theorem dX3_factOf_63 : decode cX3_factOf 63 = .ok (.getfield 176, 3) := by decide +kernel
theorem dX3_factOf_66 : decode cX3_factOf 66 = .ok (.ireturn, 1) := by decide +kernel
theorem dX3_factOf_67 : decode cX3_factOf 67 = .ok (.aload_n 1, 1) := by decide +kernel
theorem dX3_factOf_68 : decode cX3_factOf 68 = .ok (.getfield 131, 3) := by decide +kernel
theorem dX3_factOf_71 : decode cX3_factOf 71 = .ok (.ireturn, 1) := by decide +kernel
theorem dX3_factOf_72 : decode cX3_factOf 72 = .ok (.aload_n 1, 1) := by decide +kernel
theorem dX3_factOf_73 : decode cX3_factOf 73 = .ok (.getfield 134, 3) := by decide +kernel
theorem dX3_factOf_76 : decode cX3_factOf 76 = .ok (.ireturn, 1) := by decide +kernel
theorem dX3_factOf_77 : decode cX3_factOf 77 = .ok (.aload_n 1, 1) := by decide +kernel
theorem dX3_factOf_78 : decode cX3_factOf 78 = .ok (.getfield 205, 3) := by decide +kernel
theorem dX3_factOf_81 : decode cX3_factOf 81 = .ok (.ifCond .eq 7, 3) := by decide +kernel
theorem dX3_factOf_84 : decode cX3_factOf 84 = .ok (.iconst 1, 1) := by decide +kernel
theorem dX3_factOf_85 : decode cX3_factOf 85 = .ok (.goto 4, 3) := by decide +kernel
theorem dX3_factOf_88 : decode cX3_factOf 88 = .ok (.iconst 0, 1) := by decide +kernel
theorem dX3_factOf_89 : decode cX3_factOf 89 = .ok (.ireturn, 1) := by decide +kernel
theorem dX3_factOf_90 : decode cX3_factOf 90 = .ok (.aload_n 1, 1) := by decide +kernel
theorem dX3_factOf_91 : decode cX3_factOf 91 = .ok (.getfield 208, 3) := by decide +kernel
theorem dX3_factOf_94 : decode cX3_factOf 94 = .ok (.ireturn, 1) := by decide +kernel
theorem dX3_factOf_95 : decode cX3_factOf 95 = .ok (.aload_n 0, 1) := by decide +kernel
theorem dX3_factOf_96 : decode cX3_factOf 96 = .ok (.aload_n 1, 1) := by decide +kernel
theorem dX3_factOf_97 : decode cX3_factOf 97 = .ok (.invokevirtual 100, 3) := by decide +kernel
theorem dX3_factOf_100 : decode cX3_factOf 100 = .ok (.ireturn, 1) := by decide +kernel
theorem dX3_factOf_101 : decode cX3_factOf 101 = .ok (.aload_n 1, 1) := by decide +kernel
theorem dX3_factOf_102 : decode cX3_factOf 102 = .ok (.getfield 211, 3) := by decide +kernel
theorem dX3_factOf_105 : decode cX3_factOf 105 = .ok (.ireturn, 1) := by decide +kernel
theorem dX3_factOf_106 : decode cX3_factOf 106 = .ok (.aload_n 1, 1) := by decide +kernel
theorem dX3_factOf_107 : decode cX3_factOf 107 = .ok (.getfield 214, 3) := by decide +kernel
theorem dX3_factOf_110 : decode cX3_factOf 110 = .ok (.ireturn, 1) := by decide +kernel
set_option maxRecDepth 20000 in
theorem ggX3_sumOf_X3_greatestTop : GoodIn wsX3_sumOf wsX3_greatestTop := goodIn_r _ [6, 7, 8, 9, 10, 11, 5, 12, 13, 14, 32, 33, 34, 35, 36, 37, 38, 39, 40, 41, 42, 43, 44, 45, 46, 47, 48, 49, 50, 51, 52, 53, 54, 55, 56, 57, 58, 59, 60, 61, 62, 63] (by decide +kernel) (by decide +kernel)
set_option maxRecDepth 20000 in
theorem gX3_sumOf_X3_greatestTop : GoodIn wsX3_sumOf (wsV RX3 192 RX3 yX3_greatestTop wsX3_greatestTop) := goodIn_app (goodIn_of _ (by decide +kernel)) ggX3_sumOf_X3_greatestTop
theorem dX3_sumOf_0 : decode cX3_sumOf 0 = .ok (.iload_n 1, 1) := by decide +kernel
theorem dX3_sumOf_1 : decode cX3_sumOf 1 = .ok (.tableswitch 42 0 2 #[27, 32, 37], 27) := by decide +kernel
theorem dX3_sumOf_28 : decode cX3_sumOf 28 = .ok (.aload_n 0, 1) := by decide +kernel
theorem dX3_sumOf_29 : decode cX3_sumOf 29 = .ok (.getfield 44, 3) := by decide +kernel
theorem dX3_sumOf_32 : decode cX3_sumOf 32 = .ok (.ireturn, 1) := by decide +kernel
theorem dX3_sumOf_33 : decode cX3_sumOf 33 = .ok (.aload_n 0, 1) := by decide +kernel
theorem dX3_sumOf_34 : decode cX3_sumOf 34 = .ok (.invokevirtual 192, 3) := by decide +kernel
theorem dX3_sumOf_37 : decode cX3_sumOf 37 = .ok (.ireturn, 1) := by decide +kernel
theorem dX3_sumOf_38 : decode cX3_sumOf 38 = .ok (.aload_n 0, 1) := by decide +kernel
theorem dX3_sumOf_39 : decode cX3_sumOf 39 = .ok (.invokevirtual 217, 3) := by decide +kernel
theorem dX3_sumOf_42 : decode cX3_sumOf 42 = .ok (.ireturn, 1) := by decide +kernel
theorem dX3_sumOf_43 : decode cX3_sumOf 43 = .ok (.aload_n 0, 1) := by decide +kernel
theorem dX3_sumOf_44 : decode cX3_sumOf 44 = .ok (.invokevirtual 220, 3) := by decide +kernel
theorem dX3_sumOf_47 : decode cX3_sumOf 47 = .ok (.ireturn, 1) := by decide +kernel
set_option maxRecDepth 20000 in
theorem ggX3_greatestTop_X3_itemOf : GoodIn wsX3_greatestTop wsX3_itemOf := goodIn_r _ [7, 1, 8, 9, 10, 11, 12, 13, 14, 15, 16, 17, 18, 19, 20, 21, 22, 23, 24, 25, 26, 27, 28, 29, 30, 31, 32, 33, 34, 35, 36, 37, 38, 39, 40, 41] (by decide +kernel) (by decide +kernel)
set_option maxRecDepth 20000 in
theorem gX3_greatestTop_X3_itemOf : GoodIn wsX3_greatestTop (wsV RX3 96 RX3 yX3_itemOf wsX3_itemOf) := goodIn_app (goodIn_of _ (by decide +kernel)) ggX3_greatestTop_X3_itemOf
theorem dX3_greatestTop_0 : decode cX3_greatestTop 0 = .ok (.iconst 0, 1) := by decide +kernel
theorem dX3_greatestTop_1 : decode cX3_greatestTop 1 = .ok (.istore_n 1, 1) := by decide +kernel
theorem dX3_greatestTop_2 : decode cX3_greatestTop 2 = .ok (.iconst 0, 1) := by decide +kernel
theorem dX3_greatestTop_3 : decode cX3_greatestTop 3 = .ok (.istore_n 2, 1) := by decide +kernel
theorem dX3_greatestTop_4 : decode cX3_greatestTop 4 = .ok (.iload_n 2, 1) := by decide +kernel
theorem dX3_greatestTop_5 : decode cX3_greatestTop 5 = .ok (.aload_n 0, 1) := by decide +kernel
theorem dX3_greatestTop_6 : decode cX3_greatestTop 6 = .ok (.getfield 38, 3) := by decide +kernel
theorem dX3_greatestTop_9 : decode cX3_greatestTop 9 = .ok (.if_icmp .ge 32, 3) := by decide +kernel
theorem dX3_greatestTop_12 : decode cX3_greatestTop 12 = .ok (.aload_n 0, 1) := by decide +kernel
theorem dX3_greatestTop_13 : decode cX3_greatestTop 13 = .ok (.iload_n 2, 1) := by decide +kernel
theorem dX3_greatestTop_14 : decode cX3_greatestTop 14 = .ok (.invokevirtual 96, 3) := by decide +kernel
theorem dX3_greatestTop_17 : decode cX3_greatestTop 17 = .ok (.astore_n 3, 1) := by decide +kernel
theorem dX3_greatestTop_18 : decode cX3_greatestTop 18 = .ok (.aload_n 3, 1) := by decide +kernel
theorem dX3_greatestTop_19 : decode cX3_greatestTop 19 = .ok (.ifnull 16, 3) := by decide +kernel
theorem dX3_greatestTop_22 : decode cX3_greatestTop 22 = .ok (.aload_n 3, 1) := by decide +kernel
theorem dX3_greatestTop_23 : decode cX3_greatestTop 23 = .ok (.getfield 134, 3) := by decide +kernel
theorem dX3_greatestTop_26 : decode cX3_greatestTop 26 = .ok (.iload_n 1, 1) := by decide +kernel
theorem dX3_greatestTop_27 : decode cX3_greatestTop 27 = .ok (.if_icmp .le 8, 3) := by decide +kernel
theorem dX3_greatestTop_30 : decode cX3_greatestTop 30 = .ok (.aload_n 3, 1) := by decide +kernel
theorem dX3_greatestTop_31 : decode cX3_greatestTop 31 = .ok (.getfield 134, 3) := by decide +kernel
theorem dX3_greatestTop_34 : decode cX3_greatestTop 34 = .ok (.istore_n 1, 1) := by decide +kernel
theorem dX3_greatestTop_35 : decode cX3_greatestTop 35 = .ok (.iinc 2 1, 3) := by decide +kernel
theorem dX3_greatestTop_38 : decode cX3_greatestTop 38 = .ok (.goto (-34), 3) := by decide +kernel
theorem dX3_greatestTop_41 : decode cX3_greatestTop 41 = .ok (.iload_n 1, 1) := by decide +kernel
theorem dX3_greatestTop_42 : decode cX3_greatestTop 42 = .ok (.ireturn, 1) := by decide +kernel
set_option maxRecDepth 20000 in
theorem ggX3_isCarriedBy_X3_itemOf : GoodIn wsX3_isCarriedBy wsX3_itemOf := goodIn_r _ [7, 1, 8, 9, 18, 19, 20, 21, 22, 23, 24, 25, 26, 27, 28, 29, 30, 31, 32, 33, 34, 35, 36, 37, 38, 39, 40, 41, 42, 43, 44, 45, 46, 47, 48, 49] (by decide +kernel) (by decide +kernel)
set_option maxRecDepth 20000 in
theorem gX3_isCarriedBy_X3_itemOf : GoodIn wsX3_isCarriedBy (wsV RX3 96 RX3 yX3_itemOf wsX3_itemOf) := goodIn_app (goodIn_of _ (by decide +kernel)) ggX3_isCarriedBy_X3_itemOf
set_option maxRecDepth 20000 in
theorem ggX3_isCarriedBy_X0_reachSupports : GoodIn wsX3_isCarriedBy wsX0_reachSupports := goodIn_r _ [14, 15, 16, 17, 32, 33, 34, 35, 36, 37, 38, 39, 40, 41, 42, 43, 44, 45, 46, 47, 48, 49] (by decide +kernel) (by decide +kernel)
set_option maxRecDepth 20000 in
theorem gX3_isCarriedBy_X0_reachSupports : GoodIn wsX3_isCarriedBy (wsV RX3 230 RX0 yX0_reachSupports wsX0_reachSupports) := goodIn_app (goodIn_of _ (by decide +kernel)) ggX3_isCarriedBy_X0_reachSupports
theorem dX3_isCarriedBy_0 : decode cX3_isCarriedBy 0 = .ok (.iconst 0, 1) := by decide +kernel
theorem dX3_isCarriedBy_1 : decode cX3_isCarriedBy 1 = .ok (.istore_n 3, 1) := by decide +kernel
theorem dX3_isCarriedBy_2 : decode cX3_isCarriedBy 2 = .ok (.iload_n 3, 1) := by decide +kernel
theorem dX3_isCarriedBy_3 : decode cX3_isCarriedBy 3 = .ok (.aload_n 0, 1) := by decide +kernel
theorem dX3_isCarriedBy_4 : decode cX3_isCarriedBy 4 = .ok (.getfield 38, 3) := by decide +kernel
theorem dX3_isCarriedBy_7 : decode cX3_isCarriedBy 7 = .ok (.if_icmp .ge 27, 3) := by decide +kernel
theorem dX3_isCarriedBy_10 : decode cX3_isCarriedBy 10 = .ok (.aload_n 0, 1) := by decide +kernel
theorem dX3_isCarriedBy_11 : decode cX3_isCarriedBy 11 = .ok (.iload_n 3, 1) := by decide +kernel
theorem dX3_isCarriedBy_12 : decode cX3_isCarriedBy 12 = .ok (.invokevirtual 96, 3) := by decide +kernel
theorem dX3_isCarriedBy_15 : decode cX3_isCarriedBy 15 = .ok (.astore 4, 2) := by decide +kernel
theorem dX3_isCarriedBy_17 : decode cX3_isCarriedBy 17 = .ok (.aload 4, 2) := by decide +kernel
theorem dX3_isCarriedBy_19 : decode cX3_isCarriedBy 19 = .ok (.ifnull 9, 3) := by decide +kernel
theorem dX3_isCarriedBy_22 : decode cX3_isCarriedBy 22 = .ok (.aload 4, 2) := by decide +kernel
theorem dX3_isCarriedBy_24 : decode cX3_isCarriedBy 24 = .ok (.iconst 0, 1) := by decide +kernel
theorem dX3_isCarriedBy_25 : decode cX3_isCarriedBy 25 = .ok (.putfield 227, 3) := by decide +kernel
theorem dX3_isCarriedBy_28 : decode cX3_isCarriedBy 28 = .ok (.iinc 3 1, 3) := by decide +kernel
theorem dX3_isCarriedBy_31 : decode cX3_isCarriedBy 31 = .ok (.goto (-29), 3) := by decide +kernel
theorem dX3_isCarriedBy_34 : decode cX3_isCarriedBy 34 = .ok (.aload_n 1, 1) := by decide +kernel
theorem dX3_isCarriedBy_35 : decode cX3_isCarriedBy 35 = .ok (.invokevirtual 230, 3) := by decide +kernel
theorem dX3_isCarriedBy_38 : decode cX3_isCarriedBy 38 = .ok (.aload_n 0, 1) := by decide +kernel
theorem dX3_isCarriedBy_39 : decode cX3_isCarriedBy 39 = .ok (.getfield 38, 3) := by decide +kernel
theorem dX3_isCarriedBy_42 : decode cX3_isCarriedBy 42 = .ok (.iconst 1, 1) := by decide +kernel
theorem dX3_isCarriedBy_43 : decode cX3_isCarriedBy 43 = .ok (.isub, 1) := by decide +kernel
theorem dX3_isCarriedBy_44 : decode cX3_isCarriedBy 44 = .ok (.istore_n 3, 1) := by decide +kernel
theorem dX3_isCarriedBy_45 : decode cX3_isCarriedBy 45 = .ok (.iload_n 3, 1) := by decide +kernel
theorem dX3_isCarriedBy_46 : decode cX3_isCarriedBy 46 = .ok (.ifCond .lt 34, 3) := by decide +kernel
theorem dX3_isCarriedBy_49 : decode cX3_isCarriedBy 49 = .ok (.aload_n 0, 1) := by decide +kernel
theorem dX3_isCarriedBy_50 : decode cX3_isCarriedBy 50 = .ok (.iload_n 3, 1) := by decide +kernel
theorem dX3_isCarriedBy_51 : decode cX3_isCarriedBy 51 = .ok (.invokevirtual 96, 3) := by decide +kernel
theorem dX3_isCarriedBy_54 : decode cX3_isCarriedBy 54 = .ok (.astore 4, 2) := by decide +kernel
theorem dX3_isCarriedBy_56 : decode cX3_isCarriedBy 56 = .ok (.aload 4, 2) := by decide +kernel
theorem dX3_isCarriedBy_58 : decode cX3_isCarriedBy 58 = .ok (.ifnull 16, 3) := by decide +kernel
theorem dX3_isCarriedBy_61 : decode cX3_isCarriedBy 61 = .ok (.aload 4, 2) := by decide +kernel
theorem dX3_isCarriedBy_63 : decode cX3_isCarriedBy 63 = .ok (.getfield 227, 3) := by decide +kernel
theorem dX3_isCarriedBy_66 : decode cX3_isCarriedBy 66 = .ok (.ifCond .eq 8, 3) := by decide +kernel
theorem dX3_isCarriedBy_69 : decode cX3_isCarriedBy 69 = .ok (.aload 4, 2) := by decide +kernel
theorem dX3_isCarriedBy_71 : decode cX3_isCarriedBy 71 = .ok (.invokevirtual 230, 3) := by decide +kernel
theorem dX3_isCarriedBy_74 : decode cX3_isCarriedBy 74 = .ok (.iinc 3 (-1), 3) := by decide +kernel
theorem dX3_isCarriedBy_77 : decode cX3_isCarriedBy 77 = .ok (.goto (-32), 3) := by decide +kernel
theorem dX3_isCarriedBy_80 : decode cX3_isCarriedBy 80 = .ok (.aload_n 2, 1) := by decide +kernel
theorem dX3_isCarriedBy_81 : decode cX3_isCarriedBy 81 = .ok (.getfield 227, 3) := by decide +kernel
theorem dX3_isCarriedBy_84 : decode cX3_isCarriedBy 84 = .ok (.ireturn, 1) := by decide +kernel
set_option maxRecDepth 20000 in
theorem ggX3_forgetNextLoads_X3_itemOf : GoodIn wsX3_forgetNextLoads wsX3_itemOf := goodIn_r _ [7, 1, 8, 9, 10, 11, 12, 13, 14, 15, 16, 17, 18, 19, 20, 21, 22, 23, 24, 25, 26, 27, 28, 29, 30, 31, 32, 33, 34, 35, 36, 37, 38, 39, 40, 41] (by decide +kernel) (by decide +kernel)
set_option maxRecDepth 20000 in
theorem gX3_forgetNextLoads_X3_itemOf : GoodIn wsX3_forgetNextLoads (wsV RX3 96 RX3 yX3_itemOf wsX3_itemOf) := goodIn_app (goodIn_of _ (by decide +kernel)) ggX3_forgetNextLoads_X3_itemOf
theorem dX3_forgetNextLoads_0 : decode cX3_forgetNextLoads 0 = .ok (.iconst 0, 1) := by decide +kernel
theorem dX3_forgetNextLoads_1 : decode cX3_forgetNextLoads 1 = .ok (.istore_n 1, 1) := by decide +kernel
theorem dX3_forgetNextLoads_2 : decode cX3_forgetNextLoads 2 = .ok (.iload_n 1, 1) := by decide +kernel
theorem dX3_forgetNextLoads_3 : decode cX3_forgetNextLoads 3 = .ok (.aload_n 0, 1) := by decide +kernel
theorem dX3_forgetNextLoads_4 : decode cX3_forgetNextLoads 4 = .ok (.getfield 38, 3) := by decide +kernel
theorem dX3_forgetNextLoads_7 : decode cX3_forgetNextLoads 7 = .ok (.if_icmp .ge 24, 3) := by decide +kernel
theorem dX3_forgetNextLoads_10 : decode cX3_forgetNextLoads 10 = .ok (.aload_n 0, 1) := by decide +kernel
theorem dX3_forgetNextLoads_11 : decode cX3_forgetNextLoads 11 = .ok (.iload_n 1, 1) := by decide +kernel
theorem dX3_forgetNextLoads_12 : decode cX3_forgetNextLoads 12 = .ok (.invokevirtual 96, 3) := by decide +kernel
theorem dX3_forgetNextLoads_15 : decode cX3_forgetNextLoads 15 = .ok (.astore_n 2, 1) := by decide +kernel
theorem dX3_forgetNextLoads_16 : decode cX3_forgetNextLoads 16 = .ok (.aload_n 2, 1) := by decide +kernel
theorem dX3_forgetNextLoads_17 : decode cX3_forgetNextLoads 17 = .ok (.ifnull 8, 3) := by decide +kernel
theorem dX3_forgetNextLoads_20 : decode cX3_forgetNextLoads 20 = .ok (.aload_n 2, 1) := by decide +kernel
theorem dX3_forgetNextLoads_21 : decode cX3_forgetNextLoads 21 = .ok (.iconst 0, 1) := by decide +kernel
theorem dX3_forgetNextLoads_22 : decode cX3_forgetNextLoads 22 = .ok (.putfield 233, 3) := by decide +kernel
theorem dX3_forgetNextLoads_25 : decode cX3_forgetNextLoads 25 = .ok (.iinc 1 1, 3) := by decide +kernel
theorem dX3_forgetNextLoads_28 : decode cX3_forgetNextLoads 28 = .ok (.goto (-26), 3) := by decide +kernel
theorem dX3_forgetNextLoads_31 : decode cX3_forgetNextLoads 31 = .ok (.return_, 1) := by decide +kernel
set_option maxRecDepth 20000 in
theorem ggX3_settleLoads_X3_forgetNextLoads : GoodIn wsX3_settleLoads wsX3_forgetNextLoads := goodIn_r _ [8, 1, 2, 9, 10, 11, 7, 12, 13, 14, 26, 27, 28, 29, 30, 31, 32, 33, 34, 35, 36, 37, 38, 39, 40, 41, 42, 43, 44, 45, 46, 47, 48, 49, 50, 51, 52, 53, 54, 55, 56, 57] (by decide +kernel) (by decide +kernel)
set_option maxRecDepth 20000 in
theorem gX3_settleLoads_X3_forgetNextLoads : GoodIn wsX3_settleLoads (wsV RX3 236 RX3 yX3_forgetNextLoads wsX3_forgetNextLoads) := goodIn_app (goodIn_of _ (by decide +kernel)) ggX3_settleLoads_X3_forgetNextLoads
set_option maxRecDepth 20000 in
theorem ggX3_settleLoads_X3_itemOf : GoodIn wsX3_settleLoads wsX3_itemOf := goodIn_r _ [12, 1, 13, 14, 26, 27, 28, 29, 30, 31, 32, 33, 34, 35, 36, 37, 38, 39, 40, 41, 42, 43, 44, 45, 46, 47, 48, 49, 50, 51, 52, 53, 54, 55, 56, 57] (by decide +kernel) (by decide +kernel)
set_option maxRecDepth 20000 in
theorem gX3_settleLoads_X3_itemOf : GoodIn wsX3_settleLoads (wsV RX3 96 RX3 yX3_itemOf wsX3_itemOf) := goodIn_app (goodIn_of _ (by decide +kernel)) ggX3_settleLoads_X3_itemOf
set_option maxRecDepth 20000 in
theorem ggX3_settleLoads_X0_passLoadDown : GoodIn wsX3_settleLoads wsX0_passLoadDown := goodIn_r _ [19, 20, 21, 22, 23, 24, 25, 40, 41, 42, 43, 44, 45, 46, 47, 48, 49, 50, 51, 52, 53, 54, 55, 56, 57] (by decide +kernel) (by decide +kernel)
set_option maxRecDepth 20000 in
theorem gX3_settleLoads_X0_passLoadDown : GoodIn wsX3_settleLoads (wsV RX3 239 RX0 yX0_passLoadDown wsX0_passLoadDown) := goodIn_app (goodIn_of _ (by decide +kernel)) ggX3_settleLoads_X0_passLoadDown
theorem dX3_settleLoads_0 : decode cX3_settleLoads 0 = .ok (.aload_n 0, 1) := by decide +kernel
theorem dX3_settleLoads_1 : decode cX3_settleLoads 1 = .ok (.invokevirtual 236, 3) := by decide +kernel
theorem dX3_settleLoads_4 : decode cX3_settleLoads 4 = .ok (.aload_n 0, 1) := by decide +kernel
theorem dX3_settleLoads_5 : decode cX3_settleLoads 5 = .ok (.getfield 38, 3) := by decide +kernel
theorem dX3_settleLoads_8 : decode cX3_settleLoads 8 = .ok (.iconst 1, 1) := by decide +kernel
theorem dX3_settleLoads_9 : decode cX3_settleLoads 9 = .ok (.isub, 1) := by decide +kernel
theorem dX3_settleLoads_10 : decode cX3_settleLoads 10 = .ok (.istore_n 1, 1) := by decide +kernel
theorem dX3_settleLoads_11 : decode cX3_settleLoads 11 = .ok (.iload_n 1, 1) := by decide +kernel
theorem dX3_settleLoads_12 : decode cX3_settleLoads 12 = .ok (.ifCond .lt 31, 3) := by decide +kernel
theorem dX3_settleLoads_15 : decode cX3_settleLoads 15 = .ok (.aload_n 0, 1) := by decide +kernel
theorem dX3_settleLoads_16 : decode cX3_settleLoads 16 = .ok (.iload_n 1, 1) := by decide +kernel
theorem dX3_settleLoads_17 : decode cX3_settleLoads 17 = .ok (.invokevirtual 96, 3) := by decide +kernel
theorem dX3_settleLoads_20 : decode cX3_settleLoads 20 = .ok (.astore_n 2, 1) := by decide +kernel
theorem dX3_settleLoads_21 : decode cX3_settleLoads 21 = .ok (.aload_n 2, 1) := by decide +kernel
theorem dX3_settleLoads_22 : decode cX3_settleLoads 22 = .ok (.ifnull 15, 3) := by decide +kernel
theorem dX3_settleLoads_25 : decode cX3_settleLoads 25 = .ok (.aload_n 2, 1) := by decide +kernel
theorem dX3_settleLoads_26 : decode cX3_settleLoads 26 = .ok (.aload_n 2, 1) := by decide +kernel
theorem dX3_settleLoads_27 : decode cX3_settleLoads 27 = .ok (.getfield 233, 3) := by decide +kernel
theorem dX3_settleLoads_30 : decode cX3_settleLoads 30 = .ok (.putfield 208, 3) := by decide +kernel
theorem dX3_settleLoads_33 : decode cX3_settleLoads 33 = .ok (.aload_n 2, 1) := by decide +kernel
theorem dX3_settleLoads_34 : decode cX3_settleLoads 34 = .ok (.invokevirtual 239, 3) := by decide +kernel
theorem dX3_settleLoads_37 : decode cX3_settleLoads 37 = .ok (.iinc 1 (-1), 3) := by decide +kernel
theorem dX3_settleLoads_40 : decode cX3_settleLoads 40 = .ok (.goto (-29), 3) := by decide +kernel
theorem dX3_settleLoads_43 : decode cX3_settleLoads 43 = .ok (.return_, 1) := by decide +kernel
set_option maxRecDepth 20000 in
theorem ggX3_isTooMuchLoad_X3_forgetNextLoads : GoodIn wsX3_isTooMuchLoad wsX3_forgetNextLoads := goodIn_r _ [9, 3, 2, 10, 11, 12, 8, 13, 14, 15, 27, 28, 29, 30, 31, 32, 33, 34, 35, 36, 37, 38, 39, 40, 41, 42, 43, 44, 45, 46, 47, 48, 49, 50, 51, 52, 53, 54, 55, 56, 57, 58] (by decide +kernel) (by decide +kernel)
set_option maxRecDepth 20000 in
theorem gX3_isTooMuchLoad_X3_forgetNextLoads : GoodIn wsX3_isTooMuchLoad (wsV RX3 236 RX3 yX3_forgetNextLoads wsX3_forgetNextLoads) := goodIn_app (goodIn_of _ (by decide +kernel)) ggX3_isTooMuchLoad_X3_forgetNextLoads
set_option maxRecDepth 20000 in
theorem ggX3_isTooMuchLoad_X0_passLoadDown : GoodIn wsX3_isTooMuchLoad wsX0_passLoadDown := goodIn_r _ [20, 21, 22, 23, 24, 25, 26, 41, 42, 43, 44, 45, 46, 47, 48, 49, 50, 51, 52, 53, 54, 55, 56, 57, 58] (by decide +kernel) (by decide +kernel)
set_option maxRecDepth 20000 in
theorem gX3_isTooMuchLoad_X0_passLoadDown : GoodIn wsX3_isTooMuchLoad (wsV RX3 239 RX0 yX0_passLoadDown wsX0_passLoadDown) := goodIn_app (goodIn_of _ (by decide +kernel)) ggX3_isTooMuchLoad_X0_passLoadDown
set_option maxRecDepth 20000 in
theorem ggX3_isTooMuchLoad_X3_itemOf : GoodIn wsX3_isTooMuchLoad wsX3_itemOf := goodIn_r _ [13, 3, 14, 15, 27, 28, 29, 30, 31, 32, 33, 34, 35, 36, 37, 38, 39, 40, 41, 42, 43, 44, 45, 46, 47, 48, 49, 50, 51, 52, 53, 54, 55, 56, 57, 58] (by decide +kernel) (by decide +kernel)
set_option maxRecDepth 20000 in
theorem gX3_isTooMuchLoad_X3_itemOf : GoodIn wsX3_isTooMuchLoad (wsV RX3 96 RX3 yX3_itemOf wsX3_itemOf) := goodIn_app (goodIn_of _ (by decide +kernel)) ggX3_isTooMuchLoad_X3_itemOf
theorem dX3_isTooMuchLoad_0 : decode cX3_isTooMuchLoad 0 = .ok (.aload_n 0, 1) := by decide +kernel
theorem dX3_isTooMuchLoad_1 : decode cX3_isTooMuchLoad 1 = .ok (.invokevirtual 236, 3) := by decide +kernel
theorem dX3_isTooMuchLoad_4 : decode cX3_isTooMuchLoad 4 = .ok (.aload_n 0, 1) := by decide +kernel
theorem dX3_isTooMuchLoad_5 : decode cX3_isTooMuchLoad 5 = .ok (.getfield 52, 3) := by decide +kernel
theorem dX3_isTooMuchLoad_8 : decode cX3_isTooMuchLoad 8 = .ok (.iconst 0, 1) := by decide +kernel
theorem dX3_isTooMuchLoad_9 : decode cX3_isTooMuchLoad 9 = .ok (.putfield 233, 3) := by decide +kernel
theorem dX3_isTooMuchLoad_12 : decode cX3_isTooMuchLoad 12 = .ok (.aload_n 0, 1) := by decide +kernel
theorem dX3_isTooMuchLoad_13 : decode cX3_isTooMuchLoad 13 = .ok (.getfield 52, 3) := by decide +kernel
theorem dX3_isTooMuchLoad_16 : decode cX3_isTooMuchLoad 16 = .ok (.invokevirtual 239, 3) := by decide +kernel
theorem dX3_isTooMuchLoad_19 : decode cX3_isTooMuchLoad 19 = .ok (.aload_n 0, 1) := by decide +kernel
theorem dX3_isTooMuchLoad_20 : decode cX3_isTooMuchLoad 20 = .ok (.getfield 38, 3) := by decide +kernel
theorem dX3_isTooMuchLoad_23 : decode cX3_isTooMuchLoad 23 = .ok (.iconst 1, 1) := by decide +kernel
theorem dX3_isTooMuchLoad_24 : decode cX3_isTooMuchLoad 24 = .ok (.isub, 1) := by decide +kernel
theorem dX3_isTooMuchLoad_25 : decode cX3_isTooMuchLoad 25 = .ok (.istore_n 1, 1) := by decide +kernel
theorem dX3_isTooMuchLoad_26 : decode cX3_isTooMuchLoad 26 = .ok (.iload_n 1, 1) := by decide +kernel
theorem dX3_isTooMuchLoad_27 : decode cX3_isTooMuchLoad 27 = .ok (.ifCond .lt 40, 3) := by decide +kernel
theorem dX3_isTooMuchLoad_30 : decode cX3_isTooMuchLoad 30 = .ok (.aload_n 0, 1) := by decide +kernel
theorem dX3_isTooMuchLoad_31 : decode cX3_isTooMuchLoad 31 = .ok (.iload_n 1, 1) := by decide +kernel
theorem dX3_isTooMuchLoad_32 : decode cX3_isTooMuchLoad 32 = .ok (.invokevirtual 96, 3) := by decide +kernel
theorem dX3_isTooMuchLoad_35 : decode cX3_isTooMuchLoad 35 = .ok (.astore_n 2, 1) := by decide +kernel
theorem dX3_isTooMuchLoad_36 : decode cX3_isTooMuchLoad 36 = .ok (.aload_n 2, 1) := by decide +kernel
theorem dX3_isTooMuchLoad_37 : decode cX3_isTooMuchLoad 37 = .ok (.ifnull 16, 3) := by decide +kernel
theorem dX3_isTooMuchLoad_40 : decode cX3_isTooMuchLoad 40 = .ok (.aload_n 2, 1) := by decide +kernel
theorem dX3_isTooMuchLoad_41 : decode cX3_isTooMuchLoad 41 = .ok (.getfield 233, 3) := by decide +kernel
theorem dX3_isTooMuchLoad_44 : decode cX3_isTooMuchLoad 44 = .ok (.aload_n 2, 1) := by decide +kernel
theorem dX3_isTooMuchLoad_45 : decode cX3_isTooMuchLoad 45 = .ok (.getfield 242, 3) := by decide +kernel
theorem dX3_isTooMuchLoad_48 : decode cX3_isTooMuchLoad 48 = .ok (.if_icmp .le 5, 3) := by decide +kernel
theorem dX3_isTooMuchLoad_51 : decode cX3_isTooMuchLoad 51 = .ok (.iconst 1, 1) := by decide +kernel
theorem dX3_isTooMuchLoad_52 : decode cX3_isTooMuchLoad 52 = .ok (.ireturn, 1) := by decide +kernel
theorem dX3_isTooMuchLoad_53 : decode cX3_isTooMuchLoad 53 = .ok (.aload_n 2, 1) := by decide +kernel
theorem dX3_isTooMuchLoad_54 : decode cX3_isTooMuchLoad 54 = .ok (.ifnull 7, 3) := by decide +kernel
theorem dX3_isTooMuchLoad_57 : decode cX3_isTooMuchLoad 57 = .ok (.aload_n 2, 1) := by decide +kernel
theorem dX3_isTooMuchLoad_58 : decode cX3_isTooMuchLoad 58 = .ok (.invokevirtual 239, 3) := by decide +kernel
theorem dX3_isTooMuchLoad_61 : decode cX3_isTooMuchLoad 61 = .ok (.iinc 1 (-1), 3) := by decide +kernel
theorem dX3_isTooMuchLoad_64 : decode cX3_isTooMuchLoad 64 = .ok (.goto (-38), 3) := by decide +kernel
theorem dX3_isTooMuchLoad_67 : decode cX3_isTooMuchLoad 67 = .ok (.iconst 0, 1) := by decide +kernel
theorem dX3_isTooMuchLoad_68 : decode cX3_isTooMuchLoad 68 = .ok (.ireturn, 1) := by decide +kernel
set_option maxRecDepth 20000 in
theorem ggX3_isInField_X3_isWithin : GoodIn wsX3_isInField wsX3_isWithin := goodIn_r _ [7] (by decide +kernel) (by decide +kernel)
set_option maxRecDepth 20000 in
theorem gX3_isInField_X3_isWithin : GoodIn wsX3_isInField (va_wsS RX3 65 yX3_isWithin wsX3_isWithin) := goodIn_app (goodIn_of _ (by decide +kernel)) ggX3_isInField_X3_isWithin
theorem dX3_isInField_0 : decode cX3_isInField 0 = .ok (.iload_n 3, 1) := by decide +kernel
theorem dX3_isInField_1 : decode cX3_isInField 1 = .ok (.ifCond .eq 12, 3) := by decide +kernel
theorem dX3_isInField_4 : decode cX3_isInField 4 = .ok (.aload_n 0, 1) := by decide +kernel
theorem dX3_isInField_5 : decode cX3_isInField 5 = .ok (.getfield 245, 3) := by decide +kernel
theorem dX3_isInField_8 : decode cX3_isInField 8 = .ok (.ifCond .ne 5, 3) := by decide +kernel
theorem dX3_isInField_11 : decode cX3_isInField 11 = .ok (.iconst 0, 1) := by decide +kernel
theorem dX3_isInField_12 : decode cX3_isInField 12 = .ok (.ireturn, 1) := by decide +kernel
theorem dX3_isInField_13 : decode cX3_isInField 13 = .ok (.iload_n 3, 1) := by decide +kernel
theorem dX3_isInField_14 : decode cX3_isInField 14 = .ok (.ifCond .eq 10, 3) := by decide +kernel
theorem dX3_isInField_17 : decode cX3_isInField 17 = .ok (.aload_n 0, 1) := by decide +kernel
theorem dX3_isInField_18 : decode cX3_isInField 18 = .ok (.getfield 248, 3) := by decide +kernel
theorem dX3_isInField_21 : decode cX3_isInField 21 = .ok (.goto 7, 3) := by decide +kernel
theorem dX3_isInField_24 : decode cX3_isInField 24 = .ok (.aload_n 0, 1) := by decide +kernel
theorem dX3_isInField_25 : decode cX3_isInField 25 = .ok (.getfield 249, 3) := by decide +kernel
theorem dX3_isInField_28 : decode cX3_isInField 28 = .ok (.istore 4, 2) := by decide +kernel
theorem dX3_isInField_30 : decode cX3_isInField 30 = .ok (.iload_n 3, 1) := by decide +kernel
theorem dX3_isInField_31 : decode cX3_isInField 31 = .ok (.ifCond .eq 10, 3) := by decide +kernel
theorem dX3_isInField_34 : decode cX3_isInField 34 = .ok (.aload_n 0, 1) := by decide +kernel
theorem dX3_isInField_35 : decode cX3_isInField 35 = .ok (.getfield 249, 3) := by decide +kernel
theorem dX3_isInField_38 : decode cX3_isInField 38 = .ok (.goto 7, 3) := by decide +kernel
theorem dX3_isInField_41 : decode cX3_isInField 41 = .ok (.aload_n 0, 1) := by decide +kernel
theorem dX3_isInField_42 : decode cX3_isInField 42 = .ok (.getfield 248, 3) := by decide +kernel
theorem dX3_isInField_45 : decode cX3_isInField 45 = .ok (.istore 5, 2) := by decide +kernel
theorem dX3_isInField_47 : decode cX3_isInField 47 = .ok (.iload_n 1, 1) := by decide +kernel
theorem dX3_isInField_48 : decode cX3_isInField 48 = .ok (.iconst 0, 1) := by decide +kernel
theorem dX3_isInField_49 : decode cX3_isInField 49 = .ok (.bipush 12, 2) := by decide +kernel
theorem dX3_isInField_51 : decode cX3_isInField 51 = .ok (.iload 4, 2) := by decide +kernel
theorem dX3_isInField_53 : decode cX3_isInField 53 = .ok (.isub, 1) := by decide +kernel
theorem dX3_isInField_54 : decode cX3_isInField 54 = .ok (.invokestatic 65, 3) := by decide +kernel
theorem dX3_isInField_57 : decode cX3_isInField 57 = .ok (.ifCond .eq 20, 3) := by decide +kernel
theorem dX3_isInField_60 : decode cX3_isInField 60 = .ok (.iload_n 2, 1) := by decide +kernel
theorem dX3_isInField_61 : decode cX3_isInField 61 = .ok (.iconst 0, 1) := by decide +kernel
theorem dX3_isInField_62 : decode cX3_isInField 62 = .ok (.bipush 10, 2) := by decide +kernel
theorem dX3_isInField_64 : decode cX3_isInField 64 = .ok (.iload 5, 2) := by decide +kernel
theorem dX3_isInField_66 : decode cX3_isInField 66 = .ok (.isub, 1) := by decide +kernel
theorem dX3_isInField_67 : decode cX3_isInField 67 = .ok (.invokestatic 65, 3) := by decide +kernel
theorem dX3_isInField_70 : decode cX3_isInField 70 = .ok (.ifCond .eq 7, 3) := by decide +kernel
theorem dX3_isInField_73 : decode cX3_isInField 73 = .ok (.iconst 1, 1) := by decide +kernel
theorem dX3_isInField_74 : decode cX3_isInField 74 = .ok (.goto 4, 3) := by decide +kernel
theorem dX3_isInField_77 : decode cX3_isInField 77 = .ok (.iconst 0, 1) := by decide +kernel
theorem dX3_isInField_78 : decode cX3_isInField 78 = .ok (.ireturn, 1) := by decide +kernel
set_option maxRecDepth 20000 in
theorem ggX3_letDown_X0_shape : GoodIn wsX3_letDown wsX0_shape := goodIn_r _ [14, 15, 16, 17, 18, 19, 20, 21, 22, 23, 24, 25, 64, 65, 66, 67, 68, 69, 70, 71, 46, 47, 48, 49, 50, 51, 52, 53, 54, 55, 56, 57, 58, 59, 60, 61, 62, 63] (by decide +kernel) (by decide +kernel)
set_option maxRecDepth 20000 in
theorem gX3_letDown_X0_shape : GoodIn wsX3_letDown (wsV RX3 250 RX0 yX0_shape wsX0_shape) := goodIn_app (goodIn_of _ (by decide +kernel)) ggX3_letDown_X0_shape
set_option maxRecDepth 20000 in
theorem ggX3_letDown_X3_topOf : GoodIn wsX3_letDown wsX3_topOf := goodIn_r _ [30, 31, 32, 33, 34, 35, 36, 37, 38, 39, 40, 41, 42, 43, 44, 45] (by decide +kernel) (by decide +kernel)
set_option maxRecDepth 20000 in
theorem gX3_letDown_X3_topOf : GoodIn wsX3_letDown (wsV RX3 124 RX3 yX3_topOf wsX3_topOf) := goodIn_app (goodIn_of _ (by decide +kernel)) ggX3_letDown_X3_topOf
theorem dX3_letDown_0 : decode cX3_letDown 0 = .ok (.aload_n 0, 1) := by decide +kernel
theorem dX3_letDown_1 : decode cX3_letDown 1 = .ok (.getfield 52, 3) := by decide +kernel
theorem dX3_letDown_4 : decode cX3_letDown 4 = .ok (.aload_n 1, 1) := by decide +kernel
theorem dX3_letDown_5 : decode cX3_letDown 5 = .ok (.iload 4, 2) := by decide +kernel
theorem dX3_letDown_7 : decode cX3_letDown 7 = .ok (.invokevirtual 250, 3) := by decide +kernel
theorem dX3_letDown_10 : decode cX3_letDown 10 = .ok (.aload_n 0, 1) := by decide +kernel
theorem dX3_letDown_11 : decode cX3_letDown 11 = .ok (.getfield 52, 3) := by decide +kernel
theorem dX3_letDown_14 : decode cX3_letDown 14 = .ok (.iload_n 2, 1) := by decide +kernel
theorem dX3_letDown_15 : decode cX3_letDown 15 = .ok (.putfield 182, 3) := by decide +kernel
theorem dX3_letDown_18 : decode cX3_letDown 18 = .ok (.aload_n 0, 1) := by decide +kernel
theorem dX3_letDown_19 : decode cX3_letDown 19 = .ok (.getfield 52, 3) := by decide +kernel
theorem dX3_letDown_22 : decode cX3_letDown 22 = .ok (.iload_n 3, 1) := by decide +kernel
theorem dX3_letDown_23 : decode cX3_letDown 23 = .ok (.putfield 176, 3) := by decide +kernel
theorem dX3_letDown_26 : decode cX3_letDown 26 = .ok (.iconst 0, 1) := by decide +kernel
theorem dX3_letDown_27 : decode cX3_letDown 27 = .ok (.istore 5, 2) := by decide +kernel
theorem dX3_letDown_29 : decode cX3_letDown 29 = .ok (.iconst 0, 1) := by decide +kernel
theorem dX3_letDown_30 : decode cX3_letDown 30 = .ok (.istore 6, 2) := by decide +kernel
theorem dX3_letDown_32 : decode cX3_letDown 32 = .ok (.iload_n 3, 1) := by decide +kernel
theorem dX3_letDown_33 : decode cX3_letDown 33 = .ok (.istore 7, 2) := by decide +kernel
theorem dX3_letDown_35 : decode cX3_letDown 35 = .ok (.iload 7, 2) := by decide +kernel
theorem dX3_letDown_37 : decode cX3_letDown 37 = .ok (.iload_n 3, 1) := by decide +kernel
theorem dX3_letDown_38 : decode cX3_letDown 38 = .ok (.aload_n 0, 1) := by decide +kernel
theorem dX3_letDown_39 : decode cX3_letDown 39 = .ok (.getfield 52, 3) := by decide +kernel
theorem dX3_letDown_42 : decode cX3_letDown 42 = .ok (.getfield 179, 3) := by decide +kernel
theorem dX3_letDown_45 : decode cX3_letDown 45 = .ok (.iadd, 1) := by decide +kernel
theorem dX3_letDown_46 : decode cX3_letDown 46 = .ok (.if_icmp .ge 69, 3) := by decide +kernel
theorem dX3_letDown_49 : decode cX3_letDown 49 = .ok (.iload_n 2, 1) := by decide +kernel
theorem dX3_letDown_50 : decode cX3_letDown 50 = .ok (.istore 8, 2) := by decide +kernel
theorem dX3_letDown_52 : decode cX3_letDown 52 = .ok (.iload 8, 2) := by decide +kernel
theorem dX3_letDown_54 : decode cX3_letDown 54 = .ok (.iload_n 2, 1) := by decide +kernel
theorem dX3_letDown_55 : decode cX3_letDown 55 = .ok (.aload_n 0, 1) := by decide +kernel
theorem dX3_letDown_56 : decode cX3_letDown 56 = .ok (.getfield 52, 3) := by decide +kernel
theorem dX3_letDown_59 : decode cX3_letDown 59 = .ok (.getfield 185, 3) := by decide +kernel
theorem dX3_letDown_62 : decode cX3_letDown 62 = .ok (.iadd, 1) := by decide +kernel
theorem dX3_letDown_63 : decode cX3_letDown 63 = .ok (.if_icmp .ge 46, 3) := by decide +kernel
theorem dX3_letDown_66 : decode cX3_letDown 66 = .ok (.aload_n 0, 1) := by decide +kernel
theorem dX3_letDown_67 : decode cX3_letDown 67 = .ok (.iload 8, 2) := by decide +kernel
theorem dX3_letDown_69 : decode cX3_letDown 69 = .ok (.iload 7, 2) := by decide +kernel
theorem dX3_letDown_71 : decode cX3_letDown 71 = .ok (.invokevirtual 124, 3) := by decide +kernel
theorem dX3_letDown_74 : decode cX3_letDown 74 = .ok (.istore 9, 2) := by decide +kernel
theorem dX3_letDown_76 : decode cX3_letDown 76 = .ok (.iload 9, 2) := by decide +kernel
theorem dX3_letDown_78 : decode cX3_letDown 78 = .ok (.iload 5, 2) := by decide +kernel
theorem dX3_letDown_80 : decode cX3_letDown 80 = .ok (.if_icmp .le 13, 3) := by decide +kernel
theorem dX3_letDown_83 : decode cX3_letDown 83 = .ok (.iload 9, 2) := by decide +kernel
theorem dX3_letDown_85 : decode cX3_letDown 85 = .ok (.istore 5, 2) := by decide +kernel
theorem dX3_letDown_87 : decode cX3_letDown 87 = .ok (.iconst 1, 1) := by decide +kernel
theorem dX3_letDown_88 : decode cX3_letDown 88 = .ok (.istore 6, 2) := by decide +kernel
theorem dX3_letDown_90 : decode cX3_letDown 90 = .ok (.goto 13, 3) := by decide +kernel
theorem dX3_letDown_93 : decode cX3_letDown 93 = .ok (.iload 9, 2) := by decide +kernel
theorem dX3_letDown_95 : decode cX3_letDown 95 = .ok (.iload 5, 2) := by decide +kernel
theorem dX3_letDown_97 : decode cX3_letDown 97 = .ok (.if_icmp .ne 6, 3) := by decide +kernel
theorem dX3_letDown_100 : decode cX3_letDown 100 = .ok (.iinc 6 1, 3) := by decide +kernel
theorem dX3_letDown_103 : decode cX3_letDown 103 = .ok (.iinc 8 1, 3) := by decide +kernel
theorem dX3_letDown_106 : decode cX3_letDown 106 = .ok (.goto (-54), 3) := by decide +kernel
theorem dX3_letDown_109 : decode cX3_letDown 109 = .ok (.iinc 7 1, 3) := by decide +kernel
theorem dX3_letDown_112 : decode cX3_letDown 112 = .ok (.goto (-77), 3) := by decide +kernel
theorem dX3_letDown_115 : decode cX3_letDown 115 = .ok (.aload_n 0, 1) := by decide +kernel
theorem dX3_letDown_116 : decode cX3_letDown 116 = .ok (.getfield 52, 3) := by decide +kernel
theorem dX3_letDown_119 : decode cX3_letDown 119 = .ok (.iload 5, 2) := by decide +kernel
theorem dX3_letDown_121 : decode cX3_letDown 121 = .ok (.putfield 131, 3) := by decide +kernel
theorem dX3_letDown_124 : decode cX3_letDown 124 = .ok (.aload_n 0, 1) := by decide +kernel
theorem dX3_letDown_125 : decode cX3_letDown 125 = .ok (.getfield 52, 3) := by decide +kernel
theorem dX3_letDown_128 : decode cX3_letDown 128 = .ok (.iload 5, 2) := by decide +kernel
theorem dX3_letDown_130 : decode cX3_letDown 130 = .ok (.aload_n 1, 1) := by decide +kernel
theorem dX3_letDown_131 : decode cX3_letDown 131 = .ok (.getfield 254, 3) := by decide +kernel
theorem dX3_letDown_134 : decode cX3_letDown 134 = .ok (.iadd, 1) := by decide +kernel
theorem dX3_letDown_135 : decode cX3_letDown 135 = .ok (.putfield 134, 3) := by decide +kernel
theorem dX3_letDown_138 : decode cX3_letDown 138 = .ok (.aload_n 0, 1) := by decide +kernel
theorem dX3_letDown_139 : decode cX3_letDown 139 = .ok (.getfield 52, 3) := by decide +kernel
theorem dX3_letDown_142 : decode cX3_letDown 142 = .ok (.iload 6, 2) := by decide +kernel
theorem dX3_letDown_144 : decode cX3_letDown 144 = .ok (.putfield 214, 3) := by decide +kernel
theorem dX3_letDown_147 : decode cX3_letDown 147 = .ok (.return_, 1) := by decide +kernel
set_option maxRecDepth 20000 in
theorem ggX3_findSupports_X3_itemOf : GoodIn wsX3_findSupports wsX3_itemOf := goodIn_r _ [10, 3, 11, 12, 36, 37, 38, 39, 40, 41, 42, 43, 44, 45, 46, 47, 48, 49, 50, 51, 52, 53, 54, 55, 56, 57, 58, 59, 60, 61, 62, 63, 64, 65, 66, 67] (by decide +kernel) (by decide +kernel)
set_option maxRecDepth 20000 in
theorem gX3_findSupports_X3_itemOf : GoodIn wsX3_findSupports (wsV RX3 96 RX3 yX3_itemOf wsX3_itemOf) := goodIn_app (goodIn_of _ (by decide +kernel)) ggX3_findSupports_X3_itemOf
set_option maxRecDepth 20000 in
theorem ggX3_findSupports_X0_cellsInCommon : GoodIn wsX3_findSupports wsX0_cellsInCommon := goodIn_r _ [17, 18, 19, 20, 21, 22, 23, 24, 25, 26, 27, 28, 50, 51, 52, 53, 54, 55, 56, 57, 58, 59, 60, 61, 62, 63, 64, 65, 66, 67] (by decide +kernel) (by decide +kernel)
set_option maxRecDepth 20000 in
theorem gX3_findSupports_X0_cellsInCommon : GoodIn wsX3_findSupports (wsV RX3 257 RX0 yX0_cellsInCommon wsX0_cellsInCommon) := goodIn_app (goodIn_of _ (by decide +kernel)) ggX3_findSupports_X0_cellsInCommon
set_option maxRecDepth 20000 in
theorem ggX3_findSupports_X0_addSupport : GoodIn wsX3_findSupports wsX0_addSupport := goodIn_r _ [32, 33, 34, 35, 50, 51, 52, 53, 54, 55, 56, 57, 58, 59, 60, 61, 62, 63, 64, 65, 66, 67] (by decide +kernel) (by decide +kernel)
set_option maxRecDepth 20000 in
theorem gX3_findSupports_X0_addSupport : GoodIn wsX3_findSupports (wsV RX3 260 RX0 yX0_addSupport wsX0_addSupport) := goodIn_app (goodIn_of _ (by decide +kernel)) ggX3_findSupports_X0_addSupport
theorem dX3_findSupports_0 : decode cX3_findSupports 0 = .ok (.aload_n 0, 1) := by decide +kernel
theorem dX3_findSupports_1 : decode cX3_findSupports 1 = .ok (.getfield 52, 3) := by decide +kernel
theorem dX3_findSupports_4 : decode cX3_findSupports 4 = .ok (.iconst 0, 1) := by decide +kernel
theorem dX3_findSupports_5 : decode cX3_findSupports 5 = .ok (.putfield 211, 3) := by decide +kernel
theorem dX3_findSupports_8 : decode cX3_findSupports 8 = .ok (.iconst 0, 1) := by decide +kernel
theorem dX3_findSupports_9 : decode cX3_findSupports 9 = .ok (.istore_n 1, 1) := by decide +kernel
theorem dX3_findSupports_10 : decode cX3_findSupports 10 = .ok (.iload_n 1, 1) := by decide +kernel
theorem dX3_findSupports_11 : decode cX3_findSupports 11 = .ok (.aload_n 0, 1) := by decide +kernel
theorem dX3_findSupports_12 : decode cX3_findSupports 12 = .ok (.getfield 38, 3) := by decide +kernel
theorem dX3_findSupports_15 : decode cX3_findSupports 15 = .ok (.if_icmp .ge 49, 3) := by decide +kernel
theorem dX3_findSupports_18 : decode cX3_findSupports 18 = .ok (.aload_n 0, 1) := by decide +kernel
theorem dX3_findSupports_19 : decode cX3_findSupports 19 = .ok (.iload_n 1, 1) := by decide +kernel
theorem dX3_findSupports_20 : decode cX3_findSupports 20 = .ok (.invokevirtual 96, 3) := by decide +kernel
theorem dX3_findSupports_23 : decode cX3_findSupports 23 = .ok (.astore_n 2, 1) := by decide +kernel
theorem dX3_findSupports_24 : decode cX3_findSupports 24 = .ok (.aload_n 2, 1) := by decide +kernel
theorem dX3_findSupports_25 : decode cX3_findSupports 25 = .ok (.ifnull 33, 3) := by decide +kernel
theorem dX3_findSupports_28 : decode cX3_findSupports 28 = .ok (.aload_n 2, 1) := by decide +kernel
theorem dX3_findSupports_29 : decode cX3_findSupports 29 = .ok (.getfield 134, 3) := by decide +kernel
theorem dX3_findSupports_32 : decode cX3_findSupports 32 = .ok (.aload_n 0, 1) := by decide +kernel
theorem dX3_findSupports_33 : decode cX3_findSupports 33 = .ok (.getfield 52, 3) := by decide +kernel
theorem dX3_findSupports_36 : decode cX3_findSupports 36 = .ok (.getfield 131, 3) := by decide +kernel
theorem dX3_findSupports_39 : decode cX3_findSupports 39 = .ok (.if_icmp .ne 19, 3) := by decide +kernel
theorem dX3_findSupports_42 : decode cX3_findSupports 42 = .ok (.aload_n 0, 1) := by decide +kernel
theorem dX3_findSupports_43 : decode cX3_findSupports 43 = .ok (.getfield 52, 3) := by decide +kernel
theorem dX3_findSupports_46 : decode cX3_findSupports 46 = .ok (.aload_n 2, 1) := by decide +kernel
theorem dX3_findSupports_47 : decode cX3_findSupports 47 = .ok (.aload_n 0, 1) := by decide +kernel
theorem dX3_findSupports_48 : decode cX3_findSupports 48 = .ok (.getfield 52, 3) := by decide +kernel
theorem dX3_findSupports_51 : decode cX3_findSupports 51 = .ok (.aload_n 2, 1) := by decide +kernel
theorem dX3_findSupports_52 : decode cX3_findSupports 52 = .ok (.invokevirtual 257, 3) := by decide +kernel
theorem dX3_findSupports_55 : decode cX3_findSupports 55 = .ok (.invokevirtual 260, 3) := by decide +kernel
theorem dX3_findSupports_58 : decode cX3_findSupports 58 = .ok (.iinc 1 1, 3) := by decide +kernel
theorem dX3_findSupports_61 : decode cX3_findSupports 61 = .ok (.goto (-51), 3) := by decide +kernel
theorem dX3_findSupports_64 : decode cX3_findSupports 64 = .ok (.return_, 1) := by decide +kernel
set_option maxRecDepth 20000 in
theorem ggX3_isGround_X3_topOf : GoodIn wsX3_isGround wsX3_topOf := goodIn_r _ [7, 8, 9, 10, 11, 12, 13, 14, 15, 16, 17, 18, 19, 20, 21, 22] (by decide +kernel) (by decide +kernel)
set_option maxRecDepth 20000 in
theorem gX3_isGround_X3_topOf : GoodIn wsX3_isGround (wsV RX3 124 RX3 yX3_topOf wsX3_topOf) := goodIn_app (goodIn_of _ (by decide +kernel)) ggX3_isGround_X3_topOf
theorem dX3_isGround_0 : decode cX3_isGround 0 = .ok (.aload_n 0, 1) := by decide +kernel
theorem dX3_isGround_1 : decode cX3_isGround 1 = .ok (.iload_n 1, 1) := by decide +kernel
theorem dX3_isGround_2 : decode cX3_isGround 2 = .ok (.iload_n 2, 1) := by decide +kernel
theorem dX3_isGround_3 : decode cX3_isGround 3 = .ok (.invokevirtual 124, 3) := by decide +kernel
theorem dX3_isGround_6 : decode cX3_isGround 6 = .ok (.aload_n 0, 1) := by decide +kernel
theorem dX3_isGround_7 : decode cX3_isGround 7 = .ok (.getfield 52, 3) := by decide +kernel
theorem dX3_isGround_10 : decode cX3_isGround 10 = .ok (.getfield 131, 3) := by decide +kernel
theorem dX3_isGround_13 : decode cX3_isGround 13 = .ok (.if_icmp .ne 7, 3) := by decide +kernel
theorem dX3_isGround_16 : decode cX3_isGround 16 = .ok (.iconst 1, 1) := by decide +kernel
theorem dX3_isGround_17 : decode cX3_isGround 17 = .ok (.goto 4, 3) := by decide +kernel
theorem dX3_isGround_20 : decode cX3_isGround 20 = .ok (.iconst 0, 1) := by decide +kernel
theorem dX3_isGround_21 : decode cX3_isGround 21 = .ok (.ireturn, 1) := by decide +kernel
set_option maxRecDepth 20000 in
theorem ggX3_hasGroundAtCorners_X3_isGround : GoodIn wsX3_hasGroundAtCorners wsX3_isGround := goodIn_r _ [10, 1, 11, 12, 13, 14, 9, 15, 16, 17, 18, 19, 20, 21, 22, 23, 24, 25, 26, 27, 28, 29, 30, 31, 32, 33, 34, 35, 36, 37, 38, 39, 40, 41, 42, 43, 44, 45, 46, 47, 48] (by decide +kernel) (by decide +kernel)
set_option maxRecDepth 20000 in
theorem gX3_hasGroundAtCorners_X3_isGround : GoodIn wsX3_hasGroundAtCorners (wsV RX3 264 RX3 yX3_isGround wsX3_isGround) := goodIn_app (goodIn_of _ (by decide +kernel)) ggX3_hasGroundAtCorners_X3_isGround
theorem dX3_hasGroundAtCorners_0 : decode cX3_hasGroundAtCorners 0 = .ok (.aload_n 0, 1) := by decide +kernel
theorem dX3_hasGroundAtCorners_1 : decode cX3_hasGroundAtCorners 1 = .ok (.getfield 52, 3) := by decide +kernel
theorem dX3_hasGroundAtCorners_4 : decode cX3_hasGroundAtCorners 4 = .ok (.getfield 182, 3) := by decide +kernel
theorem dX3_hasGroundAtCorners_7 : decode cX3_hasGroundAtCorners 7 = .ok (.aload_n 0, 1) := by decide +kernel
theorem dX3_hasGroundAtCorners_8 : decode cX3_hasGroundAtCorners 8 = .ok (.getfield 52, 3) := by decide +kernel
theorem dX3_hasGroundAtCorners_11 : decode cX3_hasGroundAtCorners 11 = .ok (.getfield 185, 3) := by decide +kernel
theorem dX3_hasGroundAtCorners_14 : decode cX3_hasGroundAtCorners 14 = .ok (.iadd, 1) := by decide +kernel
theorem dX3_hasGroundAtCorners_15 : decode cX3_hasGroundAtCorners 15 = .ok (.iconst 1, 1) := by decide +kernel
theorem dX3_hasGroundAtCorners_16 : decode cX3_hasGroundAtCorners 16 = .ok (.isub, 1) := by decide +kernel
theorem dX3_hasGroundAtCorners_17 : decode cX3_hasGroundAtCorners 17 = .ok (.istore_n 1, 1) := by decide +kernel
theorem dX3_hasGroundAtCorners_18 : decode cX3_hasGroundAtCorners 18 = .ok (.aload_n 0, 1) := by decide +kernel
theorem dX3_hasGroundAtCorners_19 : decode cX3_hasGroundAtCorners 19 = .ok (.getfield 52, 3) := by decide +kernel
theorem dX3_hasGroundAtCorners_22 : decode cX3_hasGroundAtCorners 22 = .ok (.getfield 176, 3) := by decide +kernel
theorem dX3_hasGroundAtCorners_25 : decode cX3_hasGroundAtCorners 25 = .ok (.aload_n 0, 1) := by decide +kernel
theorem dX3_hasGroundAtCorners_26 : decode cX3_hasGroundAtCorners 26 = .ok (.getfield 52, 3) := by decide +kernel
theorem dX3_hasGroundAtCorners_29 : decode cX3_hasGroundAtCorners 29 = .ok (.getfield 179, 3) := by decide +kernel
theorem dX3_hasGroundAtCorners_32 : decode cX3_hasGroundAtCorners 32 = .ok (.iadd, 1) := by decide +kernel
theorem dX3_hasGroundAtCorners_33 : decode cX3_hasGroundAtCorners 33 = .ok (.iconst 1, 1) := by decide +kernel
theorem dX3_hasGroundAtCorners_34 : decode cX3_hasGroundAtCorners 34 = .ok (.isub, 1) := by decide +kernel
theorem dX3_hasGroundAtCorners_35 : decode cX3_hasGroundAtCorners 35 = .ok (.istore_n 2, 1) := by decide +kernel
theorem dX3_hasGroundAtCorners_36 : decode cX3_hasGroundAtCorners 36 = .ok (.aload_n 0, 1) := by decide +kernel
theorem dX3_hasGroundAtCorners_37 : decode cX3_hasGroundAtCorners 37 = .ok (.aload_n 0, 1) := by decide +kernel
theorem dX3_hasGroundAtCorners_38 : decode cX3_hasGroundAtCorners 38 = .ok (.getfield 52, 3) := by decide +kernel
theorem dX3_hasGroundAtCorners_41 : decode cX3_hasGroundAtCorners 41 = .ok (.getfield 182, 3) := by decide +kernel
theorem dX3_hasGroundAtCorners_44 : decode cX3_hasGroundAtCorners 44 = .ok (.aload_n 0, 1) := by decide +kernel
theorem dX3_hasGroundAtCorners_45 : decode cX3_hasGroundAtCorners 45 = .ok (.getfield 52, 3) := by decide +kernel
theorem dX3_hasGroundAtCorners_48 : decode cX3_hasGroundAtCorners 48 = .ok (.getfield 176, 3) := by decide +kernel
theorem dX3_hasGroundAtCorners_51 : decode cX3_hasGroundAtCorners 51 = .ok (.invokevirtual 264, 3) := by decide +kernel
theorem dX3_hasGroundAtCorners_54 : decode cX3_hasGroundAtCorners 54 = .ok (.ifCond .eq 46, 3) := by decide +kernel
theorem dX3_hasGroundAtCorners_57 : decode cX3_hasGroundAtCorners 57 = .ok (.aload_n 0, 1) := by decide +kernel
theorem dX3_hasGroundAtCorners_58 : decode cX3_hasGroundAtCorners 58 = .ok (.iload_n 1, 1) := by decide +kernel
theorem dX3_hasGroundAtCorners_59 : decode cX3_hasGroundAtCorners 59 = .ok (.aload_n 0, 1) := by decide +kernel
theorem dX3_hasGroundAtCorners_60 : decode cX3_hasGroundAtCorners 60 = .ok (.getfield 52, 3) := by decide +kernel
theorem dX3_hasGroundAtCorners_63 : decode cX3_hasGroundAtCorners 63 = .ok (.getfield 176, 3) := by decide +kernel
theorem dX3_hasGroundAtCorners_66 : decode cX3_hasGroundAtCorners 66 = .ok (.invokevirtual 264, 3) := by decide +kernel
theorem dX3_hasGroundAtCorners_69 : decode cX3_hasGroundAtCorners 69 = .ok (.ifCond .eq 31, 3) := by decide +kernel
theorem dX3_hasGroundAtCorners_72 : decode cX3_hasGroundAtCorners 72 = .ok (.aload_n 0, 1) := by decide +kernel
theorem dX3_hasGroundAtCorners_73 : decode cX3_hasGroundAtCorners 73 = .ok (.aload_n 0, 1) := by decide +kernel
theorem dX3_hasGroundAtCorners_74 : decode cX3_hasGroundAtCorners 74 = .ok (.getfield 52, 3) := by decide +kernel
theorem dX3_hasGroundAtCorners_77 : decode cX3_hasGroundAtCorners 77 = .ok (.getfield 182, 3) := by decide +kernel
theorem dX3_hasGroundAtCorners_80 : decode cX3_hasGroundAtCorners 80 = .ok (.iload_n 2, 1) := by decide +kernel
theorem dX3_hasGroundAtCorners_81 : decode cX3_hasGroundAtCorners 81 = .ok (.invokevirtual 264, 3) := by decide +kernel
theorem dX3_hasGroundAtCorners_84 : decode cX3_hasGroundAtCorners 84 = .ok (.ifCond .eq 16, 3) := by decide +kernel
theorem dX3_hasGroundAtCorners_87 : decode cX3_hasGroundAtCorners 87 = .ok (.aload_n 0, 1) := by decide +kernel
theorem dX3_hasGroundAtCorners_88 : decode cX3_hasGroundAtCorners 88 = .ok (.iload_n 1, 1) := by decide +kernel
theorem dX3_hasGroundAtCorners_89 : decode cX3_hasGroundAtCorners 89 = .ok (.iload_n 2, 1) := by decide +kernel
theorem dX3_hasGroundAtCorners_90 : decode cX3_hasGroundAtCorners 90 = .ok (.invokevirtual 264, 3) := by decide +kernel
theorem dX3_hasGroundAtCorners_93 : decode cX3_hasGroundAtCorners 93 = .ok (.ifCond .eq 7, 3) := by decide +kernel
theorem dX3_hasGroundAtCorners_96 : decode cX3_hasGroundAtCorners 96 = .ok (.iconst 1, 1) := by decide +kernel
theorem dX3_hasGroundAtCorners_97 : decode cX3_hasGroundAtCorners 97 = .ok (.goto 4, 3) := by decide +kernel
theorem dX3_hasGroundAtCorners_100 : decode cX3_hasGroundAtCorners 100 = .ok (.iconst 0, 1) := by decide +kernel
theorem dX3_hasGroundAtCorners_101 : decode cX3_hasGroundAtCorners 101 = .ok (.ireturn, 1) := by decide +kernel
set_option maxRecDepth 20000 in
theorem ggX3_brokenRule_X0_cells : GoodIn wsX3_brokenRule wsX0_cells := goodIn_r _ [16, 17, 18, 100, 101, 102, 103, 104, 105, 106, 107, 108, 109, 110, 111, 112, 113, 114, 115, 116, 117] (by decide +kernel) (by decide +kernel)
set_option maxRecDepth 20000 in
theorem gX3_brokenRule_X0_cells : GoodIn wsX3_brokenRule (wsV RX3 188 RX0 yX0_cells wsX0_cells) := goodIn_app (goodIn_of _ (by decide +kernel)) ggX3_brokenRule_X0_cells
set_option maxRecDepth 20000 in
theorem ggX3_brokenRule_X3_hasGroundAtCorners : GoodIn wsX3_brokenRule wsX3_hasGroundAtCorners := goodIn_r _ [23, 1, 24, 25, 26, 27, 28, 29, 30, 22, 31, 5, 32, 33, 34, 35, 36, 86, 87, 88, 89, 90, 91, 92, 93, 94, 95, 96, 97, 98, 99, 100, 101, 102, 103, 104, 105, 106, 107, 108, 109, 110, 111, 112, 113, 114, 115, 116, 117] (by decide +kernel) (by decide +kernel)
set_option maxRecDepth 20000 in
theorem gX3_brokenRule_X3_hasGroundAtCorners : GoodIn wsX3_brokenRule (wsV RX3 270 RX3 yX3_hasGroundAtCorners wsX3_hasGroundAtCorners) := goodIn_app (goodIn_of _ (by decide +kernel)) ggX3_brokenRule_X3_hasGroundAtCorners
set_option maxRecDepth 20000 in
theorem ggX3_brokenRule_X3_findSupports : GoodIn wsX3_brokenRule wsX3_findSupports := goodIn_r _ [40, 1, 41, 42, 2, 5, 43, 44, 45, 22, 46, 47, 48, 49, 50, 51, 15, 52, 53, 17, 54, 55, 56, 57, 58, 59, 60, 61, 18, 62, 63, 64, 65, 66, 67, 68, 86, 87, 88, 89, 90, 91, 92, 93, 94, 95, 96, 97, 98, 99, 100, 101, 102, 103, 104, 105, 106, 107, 108, 109, 110, 111, 112, 113, 114, 115, 116, 117] (by decide +kernel) (by decide +kernel)
set_option maxRecDepth 20000 in
theorem gX3_brokenRule_X3_findSupports : GoodIn wsX3_brokenRule (wsV RX3 274 RX3 yX3_findSupports wsX3_findSupports) := goodIn_app (goodIn_of _ (by decide +kernel)) ggX3_brokenRule_X3_findSupports
set_option maxRecDepth 20000 in
theorem ggX3_brokenRule_X3_isTooMuchLoad : GoodIn wsX3_brokenRule wsX3_isTooMuchLoad := goodIn_r _ [72, 1, 73, 42, 74, 75, 76, 77, 22, 78, 43, 44, 45, 46, 47, 48, 79, 80, 81, 15, 82, 66, 67, 83, 84, 85, 68, 86, 87, 88, 89, 90, 91, 92, 93, 94, 95, 96, 97, 98, 99, 100, 101, 102, 103, 104, 105, 106, 107, 108, 109, 110, 111, 112, 113, 114, 115, 116, 117] (by decide +kernel) (by decide +kernel)
set_option maxRecDepth 20000 in
theorem gX3_brokenRule_X3_isTooMuchLoad : GoodIn wsX3_brokenRule (wsV RX3 277 RX3 yX3_isTooMuchLoad wsX3_isTooMuchLoad) := goodIn_app (goodIn_of _ (by decide +kernel)) ggX3_brokenRule_X3_isTooMuchLoad
theorem dX3_brokenRule_0 : decode cX3_brokenRule 0 = .ok (.aload_n 0, 1) := by decide +kernel
theorem dX3_brokenRule_1 : decode cX3_brokenRule 1 = .ok (.getfield 52, 3) := by decide +kernel
theorem dX3_brokenRule_4 : decode cX3_brokenRule 4 = .ok (.getfield 134, 3) := by decide +kernel
theorem dX3_brokenRule_7 : decode cX3_brokenRule 7 = .ok (.aload_n 0, 1) := by decide +kernel
theorem dX3_brokenRule_8 : decode cX3_brokenRule 8 = .ok (.getfield 19, 3) := by decide +kernel
theorem dX3_brokenRule_11 : decode cX3_brokenRule 11 = .ok (.if_icmp .le 5, 3) := by decide +kernel
theorem dX3_brokenRule_14 : decode cX3_brokenRule 14 = .ok (.iconst 2, 1) := by decide +kernel
theorem dX3_brokenRule_15 : decode cX3_brokenRule 15 = .ok (.ireturn, 1) := by decide +kernel
theorem dX3_brokenRule_16 : decode cX3_brokenRule 16 = .ok (.aload_n 1, 1) := by decide +kernel
theorem dX3_brokenRule_17 : decode cX3_brokenRule 17 = .ok (.getfield 267, 3) := by decide +kernel
theorem dX3_brokenRule_20 : decode cX3_brokenRule 20 = .ok (.ifCond .eq 15, 3) := by decide +kernel
theorem dX3_brokenRule_23 : decode cX3_brokenRule 23 = .ok (.aload_n 0, 1) := by decide +kernel
theorem dX3_brokenRule_24 : decode cX3_brokenRule 24 = .ok (.getfield 52, 3) := by decide +kernel
theorem dX3_brokenRule_27 : decode cX3_brokenRule 27 = .ok (.getfield 131, 3) := by decide +kernel
theorem dX3_brokenRule_30 : decode cX3_brokenRule 30 = .ok (.ifCond .le 5, 3) := by decide +kernel
theorem dX3_brokenRule_33 : decode cX3_brokenRule 33 = .ok (.iconst 3, 1) := by decide +kernel
theorem dX3_brokenRule_34 : decode cX3_brokenRule 34 = .ok (.ireturn, 1) := by decide +kernel
theorem dX3_brokenRule_35 : decode cX3_brokenRule 35 = .ok (.aload_n 0, 1) := by decide +kernel
theorem dX3_brokenRule_36 : decode cX3_brokenRule 36 = .ok (.getfield 52, 3) := by decide +kernel
theorem dX3_brokenRule_39 : decode cX3_brokenRule 39 = .ok (.getfield 214, 3) := by decide +kernel
theorem dX3_brokenRule_42 : decode cX3_brokenRule 42 = .ok (.bipush 100, 2) := by decide +kernel
theorem dX3_brokenRule_44 : decode cX3_brokenRule 44 = .ok (.imul, 1) := by decide +kernel
theorem dX3_brokenRule_45 : decode cX3_brokenRule 45 = .ok (.aload_n 0, 1) := by decide +kernel
theorem dX3_brokenRule_46 : decode cX3_brokenRule 46 = .ok (.getfield 52, 3) := by decide +kernel
theorem dX3_brokenRule_49 : decode cX3_brokenRule 49 = .ok (.invokevirtual 188, 3) := by decide +kernel
theorem dX3_brokenRule_52 : decode cX3_brokenRule 52 = .ok (.aload_n 0, 1) := by decide +kernel
theorem dX3_brokenRule_53 : decode cX3_brokenRule 53 = .ok (.getfield 22, 3) := by decide +kernel
theorem dX3_brokenRule_56 : decode cX3_brokenRule 56 = .ok (.imul, 1) := by decide +kernel
theorem dX3_brokenRule_57 : decode cX3_brokenRule 57 = .ok (.if_icmp .ge 5, 3) := by decide +kernel
theorem dX3_brokenRule_60 : decode cX3_brokenRule 60 = .ok (.iconst 4, 1) := by decide +kernel
theorem dX3_brokenRule_61 : decode cX3_brokenRule 61 = .ok (.ireturn, 1) := by decide +kernel
theorem dX3_brokenRule_62 : decode cX3_brokenRule 62 = .ok (.aload_n 0, 1) := by decide +kernel
theorem dX3_brokenRule_63 : decode cX3_brokenRule 63 = .ok (.getfield 28, 3) := by decide +kernel
theorem dX3_brokenRule_66 : decode cX3_brokenRule 66 = .ok (.ifCond .eq 22, 3) := by decide +kernel
theorem dX3_brokenRule_69 : decode cX3_brokenRule 69 = .ok (.aload_n 0, 1) := by decide +kernel
theorem dX3_brokenRule_70 : decode cX3_brokenRule 70 = .ok (.getfield 52, 3) := by decide +kernel
theorem dX3_brokenRule_73 : decode cX3_brokenRule 73 = .ok (.getfield 131, 3) := by decide +kernel
theorem dX3_brokenRule_76 : decode cX3_brokenRule 76 = .ok (.ifCond .le 12, 3) := by decide +kernel
theorem dX3_brokenRule_79 : decode cX3_brokenRule 79 = .ok (.aload_n 0, 1) := by decide +kernel
theorem dX3_brokenRule_80 : decode cX3_brokenRule 80 = .ok (.invokevirtual 270, 3) := by decide +kernel
theorem dX3_brokenRule_83 : decode cX3_brokenRule 83 = .ok (.ifCond .ne 5, 3) := by decide +kernel
theorem dX3_brokenRule_86 : decode cX3_brokenRule 86 = .ok (.iconst 5, 1) := by decide +kernel
theorem dX3_brokenRule_87 : decode cX3_brokenRule 87 = .ok (.ireturn, 1) := by decide +kernel
theorem dX3_brokenRule_88 : decode cX3_brokenRule 88 = .ok (.aload_n 0, 1) := by decide +kernel
theorem dX3_brokenRule_89 : decode cX3_brokenRule 89 = .ok (.invokevirtual 274, 3) := by decide +kernel
theorem dX3_brokenRule_92 : decode cX3_brokenRule 92 = .ok (.aload_n 0, 1) := by decide +kernel
theorem dX3_brokenRule_93 : decode cX3_brokenRule 93 = .ok (.invokevirtual 277, 3) := by decide +kernel
theorem dX3_brokenRule_96 : decode cX3_brokenRule 96 = .ok (.ifCond .eq 6, 3) := by decide +kernel
theorem dX3_brokenRule_99 : decode cX3_brokenRule 99 = .ok (.bipush 6, 2) := by decide +kernel
theorem dX3_brokenRule_101 : decode cX3_brokenRule 101 = .ok (.ireturn, 1) := by decide +kernel
theorem dX3_brokenRule_102 : decode cX3_brokenRule 102 = .ok (.aload_n 0, 1) := by decide +kernel
theorem dX3_brokenRule_103 : decode cX3_brokenRule 103 = .ok (.getfield 44, 3) := by decide +kernel
theorem dX3_brokenRule_106 : decode cX3_brokenRule 106 = .ok (.aload_n 0, 1) := by decide +kernel
theorem dX3_brokenRule_107 : decode cX3_brokenRule 107 = .ok (.getfield 52, 3) := by decide +kernel
theorem dX3_brokenRule_110 : decode cX3_brokenRule 110 = .ok (.getfield 107, 3) := by decide +kernel
theorem dX3_brokenRule_113 : decode cX3_brokenRule 113 = .ok (.iadd, 1) := by decide +kernel
theorem dX3_brokenRule_114 : decode cX3_brokenRule 114 = .ok (.aload_n 0, 1) := by decide +kernel
theorem dX3_brokenRule_115 : decode cX3_brokenRule 115 = .ok (.getfield 25, 3) := by decide +kernel
theorem dX3_brokenRule_118 : decode cX3_brokenRule 118 = .ok (.if_icmp .le 8, 3) := by decide +kernel
theorem dX3_brokenRule_121 : decode cX3_brokenRule 121 = .ok (.bipush 7, 2) := by decide +kernel
theorem dX3_brokenRule_123 : decode cX3_brokenRule 123 = .ok (.goto 4, 3) := by decide +kernel
theorem dX3_brokenRule_126 : decode cX3_brokenRule 126 = .ok (.iconst 0, 1) := by decide +kernel
theorem dX3_brokenRule_127 : decode cX3_brokenRule 127 = .ok (.ireturn, 1) := by decide +kernel
set_option maxRecDepth 20000 in
theorem ggX3_bestPlace_X3_xOf : GoodIn wsX3_bestPlace wsX3_xOf := goodIn_r _ [7] (by decide +kernel) (by decide +kernel)
set_option maxRecDepth 20000 in
theorem gX3_bestPlace_X3_xOf : GoodIn wsX3_bestPlace (va_wsS RX3 291 yX3_xOf wsX3_xOf) := goodIn_app (goodIn_of _ (by decide +kernel)) ggX3_bestPlace_X3_xOf
set_option maxRecDepth 20000 in
theorem ggX3_bestPlace_X3_yOf : GoodIn wsX3_bestPlace wsX3_yOf := goodIn_r _ [10] (by decide +kernel) (by decide +kernel)
set_option maxRecDepth 20000 in
theorem gX3_bestPlace_X3_yOf : GoodIn wsX3_bestPlace (va_wsS RX3 294 yX3_yOf wsX3_yOf) := goodIn_app (goodIn_of _ (by decide +kernel)) ggX3_bestPlace_X3_yOf
set_option maxRecDepth 20000 in
theorem ggX3_bestPlace_X3_isTurnedIn : GoodIn wsX3_bestPlace wsX3_isTurnedIn := goodIn_r _ [13] (by decide +kernel) (by decide +kernel)
set_option maxRecDepth 20000 in
theorem gX3_bestPlace_X3_isTurnedIn : GoodIn wsX3_bestPlace (va_wsS RX3 297 yX3_isTurnedIn wsX3_isTurnedIn) := goodIn_app (goodIn_of _ (by decide +kernel)) ggX3_bestPlace_X3_isTurnedIn
set_option maxRecDepth 20000 in
theorem ggX3_bestPlace_X3_isInField : GoodIn wsX3_bestPlace wsX3_isInField := goodIn_r _ [16, 17, 18, 19, 20, 21, 6, 22, 157, 158, 159, 160, 161, 162, 163, 164] (by decide +kernel) (by decide +kernel)
set_option maxRecDepth 20000 in
theorem gX3_bestPlace_X3_isInField : GoodIn wsX3_bestPlace (va_wsS RX3 280 yX3_isInField wsX3_isInField) := goodIn_app (goodIn_of _ (by decide +kernel)) ggX3_bestPlace_X3_isInField
set_option maxRecDepth 20000 in
theorem ggX3_bestPlace_X3_letDown : GoodIn wsX3_bestPlace wsX3_letDown := goodIn_r _ [26, 1, 27, 28, 29, 30, 2, 31, 32, 3, 33, 34, 35, 36, 37, 38, 39, 40, 41, 42, 43, 44, 45, 46, 47, 48, 49, 50, 51, 6, 52, 53, 125, 126, 127, 128, 129, 130, 131, 132, 133, 134, 135, 136, 137, 138, 139, 140, 141, 142, 143, 144, 145, 146, 147, 148, 149, 150, 151, 152, 153, 154, 155, 156, 157, 158, 159, 160, 161, 162, 163, 164] (by decide +kernel) (by decide +kernel)
set_option maxRecDepth 20000 in
theorem gX3_bestPlace_X3_letDown : GoodIn wsX3_bestPlace (wsV RX3 284 RX3 yX3_letDown wsX3_letDown) := goodIn_app (goodIn_of _ (by decide +kernel)) ggX3_bestPlace_X3_letDown
set_option maxRecDepth 20000 in
theorem ggX3_bestPlace_X3_brokenRule : GoodIn wsX3_bestPlace wsX3_brokenRule := goodIn_r _ [57, 1, 32, 58, 59, 2, 3, 60, 61, 62, 63, 64, 65, 66, 67, 36, 68, 47, 48, 69, 70, 71, 6, 72, 27, 30, 28, 29, 73, 74, 75, 76, 49, 50, 51, 52, 53, 77, 78, 79, 80, 81, 82, 83, 84, 85, 86, 87, 88, 89, 90, 91, 92, 93, 94, 95, 96, 97, 98, 99, 100, 101, 102, 103, 104, 105, 106, 107, 108, 109, 110, 111, 112, 113, 114, 115, 116, 117, 118, 119, 120, 121, 122, 123, 124, 41, 125, 126, 127, 128, 129, 130, 131, 132, 133, 134, 135, 136, 137, 138, 139, 140, 141, 142, 143, 144, 145, 146, 147, 148, 149, 150, 151, 152, 153, 154, 155, 156, 157, 158, 159, 160, 161, 162, 163, 164] (by decide +kernel) (by decide +kernel)
set_option maxRecDepth 20000 in
theorem gX3_bestPlace_X3_brokenRule : GoodIn wsX3_bestPlace (wsV RX3 288 RX3 yX3_brokenRule wsX3_brokenRule) := goodIn_app (goodIn_of _ (by decide +kernel)) ggX3_bestPlace_X3_brokenRule
theorem dX3_bestPlace_0 : decode cX3_bestPlace 0 = .ok (.iconst (-1), 1) := by decide +kernel
theorem dX3_bestPlace_1 : decode cX3_bestPlace 1 = .ok (.istore_n 2, 1) := by decide +kernel
theorem dX3_bestPlace_2 : decode cX3_bestPlace 2 = .ok (.iconst 0, 1) := by decide +kernel
theorem dX3_bestPlace_3 : decode cX3_bestPlace 3 = .ok (.istore_n 3, 1) := by decide +kernel
theorem dX3_bestPlace_4 : decode cX3_bestPlace 4 = .ok (.iconst 0, 1) := by decide +kernel
theorem dX3_bestPlace_5 : decode cX3_bestPlace 5 = .ok (.istore 4, 2) := by decide +kernel
theorem dX3_bestPlace_7 : decode cX3_bestPlace 7 = .ok (.iconst 0, 1) := by decide +kernel
theorem dX3_bestPlace_8 : decode cX3_bestPlace 8 = .ok (.istore 5, 2) := by decide +kernel
theorem dX3_bestPlace_10 : decode cX3_bestPlace 10 = .ok (.iload 5, 2) := by decide +kernel
theorem dX3_bestPlace_12 : decode cX3_bestPlace 12 = .ok (.sipush 240, 3) := by decide +kernel
theorem dX3_bestPlace_15 : decode cX3_bestPlace 15 = .ok (.if_icmp .ge 139, 3) := by decide +kernel
theorem dX3_bestPlace_18 : decode cX3_bestPlace 18 = .ok (.aload_n 1, 1) := by decide +kernel
theorem dX3_bestPlace_19 : decode cX3_bestPlace 19 = .ok (.iload 5, 2) := by decide +kernel
theorem dX3_bestPlace_21 : decode cX3_bestPlace 21 = .ok (.invokestatic 291, 3) := by decide +kernel
theorem dX3_bestPlace_24 : decode cX3_bestPlace 24 = .ok (.iload 5, 2) := by decide +kernel
theorem dX3_bestPlace_26 : decode cX3_bestPlace 26 = .ok (.invokestatic 294, 3) := by decide +kernel
theorem dX3_bestPlace_29 : decode cX3_bestPlace 29 = .ok (.iload 5, 2) := by decide +kernel
theorem dX3_bestPlace_31 : decode cX3_bestPlace 31 = .ok (.invokestatic 297, 3) := by decide +kernel
theorem dX3_bestPlace_34 : decode cX3_bestPlace 34 = .ok (.invokestatic 280, 3) := by decide +kernel
theorem dX3_bestPlace_37 : decode cX3_bestPlace 37 = .ok (.ifCond .ne 6, 3) := by decide +kernel
theorem dX3_bestPlace_40 : decode cX3_bestPlace 40 = .ok (.goto 108, 3) := by decide +kernel
theorem dX3_bestPlace_43 : decode cX3_bestPlace 43 = .ok (.aload_n 0, 1) := by decide +kernel
theorem dX3_bestPlace_44 : decode cX3_bestPlace 44 = .ok (.aload_n 1, 1) := by decide +kernel
theorem dX3_bestPlace_45 : decode cX3_bestPlace 45 = .ok (.iload 5, 2) := by decide +kernel
theorem dX3_bestPlace_47 : decode cX3_bestPlace 47 = .ok (.invokestatic 291, 3) := by decide +kernel
theorem dX3_bestPlace_50 : decode cX3_bestPlace 50 = .ok (.iload 5, 2) := by decide +kernel
theorem dX3_bestPlace_52 : decode cX3_bestPlace 52 = .ok (.invokestatic 294, 3) := by decide +kernel
theorem dX3_bestPlace_55 : decode cX3_bestPlace 55 = .ok (.iload 5, 2) := by decide +kernel
theorem dX3_bestPlace_57 : decode cX3_bestPlace 57 = .ok (.invokestatic 297, 3) := by decide +kernel
theorem dX3_bestPlace_60 : decode cX3_bestPlace 60 = .ok (.invokevirtual 284, 3) := by decide +kernel
theorem dX3_bestPlace_63 : decode cX3_bestPlace 63 = .ok (.iload_n 2, 1) := by decide +kernel
theorem dX3_bestPlace_64 : decode cX3_bestPlace 64 = .ok (.iconst (-1), 1) := by decide +kernel
theorem dX3_bestPlace_65 : decode cX3_bestPlace 65 = .ok (.if_icmp .eq 37, 3) := by decide +kernel
theorem dX3_bestPlace_68 : decode cX3_bestPlace 68 = .ok (.aload_n 0, 1) := by decide +kernel
theorem dX3_bestPlace_69 : decode cX3_bestPlace 69 = .ok (.getfield 52, 3) := by decide +kernel
theorem dX3_bestPlace_72 : decode cX3_bestPlace 72 = .ok (.getfield 131, 3) := by decide +kernel
theorem dX3_bestPlace_75 : decode cX3_bestPlace 75 = .ok (.iload_n 3, 1) := by decide +kernel
theorem dX3_bestPlace_76 : decode cX3_bestPlace 76 = .ok (.if_icmp .lt 26, 3) := by decide +kernel
theorem dX3_bestPlace_79 : decode cX3_bestPlace 79 = .ok (.aload_n 0, 1) := by decide +kernel
theorem dX3_bestPlace_80 : decode cX3_bestPlace 80 = .ok (.getfield 52, 3) := by decide +kernel
theorem dX3_bestPlace_83 : decode cX3_bestPlace 83 = .ok (.getfield 131, 3) := by decide +kernel
theorem dX3_bestPlace_86 : decode cX3_bestPlace 86 = .ok (.iload_n 3, 1) := by decide +kernel
theorem dX3_bestPlace_87 : decode cX3_bestPlace 87 = .ok (.if_icmp .ne 19, 3) := by decide +kernel
theorem dX3_bestPlace_90 : decode cX3_bestPlace 90 = .ok (.aload_n 0, 1) := by decide +kernel
theorem dX3_bestPlace_91 : decode cX3_bestPlace 91 = .ok (.getfield 52, 3) := by decide +kernel
theorem dX3_bestPlace_94 : decode cX3_bestPlace 94 = .ok (.getfield 214, 3) := by decide +kernel
theorem dX3_bestPlace_97 : decode cX3_bestPlace 97 = .ok (.iload 4, 2) := by decide +kernel
theorem dX3_bestPlace_99 : decode cX3_bestPlace 99 = .ok (.if_icmp .le 7, 3) := by decide +kernel
theorem dX3_bestPlace_102 : decode cX3_bestPlace 102 = .ok (.iconst 1, 1) := by decide +kernel
theorem dX3_bestPlace_103 : decode cX3_bestPlace 103 = .ok (.goto 4, 3) := by decide +kernel
theorem dX3_bestPlace_106 : decode cX3_bestPlace 106 = .ok (.iconst 0, 1) := by decide +kernel
theorem dX3_bestPlace_107 : decode cX3_bestPlace 107 = .ok (.istore 6, 2) := by decide +kernel
theorem dX3_bestPlace_109 : decode cX3_bestPlace 109 = .ok (.iload 6, 2) := by decide +kernel
theorem dX3_bestPlace_111 : decode cX3_bestPlace 111 = .ok (.ifCond .eq 37, 3) := by decide +kernel
theorem dX3_bestPlace_114 : decode cX3_bestPlace 114 = .ok (.aload_n 0, 1) := by decide +kernel
theorem dX3_bestPlace_115 : decode cX3_bestPlace 115 = .ok (.aload_n 1, 1) := by decide +kernel
theorem dX3_bestPlace_116 : decode cX3_bestPlace 116 = .ok (.invokevirtual 288, 3) := by decide +kernel
theorem dX3_bestPlace_119 : decode cX3_bestPlace 119 = .ok (.ifCond .ne 29, 3) := by decide +kernel
theorem dX3_bestPlace_122 : decode cX3_bestPlace 122 = .ok (.iload 5, 2) := by decide +kernel
theorem dX3_bestPlace_124 : decode cX3_bestPlace 124 = .ok (.istore_n 2, 1) := by decide +kernel
theorem dX3_bestPlace_125 : decode cX3_bestPlace 125 = .ok (.aload_n 0, 1) := by decide +kernel
theorem dX3_bestPlace_126 : decode cX3_bestPlace 126 = .ok (.getfield 52, 3) := by decide +kernel
theorem dX3_bestPlace_129 : decode cX3_bestPlace 129 = .ok (.getfield 131, 3) := by decide +kernel
theorem dX3_bestPlace_132 : decode cX3_bestPlace 132 = .ok (.istore_n 3, 1) := by decide +kernel
theorem dX3_bestPlace_133 : decode cX3_bestPlace 133 = .ok (.aload_n 0, 1) := by decide +kernel
theorem dX3_bestPlace_134 : decode cX3_bestPlace 134 = .ok (.getfield 52, 3) := by decide +kernel
theorem dX3_bestPlace_137 : decode cX3_bestPlace 137 = .ok (.getfield 214, 3) := by decide +kernel
theorem dX3_bestPlace_140 : decode cX3_bestPlace 140 = .ok (.istore 4, 2) := by decide +kernel
theorem dX3_bestPlace_142 : decode cX3_bestPlace 142 = .ok (.iload_n 3, 1) := by decide +kernel
theorem dX3_bestPlace_143 : decode cX3_bestPlace 143 = .ok (.ifCond .ne 5, 3) := by decide +kernel
theorem dX3_bestPlace_146 : decode cX3_bestPlace 146 = .ok (.iload_n 2, 1) := by decide +kernel
theorem dX3_bestPlace_147 : decode cX3_bestPlace 147 = .ok (.ireturn, 1) := by decide +kernel
theorem dX3_bestPlace_148 : decode cX3_bestPlace 148 = .ok (.iinc 5 1, 3) := by decide +kernel
theorem dX3_bestPlace_151 : decode cX3_bestPlace 151 = .ok (.goto (-141), 3) := by decide +kernel
theorem dX3_bestPlace_154 : decode cX3_bestPlace 154 = .ok (.iload_n 2, 1) := by decide +kernel
theorem dX3_bestPlace_155 : decode cX3_bestPlace 155 = .ok (.ireturn, 1) := by decide +kernel
theorem dX3_xOf_0 : decode cX3_xOf 0 = .ok (.iload_n 0, 1) := by decide +kernel
theorem dX3_xOf_1 : decode cX3_xOf 1 = .ok (.iconst 2, 1) := by decide +kernel
theorem dX3_xOf_2 : decode cX3_xOf 2 = .ok (.idiv, 1) := by decide +kernel
theorem dX3_xOf_3 : decode cX3_xOf 3 = .ok (.bipush 12, 2) := by decide +kernel
theorem dX3_xOf_5 : decode cX3_xOf 5 = .ok (.irem, 1) := by decide +kernel
theorem dX3_xOf_6 : decode cX3_xOf 6 = .ok (.ireturn, 1) := by decide +kernel
theorem dX3_yOf_0 : decode cX3_yOf 0 = .ok (.iload_n 0, 1) := by decide +kernel
theorem dX3_yOf_1 : decode cX3_yOf 1 = .ok (.iconst 2, 1) := by decide +kernel
theorem dX3_yOf_2 : decode cX3_yOf 2 = .ok (.idiv, 1) := by decide +kernel
theorem dX3_yOf_3 : decode cX3_yOf 3 = .ok (.bipush 12, 2) := by decide +kernel
theorem dX3_yOf_5 : decode cX3_yOf 5 = .ok (.idiv, 1) := by decide +kernel
theorem dX3_yOf_6 : decode cX3_yOf 6 = .ok (.ireturn, 1) := by decide +kernel
theorem dX3_isTurnedIn_0 : decode cX3_isTurnedIn 0 = .ok (.iload_n 0, 1) := by decide +kernel
theorem dX3_isTurnedIn_1 : decode cX3_isTurnedIn 1 = .ok (.iconst 2, 1) := by decide +kernel
theorem dX3_isTurnedIn_2 : decode cX3_isTurnedIn 2 = .ok (.irem, 1) := by decide +kernel
theorem dX3_isTurnedIn_3 : decode cX3_isTurnedIn 3 = .ok (.iconst 1, 1) := by decide +kernel
theorem dX3_isTurnedIn_4 : decode cX3_isTurnedIn 4 = .ok (.if_icmp .ne 7, 3) := by decide +kernel
theorem dX3_isTurnedIn_7 : decode cX3_isTurnedIn 7 = .ok (.iconst 1, 1) := by decide +kernel
theorem dX3_isTurnedIn_8 : decode cX3_isTurnedIn 8 = .ok (.goto 4, 3) := by decide +kernel
theorem dX3_isTurnedIn_11 : decode cX3_isTurnedIn 11 = .ok (.iconst 0, 1) := by decide +kernel
theorem dX3_isTurnedIn_12 : decode cX3_isTurnedIn 12 = .ok (.ireturn, 1) := by decide +kernel
set_option maxRecDepth 20000 in
theorem ggX3_putAtBest_X3_bestPlace : GoodIn wsX3_putAtBest wsX3_bestPlace := goodIn_r _ [6, 7, 8, 9, 10, 11, 5, 12, 13, 14, 15, 16, 17, 18, 19, 20, 21, 22, 23, 24, 25, 26, 27, 28, 29, 30, 31, 32, 33, 34, 35, 36, 37, 38, 39, 40, 41, 42, 43, 44, 45, 46, 47, 48, 49, 50, 51, 52, 53, 54, 55, 56, 57, 58, 59, 60, 61, 62, 63, 64, 65, 66, 67, 68, 69, 70, 71, 72, 73, 74, 75, 76, 77, 78, 79, 80, 81, 82, 83, 84, 85, 86, 1, 87, 88, 89, 90, 91, 92, 93, 94, 95, 96, 97, 98, 99, 100, 101, 102, 103, 104, 105, 106, 107, 108, 109, 110, 111, 112, 113, 114, 115, 116, 117, 118, 119, 120, 121, 122, 123, 124, 125, 126, 127, 128, 146, 147, 148, 149, 150, 151, 152, 153, 154, 155, 156, 157, 158, 159, 160, 161, 162, 163, 164, 165, 166, 167, 168, 169, 170, 171, 172, 173, 174, 175, 176, 177, 178, 179, 180, 181, 182, 183, 184, 185] (by decide +kernel) (by decide +kernel)
set_option maxRecDepth 20000 in
theorem gX3_putAtBest_X3_bestPlace : GoodIn wsX3_putAtBest (wsV RX3 141 RX3 yX3_bestPlace wsX3_bestPlace) := goodIn_app (goodIn_of _ (by decide +kernel)) ggX3_putAtBest_X3_bestPlace
set_option maxRecDepth 20000 in
theorem ggX3_putAtBest_X3_xOf : GoodIn wsX3_putAtBest wsX3_xOf := goodIn_r _ [12] (by decide +kernel) (by decide +kernel)
set_option maxRecDepth 20000 in
theorem gX3_putAtBest_X3_xOf : GoodIn wsX3_putAtBest (va_wsS RX3 291 yX3_xOf wsX3_xOf) := goodIn_app (goodIn_of _ (by decide +kernel)) ggX3_putAtBest_X3_xOf
set_option maxRecDepth 20000 in
theorem ggX3_putAtBest_X3_yOf : GoodIn wsX3_putAtBest wsX3_yOf := goodIn_r _ [15] (by decide +kernel) (by decide +kernel)
set_option maxRecDepth 20000 in
theorem gX3_putAtBest_X3_yOf : GoodIn wsX3_putAtBest (va_wsS RX3 294 yX3_yOf wsX3_yOf) := goodIn_app (goodIn_of _ (by decide +kernel)) ggX3_putAtBest_X3_yOf
set_option maxRecDepth 20000 in
theorem ggX3_putAtBest_X3_isTurnedIn : GoodIn wsX3_putAtBest wsX3_isTurnedIn := goodIn_r _ [18] (by decide +kernel) (by decide +kernel)
set_option maxRecDepth 20000 in
theorem gX3_putAtBest_X3_isTurnedIn : GoodIn wsX3_putAtBest (va_wsS RX3 297 yX3_isTurnedIn wsX3_isTurnedIn) := goodIn_app (goodIn_of _ (by decide +kernel)) ggX3_putAtBest_X3_isTurnedIn
set_option maxRecDepth 20000 in
theorem ggX3_putAtBest_X3_letDown : GoodIn wsX3_putAtBest wsX3_letDown := goodIn_r _ [31, 7, 32, 33, 34, 35, 8, 36, 37, 9, 38, 39, 40, 41, 42, 43, 44, 45, 46, 47, 48, 49, 50, 51, 52, 53, 54, 55, 56, 5, 57, 58, 146, 147, 148, 149, 150, 151, 152, 153, 154, 155, 156, 157, 158, 159, 160, 161, 162, 163, 164, 165, 166, 167, 168, 169, 170, 171, 172, 173, 174, 175, 176, 177, 178, 179, 180, 181, 182, 183, 184, 185] (by decide +kernel) (by decide +kernel)
set_option maxRecDepth 20000 in
theorem gX3_putAtBest_X3_letDown : GoodIn wsX3_putAtBest (wsV RX3 284 RX3 yX3_letDown wsX3_letDown) := goodIn_app (goodIn_of _ (by decide +kernel)) ggX3_putAtBest_X3_letDown
set_option maxRecDepth 20000 in
theorem ggX3_putAtBest_X3_putTrial : GoodIn wsX3_putAtBest wsX3_putTrial := goodIn_r _ [132, 1, 91, 7, 92, 133, 67, 68, 25, 26, 5, 27, 82, 83, 84, 85, 86, 37, 8, 87, 88, 89, 90, 93, 94, 95, 41, 96, 97, 52, 98, 99, 100, 101, 102, 103, 104, 105, 53, 106, 107, 108, 109, 110, 111, 112, 134, 135, 136, 137, 33, 34, 32, 35, 58, 138, 139, 140, 141, 142, 143, 144, 117, 145, 119, 120, 121, 122, 123, 124, 125, 126, 127, 128, 46, 146, 147, 148, 149, 150, 151, 152, 153, 154, 155, 156, 157, 158, 159, 160, 161, 162, 163, 164, 165, 166, 167, 168, 169, 170, 171, 172, 173, 174, 175, 176, 177] (by decide +kernel) (by decide +kernel)
set_option maxRecDepth 20000 in
theorem gX3_putAtBest_X3_putTrial : GoodIn wsX3_putAtBest (wsV RX3 93 RX3 yX3_putTrial wsX3_putTrial) := goodIn_app (goodIn_of _ (by decide +kernel)) ggX3_putAtBest_X3_putTrial
theorem dX3_putAtBest_0 : decode cX3_putAtBest 0 = .ok (.aload_n 0, 1) := by decide +kernel
theorem dX3_putAtBest_1 : decode cX3_putAtBest 1 = .ok (.getfield 38, 3) := by decide +kernel
theorem dX3_putAtBest_4 : decode cX3_putAtBest 4 = .ok (.bipush 60, 2) := by decide +kernel
theorem dX3_putAtBest_6 : decode cX3_putAtBest 6 = .ok (.if_icmp .lt 5, 3) := by decide +kernel
theorem dX3_putAtBest_9 : decode cX3_putAtBest 9 = .ok (.iconst 0, 1) := by decide +kernel
theorem dX3_putAtBest_10 : decode cX3_putAtBest 10 = .ok (.ireturn, 1) := by decide +kernel
theorem dX3_putAtBest_11 : decode cX3_putAtBest 11 = .ok (.aload_n 0, 1) := by decide +kernel
theorem dX3_putAtBest_12 : decode cX3_putAtBest 12 = .ok (.aload_n 1, 1) := by decide +kernel
theorem dX3_putAtBest_13 : decode cX3_putAtBest 13 = .ok (.invokevirtual 141, 3) := by decide +kernel
theorem dX3_putAtBest_16 : decode cX3_putAtBest 16 = .ok (.istore_n 2, 1) := by decide +kernel
theorem dX3_putAtBest_17 : decode cX3_putAtBest 17 = .ok (.iload_n 2, 1) := by decide +kernel
theorem dX3_putAtBest_18 : decode cX3_putAtBest 18 = .ok (.iconst (-1), 1) := by decide +kernel
theorem dX3_putAtBest_19 : decode cX3_putAtBest 19 = .ok (.if_icmp .ne 5, 3) := by decide +kernel
theorem dX3_putAtBest_22 : decode cX3_putAtBest 22 = .ok (.iconst 0, 1) := by decide +kernel
theorem dX3_putAtBest_23 : decode cX3_putAtBest 23 = .ok (.ireturn, 1) := by decide +kernel
theorem dX3_putAtBest_24 : decode cX3_putAtBest 24 = .ok (.aload_n 0, 1) := by decide +kernel
theorem dX3_putAtBest_25 : decode cX3_putAtBest 25 = .ok (.aload_n 1, 1) := by decide +kernel
theorem dX3_putAtBest_26 : decode cX3_putAtBest 26 = .ok (.iload_n 2, 1) := by decide +kernel
theorem dX3_putAtBest_27 : decode cX3_putAtBest 27 = .ok (.invokestatic 291, 3) := by decide +kernel
theorem dX3_putAtBest_30 : decode cX3_putAtBest 30 = .ok (.iload_n 2, 1) := by decide +kernel
theorem dX3_putAtBest_31 : decode cX3_putAtBest 31 = .ok (.invokestatic 294, 3) := by decide +kernel
theorem dX3_putAtBest_34 : decode cX3_putAtBest 34 = .ok (.iload_n 2, 1) := by decide +kernel
theorem dX3_putAtBest_35 : decode cX3_putAtBest 35 = .ok (.invokestatic 297, 3) := by decide +kernel
theorem dX3_putAtBest_38 : decode cX3_putAtBest 38 = .ok (.invokevirtual 284, 3) := by decide +kernel
theorem dX3_putAtBest_41 : decode cX3_putAtBest 41 = .ok (.aload_n 0, 1) := by decide +kernel
theorem dX3_putAtBest_42 : decode cX3_putAtBest 42 = .ok (.invokevirtual 93, 3) := by decide +kernel
theorem dX3_putAtBest_45 : decode cX3_putAtBest 45 = .ok (.iconst 1, 1) := by decide +kernel
theorem dX3_putAtBest_46 : decode cX3_putAtBest 46 = .ok (.ireturn, 1) := by decide +kernel
set_option maxRecDepth 20000 in
theorem ggX3_putTrial_X3_isWithin : GoodIn wsX3_putTrial wsX3_isWithin := goodIn_r _ [11] (by decide +kernel) (by decide +kernel)
set_option maxRecDepth 20000 in
theorem gX3_putTrial_X3_isWithin : GoodIn wsX3_putTrial (va_wsS RX3 65 yX3_isWithin wsX3_isWithin) := goodIn_app (goodIn_of _ (by decide +kernel)) ggX3_putTrial_X3_isWithin
set_option maxRecDepth 20000 in
theorem ggX3_putTrial_X3_findSupports : GoodIn wsX3_putTrial wsX3_findSupports := goodIn_r _ [15, 3, 16, 1, 17, 18, 19, 20, 21, 10, 22, 2, 4, 23, 24, 25, 26, 27, 28, 29, 30, 31, 32, 33, 34, 35, 36, 37, 38, 39, 40, 41, 42, 43, 44, 45, 75, 76, 77, 78, 79, 80, 81, 82, 83, 84, 85, 86, 87, 88, 89, 90, 91, 92, 93, 94, 95, 96, 97, 98, 99, 100, 101, 102, 103, 104, 105, 106] (by decide +kernel) (by decide +kernel)
set_option maxRecDepth 20000 in
theorem gX3_putTrial_X3_findSupports : GoodIn wsX3_putTrial (wsV RX3 274 RX3 yX3_findSupports wsX3_findSupports) := goodIn_app (goodIn_of _ (by decide +kernel)) ggX3_putTrial_X3_findSupports
set_option maxRecDepth 20000 in
theorem ggX3_putTrial_X3_layTop : GoodIn wsX3_putTrial wsX3_layTop := goodIn_r _ [49, 50, 51, 52, 53, 54, 17, 55, 56, 10, 57, 8, 9, 11, 89, 90, 91, 92, 93, 94, 95, 96, 97, 98, 99, 100, 101, 102, 103, 104, 105, 106, 75, 76, 77, 78, 79, 80, 81, 82, 83, 84, 85, 86, 87, 88] (by decide +kernel) (by decide +kernel)
set_option maxRecDepth 20000 in
theorem gX3_putTrial_X3_layTop : GoodIn wsX3_putTrial (wsV RX3 301 RX3 yX3_layTop wsX3_layTop) := goodIn_app (goodIn_of _ (by decide +kernel)) ggX3_putTrial_X3_layTop
set_option maxRecDepth 20000 in
theorem ggX3_putTrial_X3_settleLoads : GoodIn wsX3_putTrial wsX3_settleLoads := goodIn_r _ [61, 1, 62, 63, 64, 65, 66, 10, 67, 19, 20, 21, 22, 2, 4, 68, 69, 70, 26, 71, 43, 44, 72, 73, 74, 45, 75, 76, 77, 78, 79, 80, 81, 82, 83, 84, 85, 86, 87, 88, 89, 90, 91, 92, 93, 94, 95, 96, 97, 98, 99, 100, 101, 102, 103, 104, 105, 106] (by decide +kernel) (by decide +kernel)
set_option maxRecDepth 20000 in
theorem gX3_putTrial_X3_settleLoads : GoodIn wsX3_putTrial (wsV RX3 113 RX3 yX3_settleLoads wsX3_settleLoads) := goodIn_app (goodIn_of _ (by decide +kernel)) ggX3_putTrial_X3_settleLoads
theorem dX3_putTrial_0 : decode cX3_putTrial 0 = .ok (.aload_n 0, 1) := by decide +kernel
theorem dX3_putTrial_1 : decode cX3_putTrial 1 = .ok (.getfield 38, 3) := by decide +kernel
theorem dX3_putTrial_4 : decode cX3_putTrial 4 = .ok (.istore_n 1, 1) := by decide +kernel
theorem dX3_putTrial_5 : decode cX3_putTrial 5 = .ok (.iload_n 1, 1) := by decide +kernel
theorem dX3_putTrial_6 : decode cX3_putTrial 6 = .ok (.iconst 0, 1) := by decide +kernel
theorem dX3_putTrial_7 : decode cX3_putTrial 7 = .ok (.bipush 59, 2) := by decide +kernel
theorem dX3_putTrial_9 : decode cX3_putTrial 9 = .ok (.invokestatic 65, 3) := by decide +kernel
theorem dX3_putTrial_12 : decode cX3_putTrial 12 = .ok (.ifCond .eq 12, 3) := by decide +kernel
theorem dX3_putTrial_15 : decode cX3_putTrial 15 = .ok (.aload_n 0, 1) := by decide +kernel
theorem dX3_putTrial_16 : decode cX3_putTrial 16 = .ok (.getfield 34, 3) := by decide +kernel
theorem dX3_putTrial_19 : decode cX3_putTrial 19 = .ok (.iload_n 1, 1) := by decide +kernel
theorem dX3_putTrial_20 : decode cX3_putTrial 20 = .ok (.aaload, 1) := by decide +kernel
theorem dX3_putTrial_21 : decode cX3_putTrial 21 = .ok (.goto 4, 3) := by decide +kernel
theorem dX3_putTrial_24 : decode cX3_putTrial 24 = .ok (.aconst_null, 1) := by decide +kernel
theorem dX3_putTrial_25 : decode cX3_putTrial 25 = .ok (.astore_n 2, 1) := by decide +kernel
theorem dX3_putTrial_26 : decode cX3_putTrial 26 = .ok (.aload_n 2, 1) := by decide +kernel
theorem dX3_putTrial_27 : decode cX3_putTrial 27 = .ok (.ifnonnull 4, 3) := by decide +kernel
theorem dX3_putTrial_30 : decode cX3_putTrial 30 = .ok (.return_, 1) := by decide +kernel
theorem dX3_putTrial_31 : decode cX3_putTrial 31 = .ok (.aload_n 0, 1) := by decide +kernel
theorem dX3_putTrial_32 : decode cX3_putTrial 32 = .ok (.invokevirtual 274, 3) := by decide +kernel
theorem dX3_putTrial_35 : decode cX3_putTrial 35 = .ok (.aload_n 0, 1) := by decide +kernel
theorem dX3_putTrial_36 : decode cX3_putTrial 36 = .ok (.getfield 52, 3) := by decide +kernel
theorem dX3_putTrial_39 : decode cX3_putTrial 39 = .ok (.astore_n 3, 1) := by decide +kernel
theorem dX3_putTrial_40 : decode cX3_putTrial 40 = .ok (.aload_n 0, 1) := by decide +kernel
theorem dX3_putTrial_41 : decode cX3_putTrial 41 = .ok (.aload_n 2, 1) := by decide +kernel
theorem dX3_putTrial_42 : decode cX3_putTrial 42 = .ok (.putfield 52, 3) := by decide +kernel
theorem dX3_putTrial_45 : decode cX3_putTrial 45 = .ok (.aload_n 0, 1) := by decide +kernel
theorem dX3_putTrial_46 : decode cX3_putTrial 46 = .ok (.getfield 34, 3) := by decide +kernel
theorem dX3_putTrial_49 : decode cX3_putTrial 49 = .ok (.iload_n 1, 1) := by decide +kernel
theorem dX3_putTrial_50 : decode cX3_putTrial 50 = .ok (.aload_n 3, 1) := by decide +kernel
theorem dX3_putTrial_51 : decode cX3_putTrial 51 = .ok (.aastore, 1) := by decide +kernel
theorem dX3_putTrial_52 : decode cX3_putTrial 52 = .ok (.aload_n 3, 1) := by decide +kernel
theorem dX3_putTrial_53 : decode cX3_putTrial 53 = .ok (.iconst 1, 1) := by decide +kernel
theorem dX3_putTrial_54 : decode cX3_putTrial 54 = .ok (.putfield 104, 3) := by decide +kernel
theorem dX3_putTrial_57 : decode cX3_putTrial 57 = .ok (.aload_n 0, 1) := by decide +kernel
theorem dX3_putTrial_58 : decode cX3_putTrial 58 = .ok (.iload_n 1, 1) := by decide +kernel
theorem dX3_putTrial_59 : decode cX3_putTrial 59 = .ok (.iconst 1, 1) := by decide +kernel
theorem dX3_putTrial_60 : decode cX3_putTrial 60 = .ok (.iadd, 1) := by decide +kernel
theorem dX3_putTrial_61 : decode cX3_putTrial 61 = .ok (.putfield 38, 3) := by decide +kernel
theorem dX3_putTrial_64 : decode cX3_putTrial 64 = .ok (.aload_n 0, 1) := by decide +kernel
theorem dX3_putTrial_65 : decode cX3_putTrial 65 = .ok (.dup, 1) := by decide +kernel
theorem dX3_putTrial_66 : decode cX3_putTrial 66 = .ok (.getfield 41, 3) := by decide +kernel
theorem dX3_putTrial_69 : decode cX3_putTrial 69 = .ok (.iconst 1, 1) := by decide +kernel
theorem dX3_putTrial_70 : decode cX3_putTrial 70 = .ok (.iadd, 1) := by decide +kernel
theorem dX3_putTrial_71 : decode cX3_putTrial 71 = .ok (.putfield 41, 3) := by decide +kernel
theorem dX3_putTrial_74 : decode cX3_putTrial 74 = .ok (.aload_n 0, 1) := by decide +kernel
theorem dX3_putTrial_75 : decode cX3_putTrial 75 = .ok (.dup, 1) := by decide +kernel
theorem dX3_putTrial_76 : decode cX3_putTrial 76 = .ok (.getfield 44, 3) := by decide +kernel
theorem dX3_putTrial_79 : decode cX3_putTrial 79 = .ok (.aload_n 3, 1) := by decide +kernel
theorem dX3_putTrial_80 : decode cX3_putTrial 80 = .ok (.getfield 107, 3) := by decide +kernel
theorem dX3_putTrial_83 : decode cX3_putTrial 83 = .ok (.iadd, 1) := by decide +kernel
theorem dX3_putTrial_84 : decode cX3_putTrial 84 = .ok (.putfield 44, 3) := by decide +kernel
theorem dX3_putTrial_87 : decode cX3_putTrial 87 = .ok (.aload_n 0, 1) := by decide +kernel
theorem dX3_putTrial_88 : decode cX3_putTrial 88 = .ok (.aload_n 3, 1) := by decide +kernel
theorem dX3_putTrial_89 : decode cX3_putTrial 89 = .ok (.invokevirtual 301, 3) := by decide +kernel
theorem dX3_putTrial_92 : decode cX3_putTrial 92 = .ok (.aload_n 0, 1) := by decide +kernel
theorem dX3_putTrial_93 : decode cX3_putTrial 93 = .ok (.invokevirtual 113, 3) := by decide +kernel
theorem dX3_putTrial_96 : decode cX3_putTrial 96 = .ok (.return_, 1) := by decide +kernel
set_option maxRecDepth 20000 in
theorem ggX3_layTop_X3_isCell : GoodIn wsX3_layTop wsX3_isCell := goodIn_r _ [10, 11, 12, 9, 13] (by decide +kernel) (by decide +kernel)
set_option maxRecDepth 20000 in
theorem gX3_layTop_X3_isCell : GoodIn wsX3_layTop (va_wsS RX3 120 yX3_isCell wsX3_isCell) := goodIn_app (goodIn_of _ (by decide +kernel)) ggX3_layTop_X3_isCell
theorem dX3_layTop_0 : decode cX3_layTop 0 = .ok (.aload_n 1, 1) := by decide +kernel
theorem dX3_layTop_1 : decode cX3_layTop 1 = .ok (.getfield 176, 3) := by decide +kernel
theorem dX3_layTop_4 : decode cX3_layTop 4 = .ok (.istore_n 2, 1) := by decide +kernel
theorem dX3_layTop_5 : decode cX3_layTop 5 = .ok (.iload_n 2, 1) := by decide +kernel
theorem dX3_layTop_6 : decode cX3_layTop 6 = .ok (.aload_n 1, 1) := by decide +kernel
theorem dX3_layTop_7 : decode cX3_layTop 7 = .ok (.getfield 176, 3) := by decide +kernel
theorem dX3_layTop_10 : decode cX3_layTop 10 = .ok (.aload_n 1, 1) := by decide +kernel
theorem dX3_layTop_11 : decode cX3_layTop 11 = .ok (.getfield 179, 3) := by decide +kernel
theorem dX3_layTop_14 : decode cX3_layTop 14 = .ok (.iadd, 1) := by decide +kernel
theorem dX3_layTop_15 : decode cX3_layTop 15 = .ok (.if_icmp .ge 74, 3) := by decide +kernel
theorem dX3_layTop_18 : decode cX3_layTop 18 = .ok (.aload_n 1, 1) := by decide +kernel
theorem dX3_layTop_19 : decode cX3_layTop 19 = .ok (.getfield 182, 3) := by decide +kernel
theorem dX3_layTop_22 : decode cX3_layTop 22 = .ok (.istore_n 3, 1) := by decide +kernel
theorem dX3_layTop_23 : decode cX3_layTop 23 = .ok (.iload_n 3, 1) := by decide +kernel
theorem dX3_layTop_24 : decode cX3_layTop 24 = .ok (.aload_n 1, 1) := by decide +kernel
theorem dX3_layTop_25 : decode cX3_layTop 25 = .ok (.getfield 182, 3) := by decide +kernel
theorem dX3_layTop_28 : decode cX3_layTop 28 = .ok (.aload_n 1, 1) := by decide +kernel
theorem dX3_layTop_29 : decode cX3_layTop 29 = .ok (.getfield 185, 3) := by decide +kernel
theorem dX3_layTop_32 : decode cX3_layTop 32 = .ok (.iadd, 1) := by decide +kernel
theorem dX3_layTop_33 : decode cX3_layTop 33 = .ok (.if_icmp .ge 50, 3) := by decide +kernel
theorem dX3_layTop_36 : decode cX3_layTop 36 = .ok (.iload_n 3, 1) := by decide +kernel
theorem dX3_layTop_37 : decode cX3_layTop 37 = .ok (.iload_n 2, 1) := by decide +kernel
theorem dX3_layTop_38 : decode cX3_layTop 38 = .ok (.invokestatic 120, 3) := by decide +kernel
theorem dX3_layTop_41 : decode cX3_layTop 41 = .ok (.ifCond .eq 36, 3) := by decide +kernel
theorem dX3_layTop_44 : decode cX3_layTop 44 = .ok (.aload_n 0, 1) := by decide +kernel
theorem dX3_layTop_45 : decode cX3_layTop 45 = .ok (.getfield 47, 3) := by decide +kernel
theorem dX3_layTop_48 : decode cX3_layTop 48 = .ok (.iload_n 2, 1) := by decide +kernel
theorem dX3_layTop_49 : decode cX3_layTop 49 = .ok (.bipush 12, 2) := by decide +kernel
theorem dX3_layTop_51 : decode cX3_layTop 51 = .ok (.imul, 1) := by decide +kernel
theorem dX3_layTop_52 : decode cX3_layTop 52 = .ok (.iload_n 3, 1) := by decide +kernel
theorem dX3_layTop_53 : decode cX3_layTop 53 = .ok (.iadd, 1) := by decide +kernel
theorem dX3_layTop_54 : decode cX3_layTop 54 = .ok (.iaload, 1) := by decide +kernel
theorem dX3_layTop_55 : decode cX3_layTop 55 = .ok (.aload_n 1, 1) := by decide +kernel
theorem dX3_layTop_56 : decode cX3_layTop 56 = .ok (.getfield 134, 3) := by decide +kernel
theorem dX3_layTop_59 : decode cX3_layTop 59 = .ok (.if_icmp .ge 18, 3) := by decide +kernel
theorem dX3_layTop_62 : decode cX3_layTop 62 = .ok (.aload_n 0, 1) := by decide +kernel
theorem dX3_layTop_63 : decode cX3_layTop 63 = .ok (.getfield 47, 3) := by decide +kernel
theorem dX3_layTop_66 : decode cX3_layTop 66 = .ok (.iload_n 2, 1) := by decide +kernel
theorem dX3_layTop_67 : decode cX3_layTop 67 = .ok (.bipush 12, 2) := by decide +kernel
theorem dX3_layTop_69 : decode cX3_layTop 69 = .ok (.imul, 1) := by decide +kernel
theorem dX3_layTop_70 : decode cX3_layTop 70 = .ok (.iload_n 3, 1) := by decide +kernel
theorem dX3_layTop_71 : decode cX3_layTop 71 = .ok (.iadd, 1) := by decide +kernel
theorem dX3_layTop_72 : decode cX3_layTop 72 = .ok (.aload_n 1, 1) := by decide +kernel
theorem dX3_layTop_73 : decode cX3_layTop 73 = .ok (.getfield 134, 3) := by decide +kernel
theorem dX3_layTop_76 : decode cX3_layTop 76 = .ok (.iastore, 1) := by decide +kernel
theorem dX3_layTop_77 : decode cX3_layTop 77 = .ok (.iinc 3 1, 3) := by decide +kernel
theorem dX3_layTop_80 : decode cX3_layTop 80 = .ok (.goto (-57), 3) := by decide +kernel
theorem dX3_layTop_83 : decode cX3_layTop 83 = .ok (.iinc 2 1, 3) := by decide +kernel
theorem dX3_layTop_86 : decode cX3_layTop 86 = .ok (.goto (-81), 3) := by decide +kernel
theorem dX3_layTop_89 : decode cX3_layTop 89 = .ok (.return_, 1) := by decide +kernel
set_option maxRecDepth 20000 in
theorem ggX3_nextLine_X3_lineOf : GoodIn wsX3_nextLine wsX3_lineOf := goodIn_r _ [9, 1, 10, 11, 12, 8, 13, 22, 23, 24, 25, 26, 27, 28, 29, 30, 31, 32, 33, 34, 35] (by decide +kernel) (by decide +kernel)
set_option maxRecDepth 20000 in
theorem gX3_nextLine_X3_lineOf : GoodIn wsX3_nextLine (wsV RX3 152 RX3 yX3_lineOf wsX3_lineOf) := goodIn_app (goodIn_of _ (by decide +kernel)) ggX3_nextLine_X3_lineOf
set_option maxRecDepth 20000 in
theorem ggX3_nextLine_X1_comesBefore : GoodIn wsX3_nextLine wsX1_comesBefore := goodIn_r _ [18, 19, 20, 21, 39, 40, 41, 42, 43, 44, 45, 46] (by decide +kernel) (by decide +kernel)
set_option maxRecDepth 20000 in
theorem gX3_nextLine_X1_comesBefore : GoodIn wsX3_nextLine (wsV RX3 305 RX1 yX1_comesBefore wsX1_comesBefore) := goodIn_app (goodIn_of _ (by decide +kernel)) ggX3_nextLine_X1_comesBefore
theorem dX3_nextLine_0 : decode cX3_nextLine 0 = .ok (.aconst_null, 1) := by decide +kernel
theorem dX3_nextLine_1 : decode cX3_nextLine 1 = .ok (.astore_n 1, 1) := by decide +kernel
theorem dX3_nextLine_2 : decode cX3_nextLine 2 = .ok (.iconst 0, 1) := by decide +kernel
theorem dX3_nextLine_3 : decode cX3_nextLine 3 = .ok (.istore_n 2, 1) := by decide +kernel
theorem dX3_nextLine_4 : decode cX3_nextLine 4 = .ok (.iload_n 2, 1) := by decide +kernel
theorem dX3_nextLine_5 : decode cX3_nextLine 5 = .ok (.aload_n 0, 1) := by decide +kernel
theorem dX3_nextLine_6 : decode cX3_nextLine 6 = .ok (.getfield 62, 3) := by decide +kernel
theorem dX3_nextLine_9 : decode cX3_nextLine 9 = .ok (.if_icmp .ge 53, 3) := by decide +kernel
theorem dX3_nextLine_12 : decode cX3_nextLine 12 = .ok (.aload_n 0, 1) := by decide +kernel
theorem dX3_nextLine_13 : decode cX3_nextLine 13 = .ok (.iload_n 2, 1) := by decide +kernel
theorem dX3_nextLine_14 : decode cX3_nextLine 14 = .ok (.invokevirtual 152, 3) := by decide +kernel
theorem dX3_nextLine_17 : decode cX3_nextLine 17 = .ok (.astore_n 3, 1) := by decide +kernel
theorem dX3_nextLine_18 : decode cX3_nextLine 18 = .ok (.aload_n 3, 1) := by decide +kernel
theorem dX3_nextLine_19 : decode cX3_nextLine 19 = .ok (.ifnull 37, 3) := by decide +kernel
theorem dX3_nextLine_22 : decode cX3_nextLine 22 = .ok (.aload_n 3, 1) := by decide +kernel
theorem dX3_nextLine_23 : decode cX3_nextLine 23 = .ok (.getfield 167, 3) := by decide +kernel
theorem dX3_nextLine_26 : decode cX3_nextLine 26 = .ok (.ifCond .le 30, 3) := by decide +kernel
theorem dX3_nextLine_29 : decode cX3_nextLine 29 = .ok (.aload_n 3, 1) := by decide +kernel
theorem dX3_nextLine_30 : decode cX3_nextLine 30 = .ok (.getfield 156, 3) := by decide +kernel
theorem dX3_nextLine_33 : decode cX3_nextLine 33 = .ok (.ifCond .ne 23, 3) := by decide +kernel
theorem dX3_nextLine_36 : decode cX3_nextLine 36 = .ok (.aload_n 1, 1) := by decide +kernel
theorem dX3_nextLine_37 : decode cX3_nextLine 37 = .ok (.ifnull 17, 3) := by decide +kernel
theorem dX3_nextLine_40 : decode cX3_nextLine 40 = .ok (.aload_n 3, 1) := by decide +kernel
theorem dX3_nextLine_41 : decode cX3_nextLine 41 = .ok (.getfield 163, 3) := by decide +kernel
theorem dX3_nextLine_44 : decode cX3_nextLine 44 = .ok (.aload_n 1, 1) := by decide +kernel
theorem dX3_nextLine_45 : decode cX3_nextLine 45 = .ok (.getfield 163, 3) := by decide +kernel
theorem dX3_nextLine_48 : decode cX3_nextLine 48 = .ok (.invokevirtual 305, 3) := by decide +kernel
theorem dX3_nextLine_51 : decode cX3_nextLine 51 = .ok (.ifCond .eq 5, 3) := by decide +kernel
theorem dX3_nextLine_54 : decode cX3_nextLine 54 = .ok (.aload_n 3, 1) := by decide +kernel
theorem dX3_nextLine_55 : decode cX3_nextLine 55 = .ok (.astore_n 1, 1) := by decide +kernel
theorem dX3_nextLine_56 : decode cX3_nextLine 56 = .ok (.iinc 2 1, 3) := by decide +kernel
theorem dX3_nextLine_59 : decode cX3_nextLine 59 = .ok (.goto (-55), 3) := by decide +kernel
theorem dX3_nextLine_62 : decode cX3_nextLine 62 = .ok (.aload_n 1, 1) := by decide +kernel
theorem dX3_nextLine_63 : decode cX3_nextLine 63 = .ok (.areturn, 1) := by decide +kernel
