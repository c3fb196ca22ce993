theorem dX4_init_0 : decode cX4_init 0 = .ok (.aload_n 0, 1) := by decide +kernel
theorem dX4_init_1 : decode cX4_init 1 = .ok (.invokespecial 3, 3) := by decide +kernel
theorem dX4_init_4 : decode cX4_init 4 = .ok (.aload_n 0, 1) := by decide +kernel
theorem dX4_init_5 : decode cX4_init 5 = .ok (.bipush 8, 2) := by decide +kernel
theorem dX4_init_7 : decode cX4_init 7 = .ok (.anewarray 9, 3) := by decide +kernel
theorem dX4_init_10 : decode cX4_init 10 = .ok (.putfield 11, 3) := by decide +kernel
theorem dX4_init_13 : decode cX4_init 13 = .ok (.aload_n 0, 1) := by decide +kernel
theorem dX4_init_14 : decode cX4_init 14 = .ok (.bipush 8, 2) := by decide +kernel
theorem dX4_init_16 : decode cX4_init 16 = .ok (.newarray .int, 2) := by decide +kernel
theorem dX4_init_18 : decode cX4_init 18 = .ok (.putfield 17, 3) := by decide +kernel
theorem dX4_init_21 : decode cX4_init 21 = .ok (.aload_n 0, 1) := by decide +kernel
theorem dX4_init_22 : decode cX4_init 22 = .ok (.bipush 8, 2) := by decide +kernel
theorem dX4_init_24 : decode cX4_init 24 = .ok (.newarray .int, 2) := by decide +kernel
theorem dX4_init_26 : decode cX4_init 26 = .ok (.putfield 21, 3) := by decide +kernel
theorem dX4_init_29 : decode cX4_init 29 = .ok (.aload_n 0, 1) := by decide +kernel
theorem dX4_init_30 : decode cX4_init 30 = .ok (.aload_n 1, 1) := by decide +kernel
theorem dX4_init_31 : decode cX4_init 31 = .ok (.putfield 24, 3) := by decide +kernel
theorem dX4_init_34 : decode cX4_init 34 = .ok (.aload_n 0, 1) := by decide +kernel
theorem dX4_init_35 : decode cX4_init 35 = .ok (.aload_n 2, 1) := by decide +kernel
theorem dX4_init_36 : decode cX4_init 36 = .ok (.putfield 28, 3) := by decide +kernel
theorem dX4_init_39 : decode cX4_init 39 = .ok (.aload_n 0, 1) := by decide +kernel
theorem dX4_init_40 : decode cX4_init 40 = .ok (.aload_n 3, 1) := by decide +kernel
theorem dX4_init_41 : decode cX4_init 41 = .ok (.putfield 32, 3) := by decide +kernel
theorem dX4_init_44 : decode cX4_init 44 = .ok (.aload_n 0, 1) := by decide +kernel
theorem dX4_init_45 : decode cX4_init 45 = .ok (.new 36, 3) := by decide +kernel
theorem dX4_init_48 : decode cX4_init 48 = .ok (.dup, 1) := by decide +kernel
theorem dX4_init_49 : decode cX4_init 49 = .ok (.aload_n 1, 1) := by decide +kernel
theorem dX4_init_50 : decode cX4_init 50 = .ok (.invokespecial 38, 3) := by decide +kernel
theorem dX4_init_53 : decode cX4_init 53 = .ok (.putfield 41, 3) := by decide +kernel
theorem dX4_init_56 : decode cX4_init 56 = .ok (.iconst 0, 1) := by decide +kernel
theorem dX4_init_57 : decode cX4_init 57 = .ok (.istore 4, 2) := by decide +kernel
theorem dX4_init_59 : decode cX4_init 59 = .ok (.iload 4, 2) := by decide +kernel
theorem dX4_init_61 : decode cX4_init 61 = .ok (.bipush 8, 2) := by decide +kernel
theorem dX4_init_63 : decode cX4_init 63 = .ok (.if_icmp .ge 23, 3) := by decide +kernel
theorem dX4_init_66 : decode cX4_init 66 = .ok (.aload_n 0, 1) := by decide +kernel
theorem dX4_init_67 : decode cX4_init 67 = .ok (.getfield 11, 3) := by decide +kernel
theorem dX4_init_70 : decode cX4_init 70 = .ok (.iload 4, 2) := by decide +kernel
theorem dX4_init_72 : decode cX4_init 72 = .ok (.aload_n 2, 1) := by decide +kernel
theorem dX4_init_73 : decode cX4_init 73 = .ok (.getfield 45, 3) := by decide +kernel
theorem dX4_init_76 : decode cX4_init 76 = .ok (.iload 4, 2) := by decide +kernel
theorem dX4_init_78 : decode cX4_init 78 = .ok (.aaload, 1) := by decide +kernel
theorem dX4_init_79 : decode cX4_init 79 = .ok (.aastore, 1) := by decide +kernel
theorem dX4_init_80 : decode cX4_init 80 = .ok (.iinc 4 1, 3) := by decide +kernel
theorem dX4_init_83 : decode cX4_init 83 = .ok (.goto (-24), 3) := by decide +kernel
theorem dX4_init_86 : decode cX4_init 86 = .ok (.return_, 1) := by decide +kernel
theorem dX4_join_0 : decode cX4_join 0 = .ok (.aload_n 0, 1) := by decide +kernel
theorem dX4_join_1 : decode cX4_join 1 = .ok (.getfield 28, 3) := by decide +kernel
theorem dX4_join_4 : decode cX4_join 4 = .ok (.getfield 45, 3) := by decide +kernel
theorem dX4_join_7 : decode cX4_join 7 = .ok (.iload_n 2, 1) := by decide +kernel
theorem dX4_join_8 : decode cX4_join 8 = .ok (.aaload, 1) := by decide +kernel
theorem dX4_join_9 : decode cX4_join 9 = .ok (.invokevirtual 50, 3) := by decide +kernel
theorem dX4_join_12 : decode cX4_join 12 = .ok (.ifCond .eq 5, 3) := by decide +kernel
theorem dX4_join_15 : decode cX4_join 15 = .ok (.iconst 2, 1) := by decide +kernel
theorem dX4_join_16 : decode cX4_join 16 = .ok (.ireturn, 1) := by decide +kernel
theorem dX4_join_17 : decode cX4_join 17 = .ok (.aload_n 0, 1) := by decide +kernel
theorem dX4_join_18 : decode cX4_join 18 = .ok (.getfield 41, 3) := by decide +kernel
theorem dX4_join_21 : decode cX4_join 21 = .ok (.aload_n 0, 1) := by decide +kernel
theorem dX4_join_22 : decode cX4_join 22 = .ok (.getfield 28, 3) := by decide +kernel
theorem dX4_join_25 : decode cX4_join 25 = .ok (.getfield 45, 3) := by decide +kernel
theorem dX4_join_28 : decode cX4_join 28 = .ok (.iload_n 2, 1) := by decide +kernel
theorem dX4_join_29 : decode cX4_join 29 = .ok (.aaload, 1) := by decide +kernel
theorem dX4_join_30 : decode cX4_join 30 = .ok (.getfield 54, 3) := by decide +kernel
theorem dX4_join_33 : decode cX4_join 33 = .ok (.iconst 1, 1) := by decide +kernel
theorem dX4_join_34 : decode cX4_join 34 = .ok (.iload_n 1, 1) := by decide +kernel
theorem dX4_join_35 : decode cX4_join 35 = .ok (.ishl, 1) := by decide +kernel
theorem dX4_join_36 : decode cX4_join 36 = .ok (.ior, 1) := by decide +kernel
theorem dX4_join_37 : decode cX4_join 37 = .ok (.aload_n 0, 1) := by decide +kernel
theorem dX4_join_38 : decode cX4_join 38 = .ok (.getfield 28, 3) := by decide +kernel
theorem dX4_join_41 : decode cX4_join 41 = .ok (.getfield 45, 3) := by decide +kernel
theorem dX4_join_44 : decode cX4_join 44 = .ok (.bipush 8, 2) := by decide +kernel
theorem dX4_join_46 : decode cX4_join 46 = .ok (.aaload, 1) := by decide +kernel
theorem dX4_join_47 : decode cX4_join 47 = .ok (.invokevirtual 58, 3) := by decide +kernel
theorem dX4_join_50 : decode cX4_join 50 = .ok (.aload_n 0, 1) := by decide +kernel
theorem dX4_join_51 : decode cX4_join 51 = .ok (.getfield 28, 3) := by decide +kernel
theorem dX4_join_54 : decode cX4_join 54 = .ok (.iload_n 2, 1) := by decide +kernel
theorem dX4_join_55 : decode cX4_join 55 = .ok (.bipush 8, 2) := by decide +kernel
theorem dX4_join_57 : decode cX4_join 57 = .ok (.invokevirtual 62, 3) := by decide +kernel
theorem dX4_join_60 : decode cX4_join 60 = .ok (.aload_n 0, 1) := by decide +kernel
theorem dX4_join_61 : decode cX4_join 61 = .ok (.getfield 28, 3) := by decide +kernel
theorem dX4_join_64 : decode cX4_join 64 = .ok (.invokevirtual 66, 3) := by decide +kernel
theorem dX4_join_67 : decode cX4_join 67 = .ok (.ifCond .eq 5, 3) := by decide +kernel
theorem dX4_join_70 : decode cX4_join 70 = .ok (.iconst 0, 1) := by decide +kernel
theorem dX4_join_71 : decode cX4_join 71 = .ok (.ireturn, 1) := by decide +kernel
theorem dX4_join_72 : decode cX4_join 72 = .ok (.aload_n 0, 1) := by decide +kernel
theorem dX4_join_73 : decode cX4_join 73 = .ok (.getfield 28, 3) := by decide +kernel
theorem dX4_join_76 : decode cX4_join 76 = .ok (.iload_n 2, 1) := by decide +kernel
theorem dX4_join_77 : decode cX4_join 77 = .ok (.bipush 8, 2) := by decide +kernel
theorem dX4_join_79 : decode cX4_join 79 = .ok (.invokevirtual 62, 3) := by decide +kernel
theorem dX4_join_82 : decode cX4_join 82 = .ok (.iconst 1, 1) := by decide +kernel
theorem dX4_join_83 : decode cX4_join 83 = .ok (.ireturn, 1) := by decide +kernel
theorem dX4_couldJoin_0 : decode cX4_couldJoin 0 = .ok (.aload_n 0, 1) := by decide +kernel
theorem dX4_couldJoin_1 : decode cX4_couldJoin 1 = .ok (.iload_n 1, 1) := by decide +kernel
theorem dX4_couldJoin_2 : decode cX4_couldJoin 2 = .ok (.iload_n 2, 1) := by decide +kernel
theorem dX4_couldJoin_3 : decode cX4_couldJoin 3 = .ok (.invokevirtual 69, 3) := by decide +kernel
theorem dX4_couldJoin_6 : decode cX4_couldJoin 6 = .ok (.istore_n 3, 1) := by decide +kernel
theorem dX4_couldJoin_7 : decode cX4_couldJoin 7 = .ok (.iload_n 3, 1) := by decide +kernel
theorem dX4_couldJoin_8 : decode cX4_couldJoin 8 = .ok (.ifCond .ne 13, 3) := by decide +kernel
theorem dX4_couldJoin_11 : decode cX4_couldJoin 11 = .ok (.aload_n 0, 1) := by decide +kernel
theorem dX4_couldJoin_12 : decode cX4_couldJoin 12 = .ok (.getfield 28, 3) := by decide +kernel
theorem dX4_couldJoin_15 : decode cX4_couldJoin 15 = .ok (.iload_n 2, 1) := by decide +kernel
theorem dX4_couldJoin_16 : decode cX4_couldJoin 16 = .ok (.bipush 8, 2) := by decide +kernel
theorem dX4_couldJoin_18 : decode cX4_couldJoin 18 = .ok (.invokevirtual 62, 3) := by decide +kernel
theorem dX4_couldJoin_21 : decode cX4_couldJoin 21 = .ok (.iload_n 3, 1) := by decide +kernel
theorem dX4_couldJoin_22 : decode cX4_couldJoin 22 = .ok (.ireturn, 1) := by decide +kernel
theorem dX4_leave_0 : decode cX4_leave 0 = .ok (.aload_n 0, 1) := by decide +kernel
theorem dX4_leave_1 : decode cX4_leave 1 = .ok (.getfield 28, 3) := by decide +kernel
theorem dX4_leave_4 : decode cX4_leave 4 = .ok (.getfield 45, 3) := by decide +kernel
theorem dX4_leave_7 : decode cX4_leave 7 = .ok (.iload_n 2, 1) := by decide +kernel
theorem dX4_leave_8 : decode cX4_leave 8 = .ok (.aaload, 1) := by decide +kernel
theorem dX4_leave_9 : decode cX4_leave 9 = .ok (.astore_n 3, 1) := by decide +kernel
theorem dX4_leave_10 : decode cX4_leave 10 = .ok (.aload_n 0, 1) := by decide +kernel
theorem dX4_leave_11 : decode cX4_leave 11 = .ok (.getfield 28, 3) := by decide +kernel
theorem dX4_leave_14 : decode cX4_leave 14 = .ok (.getfield 45, 3) := by decide +kernel
theorem dX4_leave_17 : decode cX4_leave 17 = .ok (.bipush 9, 2) := by decide +kernel
theorem dX4_leave_19 : decode cX4_leave 19 = .ok (.aaload, 1) := by decide +kernel
theorem dX4_leave_20 : decode cX4_leave 20 = .ok (.astore 4, 2) := by decide +kernel
theorem dX4_leave_22 : decode cX4_leave 22 = .ok (.aload 4, 2) := by decide +kernel
theorem dX4_leave_24 : decode cX4_leave 24 = .ok (.invokevirtual 73, 3) := by decide +kernel
theorem dX4_leave_27 : decode cX4_leave 27 = .ok (.iconst 0, 1) := by decide +kernel
theorem dX4_leave_28 : decode cX4_leave 28 = .ok (.istore 5, 2) := by decide +kernel
theorem dX4_leave_30 : decode cX4_leave 30 = .ok (.iload 5, 2) := by decide +kernel
theorem dX4_leave_32 : decode cX4_leave 32 = .ok (.aload_n 3, 1) := by decide +kernel
theorem dX4_leave_33 : decode cX4_leave 33 = .ok (.getfield 76, 3) := by decide +kernel
theorem dX4_leave_36 : decode cX4_leave 36 = .ok (.if_icmp .ge 32, 3) := by decide +kernel
theorem dX4_leave_39 : decode cX4_leave 39 = .ok (.aload_n 3, 1) := by decide +kernel
theorem dX4_leave_40 : decode cX4_leave 40 = .ok (.getfield 79, 3) := by decide +kernel
theorem dX4_leave_43 : decode cX4_leave 43 = .ok (.iload 5, 2) := by decide +kernel
theorem dX4_leave_45 : decode cX4_leave 45 = .ok (.iaload, 1) := by decide +kernel
theorem dX4_leave_46 : decode cX4_leave 46 = .ok (.iload_n 1, 1) := by decide +kernel
theorem dX4_leave_47 : decode cX4_leave 47 = .ok (.if_icmp .eq 15, 3) := by decide +kernel
theorem dX4_leave_50 : decode cX4_leave 50 = .ok (.aload 4, 2) := by decide +kernel
theorem dX4_leave_52 : decode cX4_leave 52 = .ok (.aload_n 3, 1) := by decide +kernel
theorem dX4_leave_53 : decode cX4_leave 53 = .ok (.getfield 79, 3) := by decide +kernel
theorem dX4_leave_56 : decode cX4_leave 56 = .ok (.iload 5, 2) := by decide +kernel
theorem dX4_leave_58 : decode cX4_leave 58 = .ok (.iaload, 1) := by decide +kernel
theorem dX4_leave_59 : decode cX4_leave 59 = .ok (.invokevirtual 82, 3) := by decide +kernel
theorem dX4_leave_62 : decode cX4_leave 62 = .ok (.iinc 5 1, 3) := by decide +kernel
theorem dX4_leave_65 : decode cX4_leave 65 = .ok (.goto (-35), 3) := by decide +kernel
theorem dX4_leave_68 : decode cX4_leave 68 = .ok (.aload 4, 2) := by decide +kernel
theorem dX4_leave_70 : decode cX4_leave 70 = .ok (.aload_n 0, 1) := by decide +kernel
theorem dX4_leave_71 : decode cX4_leave 71 = .ok (.getfield 24, 3) := by decide +kernel
theorem dX4_leave_74 : decode cX4_leave 74 = .ok (.invokevirtual 86, 3) := by decide +kernel
theorem dX4_leave_77 : decode cX4_leave 77 = .ok (.aload_n 0, 1) := by decide +kernel
theorem dX4_leave_78 : decode cX4_leave 78 = .ok (.getfield 28, 3) := by decide +kernel
theorem dX4_leave_81 : decode cX4_leave 81 = .ok (.iload_n 2, 1) := by decide +kernel
theorem dX4_leave_82 : decode cX4_leave 82 = .ok (.bipush 9, 2) := by decide +kernel
theorem dX4_leave_84 : decode cX4_leave 84 = .ok (.invokevirtual 62, 3) := by decide +kernel
theorem dX4_leave_87 : decode cX4_leave 87 = .ok (.return_, 1) := by decide +kernel
theorem dX4_arrangeDay_0 : decode cX4_arrangeDay 0 = .ok (.aload_n 0, 1) := by decide +kernel
theorem dX4_arrangeDay_1 : decode cX4_arrangeDay 1 = .ok (.getfield 41, 3) := by decide +kernel
theorem dX4_arrangeDay_4 : decode cX4_arrangeDay 4 = .ok (.aload_n 0, 1) := by decide +kernel
theorem dX4_arrangeDay_5 : decode cX4_arrangeDay 5 = .ok (.getfield 28, 3) := by decide +kernel
theorem dX4_arrangeDay_8 : decode cX4_arrangeDay 8 = .ok (.getfield 45, 3) := by decide +kernel
theorem dX4_arrangeDay_11 : decode cX4_arrangeDay 11 = .ok (.iload_n 1, 1) := by decide +kernel
theorem dX4_arrangeDay_12 : decode cX4_arrangeDay 12 = .ok (.aaload, 1) := by decide +kernel
theorem dX4_arrangeDay_13 : decode cX4_arrangeDay 13 = .ok (.getfield 54, 3) := by decide +kernel
theorem dX4_arrangeDay_16 : decode cX4_arrangeDay 16 = .ok (.aload_n 0, 1) := by decide +kernel
theorem dX4_arrangeDay_17 : decode cX4_arrangeDay 17 = .ok (.getfield 28, 3) := by decide +kernel
theorem dX4_arrangeDay_20 : decode cX4_arrangeDay 20 = .ok (.getfield 45, 3) := by decide +kernel
theorem dX4_arrangeDay_23 : decode cX4_arrangeDay 23 = .ok (.bipush 8, 2) := by decide +kernel
theorem dX4_arrangeDay_25 : decode cX4_arrangeDay 25 = .ok (.aaload, 1) := by decide +kernel
theorem dX4_arrangeDay_26 : decode cX4_arrangeDay 26 = .ok (.invokevirtual 58, 3) := by decide +kernel
theorem dX4_arrangeDay_29 : decode cX4_arrangeDay 29 = .ok (.aload_n 0, 1) := by decide +kernel
theorem dX4_arrangeDay_30 : decode cX4_arrangeDay 30 = .ok (.getfield 28, 3) := by decide +kernel
theorem dX4_arrangeDay_33 : decode cX4_arrangeDay 33 = .ok (.iload_n 1, 1) := by decide +kernel
theorem dX4_arrangeDay_34 : decode cX4_arrangeDay 34 = .ok (.bipush 8, 2) := by decide +kernel
theorem dX4_arrangeDay_36 : decode cX4_arrangeDay 36 = .ok (.invokevirtual 62, 3) := by decide +kernel
theorem dX4_arrangeDay_39 : decode cX4_arrangeDay 39 = .ok (.return_, 1) := by decide +kernel
theorem dX4_makeFirstGoodMove_0 : decode cX4_makeFirstGoodMove 0 = .ok (.aload_n 0, 1) := by decide +kernel
theorem dX4_makeFirstGoodMove_1 : decode cX4_makeFirstGoodMove 1 = .ok (.getfield 32, 3) := by decide +kernel
theorem dX4_makeFirstGoodMove_4 : decode cX4_makeFirstGoodMove 4 = .ok (.invokevirtual 89, 3) := by decide +kernel
theorem dX4_makeFirstGoodMove_7 : decode cX4_makeFirstGoodMove 7 = .ok (.istore_n 1, 1) := by decide +kernel
theorem dX4_makeFirstGoodMove_8 : decode cX4_makeFirstGoodMove 8 = .ok (.iconst 0, 1) := by decide +kernel
theorem dX4_makeFirstGoodMove_9 : decode cX4_makeFirstGoodMove 9 = .ok (.istore_n 2, 1) := by decide +kernel
theorem dX4_makeFirstGoodMove_10 : decode cX4_makeFirstGoodMove 10 = .ok (.iload_n 2, 1) := by decide +kernel
theorem dX4_makeFirstGoodMove_11 : decode cX4_makeFirstGoodMove 11 = .ok (.aload_n 0, 1) := by decide +kernel
theorem dX4_makeFirstGoodMove_12 : decode cX4_makeFirstGoodMove 12 = .ok (.getfield 24, 3) := by decide +kernel
theorem dX4_makeFirstGoodMove_15 : decode cX4_makeFirstGoodMove 15 = .ok (.getfield 95, 3) := by decide +kernel
theorem dX4_makeFirstGoodMove_18 : decode cX4_makeFirstGoodMove 18 = .ok (.if_icmp .ge 64, 3) := by decide +kernel
theorem dX4_makeFirstGoodMove_21 : decode cX4_makeFirstGoodMove 21 = .ok (.aload_n 0, 1) := by decide +kernel
theorem dX4_makeFirstGoodMove_22 : decode cX4_makeFirstGoodMove 22 = .ok (.getfield 28, 3) := by decide +kernel
theorem dX4_makeFirstGoodMove_25 : decode cX4_makeFirstGoodMove 25 = .ok (.iload_n 2, 1) := by decide +kernel
theorem dX4_makeFirstGoodMove_26 : decode cX4_makeFirstGoodMove 26 = .ok (.invokevirtual 99, 3) := by decide +kernel
theorem dX4_makeFirstGoodMove_29 : decode cX4_makeFirstGoodMove 29 = .ok (.istore_n 3, 1) := by decide +kernel
theorem dX4_makeFirstGoodMove_30 : decode cX4_makeFirstGoodMove 30 = .ok (.iconst 0, 1) := by decide +kernel
theorem dX4_makeFirstGoodMove_31 : decode cX4_makeFirstGoodMove 31 = .ok (.istore 4, 2) := by decide +kernel
theorem dX4_makeFirstGoodMove_33 : decode cX4_makeFirstGoodMove 33 = .ok (.iload 4, 2) := by decide +kernel
theorem dX4_makeFirstGoodMove_35 : decode cX4_makeFirstGoodMove 35 = .ok (.aload_n 0, 1) := by decide +kernel
theorem dX4_makeFirstGoodMove_36 : decode cX4_makeFirstGoodMove 36 = .ok (.getfield 28, 3) := by decide +kernel
theorem dX4_makeFirstGoodMove_39 : decode cX4_makeFirstGoodMove 39 = .ok (.getfield 103, 3) := by decide +kernel
theorem dX4_makeFirstGoodMove_42 : decode cX4_makeFirstGoodMove 42 = .ok (.if_icmp .ge 34, 3) := by decide +kernel
theorem dX4_makeFirstGoodMove_45 : decode cX4_makeFirstGoodMove 45 = .ok (.iload_n 3, 1) := by decide +kernel
theorem dX4_makeFirstGoodMove_46 : decode cX4_makeFirstGoodMove 46 = .ok (.iconst (-1), 1) := by decide +kernel
theorem dX4_makeFirstGoodMove_47 : decode cX4_makeFirstGoodMove 47 = .ok (.if_icmp .eq 29, 3) := by decide +kernel
theorem dX4_makeFirstGoodMove_50 : decode cX4_makeFirstGoodMove 50 = .ok (.iload 4, 2) := by decide +kernel
theorem dX4_makeFirstGoodMove_52 : decode cX4_makeFirstGoodMove 52 = .ok (.iload_n 3, 1) := by decide +kernel
theorem dX4_makeFirstGoodMove_53 : decode cX4_makeFirstGoodMove 53 = .ok (.if_icmp .eq 17, 3) := by decide +kernel
theorem dX4_makeFirstGoodMove_56 : decode cX4_makeFirstGoodMove 56 = .ok (.aload_n 0, 1) := by decide +kernel
theorem dX4_makeFirstGoodMove_57 : decode cX4_makeFirstGoodMove 57 = .ok (.iload_n 2, 1) := by decide +kernel
theorem dX4_makeFirstGoodMove_58 : decode cX4_makeFirstGoodMove 58 = .ok (.iload_n 3, 1) := by decide +kernel
theorem dX4_makeFirstGoodMove_59 : decode cX4_makeFirstGoodMove 59 = .ok (.iload 4, 2) := by decide +kernel
theorem dX4_makeFirstGoodMove_61 : decode cX4_makeFirstGoodMove 61 = .ok (.iload_n 1, 1) := by decide +kernel
theorem dX4_makeFirstGoodMove_62 : decode cX4_makeFirstGoodMove 62 = .ok (.invokevirtual 106, 3) := by decide +kernel
theorem dX4_makeFirstGoodMove_65 : decode cX4_makeFirstGoodMove 65 = .ok (.ifCond .eq 5, 3) := by decide +kernel
theorem dX4_makeFirstGoodMove_68 : decode cX4_makeFirstGoodMove 68 = .ok (.iconst 1, 1) := by decide +kernel
theorem dX4_makeFirstGoodMove_69 : decode cX4_makeFirstGoodMove 69 = .ok (.ireturn, 1) := by decide +kernel
theorem dX4_makeFirstGoodMove_70 : decode cX4_makeFirstGoodMove 70 = .ok (.iinc 4 1, 3) := by decide +kernel
theorem dX4_makeFirstGoodMove_73 : decode cX4_makeFirstGoodMove 73 = .ok (.goto (-40), 3) := by decide +kernel
theorem dX4_makeFirstGoodMove_76 : decode cX4_makeFirstGoodMove 76 = .ok (.iinc 2 1, 3) := by decide +kernel
theorem dX4_makeFirstGoodMove_79 : decode cX4_makeFirstGoodMove 79 = .ok (.goto (-69), 3) := by decide +kernel
theorem dX4_makeFirstGoodMove_82 : decode cX4_makeFirstGoodMove 82 = .ok (.iconst 0, 1) := by decide +kernel
theorem dX4_makeFirstGoodMove_83 : decode cX4_makeFirstGoodMove 83 = .ok (.ireturn, 1) := by decide +kernel
theorem dX4_moveIfGood_0 : decode cX4_moveIfGood 0 = .ok (.aload_n 0, 1) := by decide +kernel
theorem dX4_moveIfGood_1 : decode cX4_moveIfGood 1 = .ok (.iload_n 1, 1) := by decide +kernel
theorem dX4_moveIfGood_2 : decode cX4_moveIfGood 2 = .ok (.iload_n 2, 1) := by decide +kernel
theorem dX4_moveIfGood_3 : decode cX4_moveIfGood 3 = .ok (.invokevirtual 110, 3) := by decide +kernel
theorem dX4_moveIfGood_6 : decode cX4_moveIfGood 6 = .ok (.aload_n 0, 1) := by decide +kernel
theorem dX4_moveIfGood_7 : decode cX4_moveIfGood 7 = .ok (.iload_n 1, 1) := by decide +kernel
theorem dX4_moveIfGood_8 : decode cX4_moveIfGood 8 = .ok (.iload_n 3, 1) := by decide +kernel
theorem dX4_moveIfGood_9 : decode cX4_moveIfGood 9 = .ok (.invokevirtual 69, 3) := by decide +kernel
theorem dX4_moveIfGood_12 : decode cX4_moveIfGood 12 = .ok (.ifCond .ne 27, 3) := by decide +kernel
theorem dX4_moveIfGood_15 : decode cX4_moveIfGood 15 = .ok (.aload_n 0, 1) := by decide +kernel
theorem dX4_moveIfGood_16 : decode cX4_moveIfGood 16 = .ok (.getfield 32, 3) := by decide +kernel
theorem dX4_moveIfGood_19 : decode cX4_moveIfGood 19 = .ok (.invokevirtual 89, 3) := by decide +kernel
theorem dX4_moveIfGood_22 : decode cX4_moveIfGood 22 = .ok (.iload 4, 2) := by decide +kernel
theorem dX4_moveIfGood_24 : decode cX4_moveIfGood 24 = .ok (.if_icmp .ge 5, 3) := by decide +kernel
theorem dX4_moveIfGood_27 : decode cX4_moveIfGood 27 = .ok (.iconst 1, 1) := by decide +kernel
theorem dX4_moveIfGood_28 : decode cX4_moveIfGood 28 = .ok (.ireturn, 1) := by decide +kernel
theorem dX4_moveIfGood_29 : decode cX4_moveIfGood 29 = .ok (.aload_n 0, 1) := by decide +kernel
theorem dX4_moveIfGood_30 : decode cX4_moveIfGood 30 = .ok (.getfield 28, 3) := by decide +kernel
theorem dX4_moveIfGood_33 : decode cX4_moveIfGood 33 = .ok (.iload_n 3, 1) := by decide +kernel
theorem dX4_moveIfGood_34 : decode cX4_moveIfGood 34 = .ok (.bipush 8, 2) := by decide +kernel
theorem dX4_moveIfGood_36 : decode cX4_moveIfGood 36 = .ok (.invokevirtual 62, 3) := by decide +kernel
theorem dX4_moveIfGood_39 : decode cX4_moveIfGood 39 = .ok (.aload_n 0, 1) := by decide +kernel
theorem dX4_moveIfGood_40 : decode cX4_moveIfGood 40 = .ok (.getfield 28, 3) := by decide +kernel
theorem dX4_moveIfGood_43 : decode cX4_moveIfGood 43 = .ok (.iload_n 2, 1) := by decide +kernel
theorem dX4_moveIfGood_44 : decode cX4_moveIfGood 44 = .ok (.bipush 9, 2) := by decide +kernel
theorem dX4_moveIfGood_46 : decode cX4_moveIfGood 46 = .ok (.invokevirtual 62, 3) := by decide +kernel
theorem dX4_moveIfGood_49 : decode cX4_moveIfGood 49 = .ok (.iconst 0, 1) := by decide +kernel
theorem dX4_moveIfGood_50 : decode cX4_moveIfGood 50 = .ok (.ireturn, 1) := by decide +kernel
theorem dX4_makeFirstGoodTrade_0 : decode cX4_makeFirstGoodTrade 0 = .ok (.aload_n 0, 1) := by decide +kernel
theorem dX4_makeFirstGoodTrade_1 : decode cX4_makeFirstGoodTrade 1 = .ok (.getfield 32, 3) := by decide +kernel
theorem dX4_makeFirstGoodTrade_4 : decode cX4_makeFirstGoodTrade 4 = .ok (.invokevirtual 89, 3) := by decide +kernel
theorem dX4_makeFirstGoodTrade_7 : decode cX4_makeFirstGoodTrade 7 = .ok (.istore_n 1, 1) := by decide +kernel
theorem dX4_makeFirstGoodTrade_8 : decode cX4_makeFirstGoodTrade 8 = .ok (.iconst 0, 1) := by decide +kernel
theorem dX4_makeFirstGoodTrade_9 : decode cX4_makeFirstGoodTrade 9 = .ok (.istore_n 2, 1) := by decide +kernel
theorem dX4_makeFirstGoodTrade_10 : decode cX4_makeFirstGoodTrade 10 = .ok (.iload_n 2, 1) := by decide +kernel
theorem dX4_makeFirstGoodTrade_11 : decode cX4_makeFirstGoodTrade 11 = .ok (.aload_n 0, 1) := by decide +kernel
theorem dX4_makeFirstGoodTrade_12 : decode cX4_makeFirstGoodTrade 12 = .ok (.getfield 28, 3) := by decide +kernel
theorem dX4_makeFirstGoodTrade_15 : decode cX4_makeFirstGoodTrade 15 = .ok (.getfield 103, 3) := by decide +kernel
theorem dX4_makeFirstGoodTrade_18 : decode cX4_makeFirstGoodTrade 18 = .ok (.if_icmp .ge 71, 3) := by decide +kernel
theorem dX4_makeFirstGoodTrade_21 : decode cX4_makeFirstGoodTrade 21 = .ok (.iload_n 2, 1) := by decide +kernel
theorem dX4_makeFirstGoodTrade_22 : decode cX4_makeFirstGoodTrade 22 = .ok (.iconst 1, 1) := by decide +kernel
theorem dX4_makeFirstGoodTrade_23 : decode cX4_makeFirstGoodTrade 23 = .ok (.iadd, 1) := by decide +kernel
theorem dX4_makeFirstGoodTrade_24 : decode cX4_makeFirstGoodTrade 24 = .ok (.istore_n 3, 1) := by decide +kernel
theorem dX4_makeFirstGoodTrade_25 : decode cX4_makeFirstGoodTrade 25 = .ok (.iload_n 3, 1) := by decide +kernel
theorem dX4_makeFirstGoodTrade_26 : decode cX4_makeFirstGoodTrade 26 = .ok (.aload_n 0, 1) := by decide +kernel
theorem dX4_makeFirstGoodTrade_27 : decode cX4_makeFirstGoodTrade 27 = .ok (.getfield 28, 3) := by decide +kernel
theorem dX4_makeFirstGoodTrade_30 : decode cX4_makeFirstGoodTrade 30 = .ok (.getfield 103, 3) := by decide +kernel
theorem dX4_makeFirstGoodTrade_33 : decode cX4_makeFirstGoodTrade 33 = .ok (.if_icmp .ge 50, 3) := by decide +kernel
theorem dX4_makeFirstGoodTrade_36 : decode cX4_makeFirstGoodTrade 36 = .ok (.aload_n 0, 1) := by decide +kernel
theorem dX4_makeFirstGoodTrade_37 : decode cX4_makeFirstGoodTrade 37 = .ok (.getfield 28, 3) := by decide +kernel
theorem dX4_makeFirstGoodTrade_40 : decode cX4_makeFirstGoodTrade 40 = .ok (.iload_n 2, 1) := by decide +kernel
theorem dX4_makeFirstGoodTrade_41 : decode cX4_makeFirstGoodTrade 41 = .ok (.iload_n 3, 1) := by decide +kernel
theorem dX4_makeFirstGoodTrade_42 : decode cX4_makeFirstGoodTrade 42 = .ok (.invokevirtual 62, 3) := by decide +kernel
theorem dX4_makeFirstGoodTrade_45 : decode cX4_makeFirstGoodTrade 45 = .ok (.aload_n 0, 1) := by decide +kernel
theorem dX4_makeFirstGoodTrade_46 : decode cX4_makeFirstGoodTrade 46 = .ok (.getfield 28, 3) := by decide +kernel
theorem dX4_makeFirstGoodTrade_49 : decode cX4_makeFirstGoodTrade 49 = .ok (.invokevirtual 66, 3) := by decide +kernel
theorem dX4_makeFirstGoodTrade_52 : decode cX4_makeFirstGoodTrade 52 = .ok (.ifCond .eq 16, 3) := by decide +kernel
theorem dX4_makeFirstGoodTrade_55 : decode cX4_makeFirstGoodTrade 55 = .ok (.aload_n 0, 1) := by decide +kernel
theorem dX4_makeFirstGoodTrade_56 : decode cX4_makeFirstGoodTrade 56 = .ok (.getfield 32, 3) := by decide +kernel
theorem dX4_makeFirstGoodTrade_59 : decode cX4_makeFirstGoodTrade 59 = .ok (.invokevirtual 89, 3) := by decide +kernel
theorem dX4_makeFirstGoodTrade_62 : decode cX4_makeFirstGoodTrade 62 = .ok (.iload_n 1, 1) := by decide +kernel
theorem dX4_makeFirstGoodTrade_63 : decode cX4_makeFirstGoodTrade 63 = .ok (.if_icmp .ge 5, 3) := by decide +kernel
theorem dX4_makeFirstGoodTrade_66 : decode cX4_makeFirstGoodTrade 66 = .ok (.iconst 1, 1) := by decide +kernel
theorem dX4_makeFirstGoodTrade_67 : decode cX4_makeFirstGoodTrade 67 = .ok (.ireturn, 1) := by decide +kernel
theorem dX4_makeFirstGoodTrade_68 : decode cX4_makeFirstGoodTrade 68 = .ok (.aload_n 0, 1) := by decide +kernel
theorem dX4_makeFirstGoodTrade_69 : decode cX4_makeFirstGoodTrade 69 = .ok (.getfield 28, 3) := by decide +kernel
theorem dX4_makeFirstGoodTrade_72 : decode cX4_makeFirstGoodTrade 72 = .ok (.iload_n 2, 1) := by decide +kernel
theorem dX4_makeFirstGoodTrade_73 : decode cX4_makeFirstGoodTrade 73 = .ok (.iload_n 3, 1) := by decide +kernel
theorem dX4_makeFirstGoodTrade_74 : decode cX4_makeFirstGoodTrade 74 = .ok (.invokevirtual 62, 3) := by decide +kernel
theorem dX4_makeFirstGoodTrade_77 : decode cX4_makeFirstGoodTrade 77 = .ok (.iinc 3 1, 3) := by decide +kernel
theorem dX4_makeFirstGoodTrade_80 : decode cX4_makeFirstGoodTrade 80 = .ok (.goto (-55), 3) := by decide +kernel
theorem dX4_makeFirstGoodTrade_83 : decode cX4_makeFirstGoodTrade 83 = .ok (.iinc 2 1, 3) := by decide +kernel
theorem dX4_makeFirstGoodTrade_86 : decode cX4_makeFirstGoodTrade 86 = .ok (.goto (-76), 3) := by decide +kernel
theorem dX4_makeFirstGoodTrade_89 : decode cX4_makeFirstGoodTrade 89 = .ok (.iconst 0, 1) := by decide +kernel
theorem dX4_makeFirstGoodTrade_90 : decode cX4_makeFirstGoodTrade 90 = .ok (.ireturn, 1) := by decide +kernel
theorem dX4_takeBestOrder_0 : decode cX4_takeBestOrder 0 = .ok (.iconst 0, 1) := by decide +kernel
theorem dX4_takeBestOrder_1 : decode cX4_takeBestOrder 1 = .ok (.istore_n 1, 1) := by decide +kernel
theorem dX4_takeBestOrder_2 : decode cX4_takeBestOrder 2 = .ok (.iload_n 1, 1) := by decide +kernel
theorem dX4_takeBestOrder_3 : decode cX4_takeBestOrder 3 = .ok (.aload_n 0, 1) := by decide +kernel
theorem dX4_takeBestOrder_4 : decode cX4_takeBestOrder 4 = .ok (.getfield 28, 3) := by decide +kernel
theorem dX4_takeBestOrder_7 : decode cX4_takeBestOrder 7 = .ok (.getfield 103, 3) := by decide +kernel
theorem dX4_takeBestOrder_10 : decode cX4_takeBestOrder 10 = .ok (.if_icmp .ge 38, 3) := by decide +kernel
theorem dX4_takeBestOrder_13 : decode cX4_takeBestOrder 13 = .ok (.aload_n 0, 1) := by decide +kernel
theorem dX4_takeBestOrder_14 : decode cX4_takeBestOrder 14 = .ok (.getfield 11, 3) := by decide +kernel
theorem dX4_takeBestOrder_17 : decode cX4_takeBestOrder 17 = .ok (.iload_n 1, 1) := by decide +kernel
theorem dX4_takeBestOrder_18 : decode cX4_takeBestOrder 18 = .ok (.aload_n 0, 1) := by decide +kernel
theorem dX4_takeBestOrder_19 : decode cX4_takeBestOrder 19 = .ok (.getfield 28, 3) := by decide +kernel
theorem dX4_takeBestOrder_22 : decode cX4_takeBestOrder 22 = .ok (.getfield 45, 3) := by decide +kernel
theorem dX4_takeBestOrder_25 : decode cX4_takeBestOrder 25 = .ok (.iload_n 1, 1) := by decide +kernel
theorem dX4_takeBestOrder_26 : decode cX4_takeBestOrder 26 = .ok (.aaload, 1) := by decide +kernel
theorem dX4_takeBestOrder_27 : decode cX4_takeBestOrder 27 = .ok (.aastore, 1) := by decide +kernel
theorem dX4_takeBestOrder_28 : decode cX4_takeBestOrder 28 = .ok (.aload_n 0, 1) := by decide +kernel
theorem dX4_takeBestOrder_29 : decode cX4_takeBestOrder 29 = .ok (.getfield 17, 3) := by decide +kernel
theorem dX4_takeBestOrder_32 : decode cX4_takeBestOrder 32 = .ok (.iload_n 1, 1) := by decide +kernel
theorem dX4_takeBestOrder_33 : decode cX4_takeBestOrder 33 = .ok (.iload_n 1, 1) := by decide +kernel
theorem dX4_takeBestOrder_34 : decode cX4_takeBestOrder 34 = .ok (.iastore, 1) := by decide +kernel
theorem dX4_takeBestOrder_35 : decode cX4_takeBestOrder 35 = .ok (.aload_n 0, 1) := by decide +kernel
theorem dX4_takeBestOrder_36 : decode cX4_takeBestOrder 36 = .ok (.getfield 21, 3) := by decide +kernel
theorem dX4_takeBestOrder_39 : decode cX4_takeBestOrder 39 = .ok (.iload_n 1, 1) := by decide +kernel
theorem dX4_takeBestOrder_40 : decode cX4_takeBestOrder 40 = .ok (.iload_n 1, 1) := by decide +kernel
theorem dX4_takeBestOrder_41 : decode cX4_takeBestOrder 41 = .ok (.iastore, 1) := by decide +kernel
theorem dX4_takeBestOrder_42 : decode cX4_takeBestOrder 42 = .ok (.iinc 1 1, 3) := by decide +kernel
theorem dX4_takeBestOrder_45 : decode cX4_takeBestOrder 45 = .ok (.goto (-43), 3) := by decide +kernel
theorem dX4_takeBestOrder_48 : decode cX4_takeBestOrder 48 = .ok (.aload_n 0, 1) := by decide +kernel
theorem dX4_takeBestOrder_49 : decode cX4_takeBestOrder 49 = .ok (.getfield 32, 3) := by decide +kernel
theorem dX4_takeBestOrder_52 : decode cX4_takeBestOrder 52 = .ok (.invokevirtual 89, 3) := by decide +kernel
theorem dX4_takeBestOrder_55 : decode cX4_takeBestOrder 55 = .ok (.istore_n 1, 1) := by decide +kernel
theorem dX4_takeBestOrder_56 : decode cX4_takeBestOrder 56 = .ok (.iconst 1, 1) := by decide +kernel
theorem dX4_takeBestOrder_57 : decode cX4_takeBestOrder 57 = .ok (.istore_n 2, 1) := by decide +kernel
theorem dX4_takeBestOrder_58 : decode cX4_takeBestOrder 58 = .ok (.iload_n 2, 1) := by decide +kernel
theorem dX4_takeBestOrder_59 : decode cX4_takeBestOrder 59 = .ok (.sipush 720, 3) := by decide +kernel
theorem dX4_takeBestOrder_62 : decode cX4_takeBestOrder 62 = .ok (.if_icmp .ge 80, 3) := by decide +kernel
theorem dX4_takeBestOrder_65 : decode cX4_takeBestOrder 65 = .ok (.aload_n 0, 1) := by decide +kernel
theorem dX4_takeBestOrder_66 : decode cX4_takeBestOrder 66 = .ok (.aload_n 0, 1) := by decide +kernel
theorem dX4_takeBestOrder_67 : decode cX4_takeBestOrder 67 = .ok (.getfield 28, 3) := by decide +kernel
theorem dX4_takeBestOrder_70 : decode cX4_takeBestOrder 70 = .ok (.getfield 103, 3) := by decide +kernel
theorem dX4_takeBestOrder_73 : decode cX4_takeBestOrder 73 = .ok (.invokevirtual 113, 3) := by decide +kernel
theorem dX4_takeBestOrder_76 : decode cX4_takeBestOrder 76 = .ok (.ifCond .eq 66, 3) := by decide +kernel
theorem dX4_takeBestOrder_79 : decode cX4_takeBestOrder 79 = .ok (.aload_n 0, 1) := by decide +kernel
theorem dX4_takeBestOrder_80 : decode cX4_takeBestOrder 80 = .ok (.aload_n 0, 1) := by decide +kernel
theorem dX4_takeBestOrder_81 : decode cX4_takeBestOrder 81 = .ok (.getfield 17, 3) := by decide +kernel
theorem dX4_takeBestOrder_84 : decode cX4_takeBestOrder 84 = .ok (.invokevirtual 117, 3) := by decide +kernel
theorem dX4_takeBestOrder_87 : decode cX4_takeBestOrder 87 = .ok (.aload_n 0, 1) := by decide +kernel
theorem dX4_takeBestOrder_88 : decode cX4_takeBestOrder 88 = .ok (.getfield 28, 3) := by decide +kernel
theorem dX4_takeBestOrder_91 : decode cX4_takeBestOrder 91 = .ok (.invokevirtual 66, 3) := by decide +kernel
theorem dX4_takeBestOrder_94 : decode cX4_takeBestOrder 94 = .ok (.ifCond .eq 42, 3) := by decide +kernel
theorem dX4_takeBestOrder_97 : decode cX4_takeBestOrder 97 = .ok (.aload_n 0, 1) := by decide +kernel
theorem dX4_takeBestOrder_98 : decode cX4_takeBestOrder 98 = .ok (.getfield 32, 3) := by decide +kernel
theorem dX4_takeBestOrder_101 : decode cX4_takeBestOrder 101 = .ok (.invokevirtual 89, 3) := by decide +kernel
theorem dX4_takeBestOrder_104 : decode cX4_takeBestOrder 104 = .ok (.iload_n 1, 1) := by decide +kernel
theorem dX4_takeBestOrder_105 : decode cX4_takeBestOrder 105 = .ok (.if_icmp .ge 31, 3) := by decide +kernel
theorem dX4_takeBestOrder_108 : decode cX4_takeBestOrder 108 = .ok (.aload_n 0, 1) := by decide +kernel
theorem dX4_takeBestOrder_109 : decode cX4_takeBestOrder 109 = .ok (.getfield 32, 3) := by decide +kernel
theorem dX4_takeBestOrder_112 : decode cX4_takeBestOrder 112 = .ok (.invokevirtual 89, 3) := by decide +kernel
theorem dX4_takeBestOrder_115 : decode cX4_takeBestOrder 115 = .ok (.istore_n 1, 1) := by decide +kernel
theorem dX4_takeBestOrder_116 : decode cX4_takeBestOrder 116 = .ok (.aload_n 0, 1) := by decide +kernel
theorem dX4_takeBestOrder_117 : decode cX4_takeBestOrder 117 = .ok (.getfield 17, 3) := by decide +kernel
theorem dX4_takeBestOrder_120 : decode cX4_takeBestOrder 120 = .ok (.iconst 0, 1) := by decide +kernel
theorem dX4_takeBestOrder_121 : decode cX4_takeBestOrder 121 = .ok (.aload_n 0, 1) := by decide +kernel
theorem dX4_takeBestOrder_122 : decode cX4_takeBestOrder 122 = .ok (.getfield 21, 3) := by decide +kernel
theorem dX4_takeBestOrder_125 : decode cX4_takeBestOrder 125 = .ok (.iconst 0, 1) := by decide +kernel
theorem dX4_takeBestOrder_126 : decode cX4_takeBestOrder 126 = .ok (.aload_n 0, 1) := by decide +kernel
theorem dX4_takeBestOrder_127 : decode cX4_takeBestOrder 127 = .ok (.getfield 28, 3) := by decide +kernel
theorem dX4_takeBestOrder_130 : decode cX4_takeBestOrder 130 = .ok (.getfield 103, 3) := by decide +kernel
theorem dX4_takeBestOrder_133 : decode cX4_takeBestOrder 133 = .ok (.invokestatic 121, 3) := by decide +kernel
theorem dX4_takeBestOrder_136 : decode cX4_takeBestOrder 136 = .ok (.iinc 2 1, 3) := by decide +kernel
theorem dX4_takeBestOrder_139 : decode cX4_takeBestOrder 139 = .ok (.goto (-81), 3) := by decide +kernel
theorem dX4_takeBestOrder_142 : decode cX4_takeBestOrder 142 = .ok (.aload_n 0, 1) := by decide +kernel
theorem dX4_takeBestOrder_143 : decode cX4_takeBestOrder 143 = .ok (.aload_n 0, 1) := by decide +kernel
theorem dX4_takeBestOrder_144 : decode cX4_takeBestOrder 144 = .ok (.getfield 21, 3) := by decide +kernel
theorem dX4_takeBestOrder_147 : decode cX4_takeBestOrder 147 = .ok (.invokevirtual 117, 3) := by decide +kernel
theorem dX4_takeBestOrder_150 : decode cX4_takeBestOrder 150 = .ok (.iload_n 1, 1) := by decide +kernel
theorem dX4_takeBestOrder_151 : decode cX4_takeBestOrder 151 = .ok (.ireturn, 1) := by decide +kernel
theorem dX4_giveRows_0 : decode cX4_giveRows 0 = .ok (.iconst 0, 1) := by decide +kernel
theorem dX4_giveRows_1 : decode cX4_giveRows 1 = .ok (.istore_n 2, 1) := by decide +kernel
theorem dX4_giveRows_2 : decode cX4_giveRows 2 = .ok (.iload_n 2, 1) := by decide +kernel
theorem dX4_giveRows_3 : decode cX4_giveRows 3 = .ok (.aload_n 0, 1) := by decide +kernel
theorem dX4_giveRows_4 : decode cX4_giveRows 4 = .ok (.getfield 28, 3) := by decide +kernel
theorem dX4_giveRows_7 : decode cX4_giveRows 7 = .ok (.getfield 103, 3) := by decide +kernel
theorem dX4_giveRows_10 : decode cX4_giveRows 10 = .ok (.if_icmp .ge 26, 3) := by decide +kernel
theorem dX4_giveRows_13 : decode cX4_giveRows 13 = .ok (.aload_n 0, 1) := by decide +kernel
theorem dX4_giveRows_14 : decode cX4_giveRows 14 = .ok (.getfield 28, 3) := by decide +kernel
theorem dX4_giveRows_17 : decode cX4_giveRows 17 = .ok (.getfield 45, 3) := by decide +kernel
theorem dX4_giveRows_20 : decode cX4_giveRows 20 = .ok (.iload_n 2, 1) := by decide +kernel
theorem dX4_giveRows_21 : decode cX4_giveRows 21 = .ok (.aload_n 0, 1) := by decide +kernel
theorem dX4_giveRows_22 : decode cX4_giveRows 22 = .ok (.getfield 11, 3) := by decide +kernel
theorem dX4_giveRows_25 : decode cX4_giveRows 25 = .ok (.aload_n 1, 1) := by decide +kernel
theorem dX4_giveRows_26 : decode cX4_giveRows 26 = .ok (.iload_n 2, 1) := by decide +kernel
theorem dX4_giveRows_27 : decode cX4_giveRows 27 = .ok (.iaload, 1) := by decide +kernel
theorem dX4_giveRows_28 : decode cX4_giveRows 28 = .ok (.aaload, 1) := by decide +kernel
theorem dX4_giveRows_29 : decode cX4_giveRows 29 = .ok (.aastore, 1) := by decide +kernel
theorem dX4_giveRows_30 : decode cX4_giveRows 30 = .ok (.iinc 2 1, 3) := by decide +kernel
theorem dX4_giveRows_33 : decode cX4_giveRows 33 = .ok (.goto (-31), 3) := by decide +kernel
theorem dX4_giveRows_36 : decode cX4_giveRows 36 = .ok (.return_, 1) := by decide +kernel
theorem dX4_toNextTurns_0 : decode cX4_toNextTurns 0 = .ok (.iload_n 1, 1) := by decide +kernel
theorem dX4_toNextTurns_1 : decode cX4_toNextTurns 1 = .ok (.iconst 2, 1) := by decide +kernel
theorem dX4_toNextTurns_2 : decode cX4_toNextTurns 2 = .ok (.isub, 1) := by decide +kernel
theorem dX4_toNextTurns_3 : decode cX4_toNextTurns 3 = .ok (.istore_n 2, 1) := by decide +kernel
theorem dX4_toNextTurns_4 : decode cX4_toNextTurns 4 = .ok (.iload_n 2, 1) := by decide +kernel
theorem dX4_toNextTurns_5 : decode cX4_toNextTurns 5 = .ok (.ifCond .lt 26, 3) := by decide +kernel
theorem dX4_toNextTurns_8 : decode cX4_toNextTurns 8 = .ok (.aload_n 0, 1) := by decide +kernel
theorem dX4_toNextTurns_9 : decode cX4_toNextTurns 9 = .ok (.getfield 17, 3) := by decide +kernel
theorem dX4_toNextTurns_12 : decode cX4_toNextTurns 12 = .ok (.iload_n 2, 1) := by decide +kernel
theorem dX4_toNextTurns_13 : decode cX4_toNextTurns 13 = .ok (.iaload, 1) := by decide +kernel
theorem dX4_toNextTurns_14 : decode cX4_toNextTurns 14 = .ok (.aload_n 0, 1) := by decide +kernel
theorem dX4_toNextTurns_15 : decode cX4_toNextTurns 15 = .ok (.getfield 17, 3) := by decide +kernel
theorem dX4_toNextTurns_18 : decode cX4_toNextTurns 18 = .ok (.iload_n 2, 1) := by decide +kernel
theorem dX4_toNextTurns_19 : decode cX4_toNextTurns 19 = .ok (.iconst 1, 1) := by decide +kernel
theorem dX4_toNextTurns_20 : decode cX4_toNextTurns 20 = .ok (.iadd, 1) := by decide +kernel
theorem dX4_toNextTurns_21 : decode cX4_toNextTurns 21 = .ok (.iaload, 1) := by decide +kernel
theorem dX4_toNextTurns_22 : decode cX4_toNextTurns 22 = .ok (.if_icmp .le 9, 3) := by decide +kernel
theorem dX4_toNextTurns_25 : decode cX4_toNextTurns 25 = .ok (.iinc 2 (-1), 3) := by decide +kernel
theorem dX4_toNextTurns_28 : decode cX4_toNextTurns 28 = .ok (.goto (-24), 3) := by decide +kernel
theorem dX4_toNextTurns_31 : decode cX4_toNextTurns 31 = .ok (.iload_n 2, 1) := by decide +kernel
theorem dX4_toNextTurns_32 : decode cX4_toNextTurns 32 = .ok (.ifCond .ge 5, 3) := by decide +kernel
theorem dX4_toNextTurns_35 : decode cX4_toNextTurns 35 = .ok (.iconst 0, 1) := by decide +kernel
theorem dX4_toNextTurns_36 : decode cX4_toNextTurns 36 = .ok (.ireturn, 1) := by decide +kernel
theorem dX4_toNextTurns_37 : decode cX4_toNextTurns 37 = .ok (.iload_n 1, 1) := by decide +kernel
theorem dX4_toNextTurns_38 : decode cX4_toNextTurns 38 = .ok (.iconst 1, 1) := by decide +kernel
theorem dX4_toNextTurns_39 : decode cX4_toNextTurns 39 = .ok (.isub, 1) := by decide +kernel
theorem dX4_toNextTurns_40 : decode cX4_toNextTurns 40 = .ok (.istore_n 3, 1) := by decide +kernel
theorem dX4_toNextTurns_41 : decode cX4_toNextTurns 41 = .ok (.iload_n 3, 1) := by decide +kernel
theorem dX4_toNextTurns_42 : decode cX4_toNextTurns 42 = .ok (.iload_n 2, 1) := by decide +kernel
theorem dX4_toNextTurns_43 : decode cX4_toNextTurns 43 = .ok (.if_icmp .le 24, 3) := by decide +kernel
theorem dX4_toNextTurns_46 : decode cX4_toNextTurns 46 = .ok (.aload_n 0, 1) := by decide +kernel
theorem dX4_toNextTurns_47 : decode cX4_toNextTurns 47 = .ok (.getfield 17, 3) := by decide +kernel
theorem dX4_toNextTurns_50 : decode cX4_toNextTurns 50 = .ok (.iload_n 3, 1) := by decide +kernel
theorem dX4_toNextTurns_51 : decode cX4_toNextTurns 51 = .ok (.iaload, 1) := by decide +kernel
theorem dX4_toNextTurns_52 : decode cX4_toNextTurns 52 = .ok (.aload_n 0, 1) := by decide +kernel
theorem dX4_toNextTurns_53 : decode cX4_toNextTurns 53 = .ok (.getfield 17, 3) := by decide +kernel
theorem dX4_toNextTurns_56 : decode cX4_toNextTurns 56 = .ok (.iload_n 2, 1) := by decide +kernel
theorem dX4_toNextTurns_57 : decode cX4_toNextTurns 57 = .ok (.iaload, 1) := by decide +kernel
theorem dX4_toNextTurns_58 : decode cX4_toNextTurns 58 = .ok (.if_icmp .ge 9, 3) := by decide +kernel
theorem dX4_toNextTurns_61 : decode cX4_toNextTurns 61 = .ok (.iinc 3 (-1), 3) := by decide +kernel
theorem dX4_toNextTurns_64 : decode cX4_toNextTurns 64 = .ok (.goto (-23), 3) := by decide +kernel
theorem dX4_toNextTurns_67 : decode cX4_toNextTurns 67 = .ok (.aload_n 0, 1) := by decide +kernel
theorem dX4_toNextTurns_68 : decode cX4_toNextTurns 68 = .ok (.iload_n 2, 1) := by decide +kernel
theorem dX4_toNextTurns_69 : decode cX4_toNextTurns 69 = .ok (.iload_n 3, 1) := by decide +kernel
theorem dX4_toNextTurns_70 : decode cX4_toNextTurns 70 = .ok (.invokevirtual 127, 3) := by decide +kernel
theorem dX4_toNextTurns_73 : decode cX4_toNextTurns 73 = .ok (.iload_n 1, 1) := by decide +kernel
theorem dX4_toNextTurns_74 : decode cX4_toNextTurns 74 = .ok (.iconst 1, 1) := by decide +kernel
theorem dX4_toNextTurns_75 : decode cX4_toNextTurns 75 = .ok (.isub, 1) := by decide +kernel
theorem dX4_toNextTurns_76 : decode cX4_toNextTurns 76 = .ok (.iload_n 2, 1) := by decide +kernel
theorem dX4_toNextTurns_77 : decode cX4_toNextTurns 77 = .ok (.isub, 1) := by decide +kernel
theorem dX4_toNextTurns_78 : decode cX4_toNextTurns 78 = .ok (.istore 4, 2) := by decide +kernel
theorem dX4_toNextTurns_80 : decode cX4_toNextTurns 80 = .ok (.iconst 0, 1) := by decide +kernel
theorem dX4_toNextTurns_81 : decode cX4_toNextTurns 81 = .ok (.istore 5, 2) := by decide +kernel
theorem dX4_toNextTurns_83 : decode cX4_toNextTurns 83 = .ok (.iload 5, 2) := by decide +kernel
theorem dX4_toNextTurns_85 : decode cX4_toNextTurns 85 = .ok (.iload 4, 2) := by decide +kernel
theorem dX4_toNextTurns_87 : decode cX4_toNextTurns 87 = .ok (.iconst 2, 1) := by decide +kernel
theorem dX4_toNextTurns_88 : decode cX4_toNextTurns 88 = .ok (.idiv, 1) := by decide +kernel
theorem dX4_toNextTurns_89 : decode cX4_toNextTurns 89 = .ok (.if_icmp .ge 25, 3) := by decide +kernel
theorem dX4_toNextTurns_92 : decode cX4_toNextTurns 92 = .ok (.aload_n 0, 1) := by decide +kernel
theorem dX4_toNextTurns_93 : decode cX4_toNextTurns 93 = .ok (.iload_n 2, 1) := by decide +kernel
theorem dX4_toNextTurns_94 : decode cX4_toNextTurns 94 = .ok (.iconst 1, 1) := by decide +kernel
theorem dX4_toNextTurns_95 : decode cX4_toNextTurns 95 = .ok (.iadd, 1) := by decide +kernel
theorem dX4_toNextTurns_96 : decode cX4_toNextTurns 96 = .ok (.iload 5, 2) := by decide +kernel
theorem dX4_toNextTurns_98 : decode cX4_toNextTurns 98 = .ok (.iadd, 1) := by decide +kernel
theorem dX4_toNextTurns_99 : decode cX4_toNextTurns 99 = .ok (.iload_n 1, 1) := by decide +kernel
theorem dX4_toNextTurns_100 : decode cX4_toNextTurns 100 = .ok (.iconst 1, 1) := by decide +kernel
theorem dX4_toNextTurns_101 : decode cX4_toNextTurns 101 = .ok (.isub, 1) := by decide +kernel
theorem dX4_toNextTurns_102 : decode cX4_toNextTurns 102 = .ok (.iload 5, 2) := by decide +kernel
theorem dX4_toNextTurns_104 : decode cX4_toNextTurns 104 = .ok (.isub, 1) := by decide +kernel
theorem dX4_toNextTurns_105 : decode cX4_toNextTurns 105 = .ok (.invokevirtual 127, 3) := by decide +kernel
theorem dX4_toNextTurns_108 : decode cX4_toNextTurns 108 = .ok (.iinc 5 1, 3) := by decide +kernel
theorem dX4_toNextTurns_111 : decode cX4_toNextTurns 111 = .ok (.goto (-28), 3) := by decide +kernel
theorem dX4_toNextTurns_114 : decode cX4_toNextTurns 114 = .ok (.iconst 1, 1) := by decide +kernel
theorem dX4_toNextTurns_115 : decode cX4_toNextTurns 115 = .ok (.ireturn, 1) := by decide +kernel
theorem dX4_swapTurns_0 : decode cX4_swapTurns 0 = .ok (.aload_n 0, 1) := by decide +kernel
theorem dX4_swapTurns_1 : decode cX4_swapTurns 1 = .ok (.getfield 17, 3) := by decide +kernel
theorem dX4_swapTurns_4 : decode cX4_swapTurns 4 = .ok (.iload_n 1, 1) := by decide +kernel
theorem dX4_swapTurns_5 : decode cX4_swapTurns 5 = .ok (.iaload, 1) := by decide +kernel
theorem dX4_swapTurns_6 : decode cX4_swapTurns 6 = .ok (.istore_n 3, 1) := by decide +kernel
theorem dX4_swapTurns_7 : decode cX4_swapTurns 7 = .ok (.aload_n 0, 1) := by decide +kernel
theorem dX4_swapTurns_8 : decode cX4_swapTurns 8 = .ok (.getfield 17, 3) := by decide +kernel
theorem dX4_swapTurns_11 : decode cX4_swapTurns 11 = .ok (.iload_n 1, 1) := by decide +kernel
theorem dX4_swapTurns_12 : decode cX4_swapTurns 12 = .ok (.aload_n 0, 1) := by decide +kernel
theorem dX4_swapTurns_13 : decode cX4_swapTurns 13 = .ok (.getfield 17, 3) := by decide +kernel
theorem dX4_swapTurns_16 : decode cX4_swapTurns 16 = .ok (.iload_n 2, 1) := by decide +kernel
theorem dX4_swapTurns_17 : decode cX4_swapTurns 17 = .ok (.iaload, 1) := by decide +kernel
theorem dX4_swapTurns_18 : decode cX4_swapTurns 18 = .ok (.iastore, 1) := by decide +kernel
theorem dX4_swapTurns_19 : decode cX4_swapTurns 19 = .ok (.aload_n 0, 1) := by decide +kernel
theorem dX4_swapTurns_20 : decode cX4_swapTurns 20 = .ok (.getfield 17, 3) := by decide +kernel
theorem dX4_swapTurns_23 : decode cX4_swapTurns 23 = .ok (.iload_n 2, 1) := by decide +kernel
theorem dX4_swapTurns_24 : decode cX4_swapTurns 24 = .ok (.iload_n 3, 1) := by decide +kernel
theorem dX4_swapTurns_25 : decode cX4_swapTurns 25 = .ok (.iastore, 1) := by decide +kernel
theorem dX4_swapTurns_26 : decode cX4_swapTurns 26 = .ok (.return_, 1) := by decide +kernel
theorem dX4_clearOutScenes_0 : decode cX4_clearOutScenes 0 = .ok (.aload_n 0, 1) := by decide +kernel
theorem dX4_clearOutScenes_1 : decode cX4_clearOutScenes 1 = .ok (.getfield 28, 3) := by decide +kernel
theorem dX4_clearOutScenes_4 : decode cX4_clearOutScenes 4 = .ok (.getfield 45, 3) := by decide +kernel
theorem dX4_clearOutScenes_7 : decode cX4_clearOutScenes 7 = .ok (.iload_n 1, 1) := by decide +kernel
theorem dX4_clearOutScenes_8 : decode cX4_clearOutScenes 8 = .ok (.aaload, 1) := by decide +kernel
theorem dX4_clearOutScenes_9 : decode cX4_clearOutScenes 9 = .ok (.getfield 54, 3) := by decide +kernel
theorem dX4_clearOutScenes_12 : decode cX4_clearOutScenes 12 = .ok (.istore_n 2, 1) := by decide +kernel
theorem dX4_clearOutScenes_13 : decode cX4_clearOutScenes 13 = .ok (.iconst 0, 1) := by decide +kernel
theorem dX4_clearOutScenes_14 : decode cX4_clearOutScenes 14 = .ok (.istore_n 3, 1) := by decide +kernel
theorem dX4_clearOutScenes_15 : decode cX4_clearOutScenes 15 = .ok (.iconst 0, 1) := by decide +kernel
theorem dX4_clearOutScenes_16 : decode cX4_clearOutScenes 16 = .ok (.istore 4, 2) := by decide +kernel
theorem dX4_clearOutScenes_18 : decode cX4_clearOutScenes 18 = .ok (.iload 4, 2) := by decide +kernel
theorem dX4_clearOutScenes_20 : decode cX4_clearOutScenes 20 = .ok (.aload_n 0, 1) := by decide +kernel
theorem dX4_clearOutScenes_21 : decode cX4_clearOutScenes 21 = .ok (.getfield 24, 3) := by decide +kernel
theorem dX4_clearOutScenes_24 : decode cX4_clearOutScenes 24 = .ok (.getfield 95, 3) := by decide +kernel
theorem dX4_clearOutScenes_27 : decode cX4_clearOutScenes 27 = .ok (.if_icmp .ge 42, 3) := by decide +kernel
theorem dX4_clearOutScenes_30 : decode cX4_clearOutScenes 30 = .ok (.iload_n 2, 1) := by decide +kernel
theorem dX4_clearOutScenes_31 : decode cX4_clearOutScenes 31 = .ok (.iload 4, 2) := by decide +kernel
theorem dX4_clearOutScenes_33 : decode cX4_clearOutScenes 33 = .ok (.invokestatic 130, 3) := by decide +kernel
theorem dX4_clearOutScenes_36 : decode cX4_clearOutScenes 36 = .ok (.ifCond .eq 27, 3) := by decide +kernel
theorem dX4_clearOutScenes_39 : decode cX4_clearOutScenes 39 = .ok (.aload_n 0, 1) := by decide +kernel
theorem dX4_clearOutScenes_40 : decode cX4_clearOutScenes 40 = .ok (.getfield 24, 3) := by decide +kernel
theorem dX4_clearOutScenes_43 : decode cX4_clearOutScenes 43 = .ok (.getfield 134, 3) := by decide +kernel
theorem dX4_clearOutScenes_46 : decode cX4_clearOutScenes 46 = .ok (.iload 4, 2) := by decide +kernel
theorem dX4_clearOutScenes_48 : decode cX4_clearOutScenes 48 = .ok (.iaload, 1) := by decide +kernel
theorem dX4_clearOutScenes_49 : decode cX4_clearOutScenes 49 = .ok (.iconst 1, 1) := by decide +kernel
theorem dX4_clearOutScenes_50 : decode cX4_clearOutScenes 50 = .ok (.if_icmp .ne 13, 3) := by decide +kernel
theorem dX4_clearOutScenes_53 : decode cX4_clearOutScenes 53 = .ok (.aload_n 0, 1) := by decide +kernel
theorem dX4_clearOutScenes_54 : decode cX4_clearOutScenes 54 = .ok (.iload 4, 2) := by decide +kernel
theorem dX4_clearOutScenes_56 : decode cX4_clearOutScenes 56 = .ok (.iload_n 1, 1) := by decide +kernel
theorem dX4_clearOutScenes_57 : decode cX4_clearOutScenes 57 = .ok (.invokevirtual 110, 3) := by decide +kernel
theorem dX4_clearOutScenes_60 : decode cX4_clearOutScenes 60 = .ok (.iinc 3 1, 3) := by decide +kernel
theorem dX4_clearOutScenes_63 : decode cX4_clearOutScenes 63 = .ok (.iinc 4 1, 3) := by decide +kernel
theorem dX4_clearOutScenes_66 : decode cX4_clearOutScenes 66 = .ok (.goto (-48), 3) := by decide +kernel
theorem dX4_clearOutScenes_69 : decode cX4_clearOutScenes 69 = .ok (.iload_n 3, 1) := by decide +kernel
theorem dX4_clearOutScenes_70 : decode cX4_clearOutScenes 70 = .ok (.ireturn, 1) := by decide +kernel
theorem dX4_fillWithIndoorScenes_0 : decode cX4_fillWithIndoorScenes 0 = .ok (.iconst 0, 1) := by decide +kernel
theorem dX4_fillWithIndoorScenes_1 : decode cX4_fillWithIndoorScenes 1 = .ok (.istore_n 2, 1) := by decide +kernel
theorem dX4_fillWithIndoorScenes_2 : decode cX4_fillWithIndoorScenes 2 = .ok (.iconst 0, 1) := by decide +kernel
theorem dX4_fillWithIndoorScenes_3 : decode cX4_fillWithIndoorScenes 3 = .ok (.istore_n 3, 1) := by decide +kernel
theorem dX4_fillWithIndoorScenes_4 : decode cX4_fillWithIndoorScenes 4 = .ok (.iload_n 3, 1) := by decide +kernel
theorem dX4_fillWithIndoorScenes_5 : decode cX4_fillWithIndoorScenes 5 = .ok (.aload_n 0, 1) := by decide +kernel
theorem dX4_fillWithIndoorScenes_6 : decode cX4_fillWithIndoorScenes 6 = .ok (.getfield 24, 3) := by decide +kernel
theorem dX4_fillWithIndoorScenes_9 : decode cX4_fillWithIndoorScenes 9 = .ok (.getfield 95, 3) := by decide +kernel
theorem dX4_fillWithIndoorScenes_12 : decode cX4_fillWithIndoorScenes 12 = .ok (.if_icmp .ge 57, 3) := by decide +kernel
theorem dX4_fillWithIndoorScenes_15 : decode cX4_fillWithIndoorScenes 15 = .ok (.aload_n 0, 1) := by decide +kernel
theorem dX4_fillWithIndoorScenes_16 : decode cX4_fillWithIndoorScenes 16 = .ok (.getfield 24, 3) := by decide +kernel
theorem dX4_fillWithIndoorScenes_19 : decode cX4_fillWithIndoorScenes 19 = .ok (.getfield 134, 3) := by decide +kernel
theorem dX4_fillWithIndoorScenes_22 : decode cX4_fillWithIndoorScenes 22 = .ok (.iload_n 3, 1) := by decide +kernel
theorem dX4_fillWithIndoorScenes_23 : decode cX4_fillWithIndoorScenes 23 = .ok (.iaload, 1) := by decide +kernel
theorem dX4_fillWithIndoorScenes_24 : decode cX4_fillWithIndoorScenes 24 = .ok (.ifCond .ne 19, 3) := by decide +kernel
theorem dX4_fillWithIndoorScenes_27 : decode cX4_fillWithIndoorScenes 27 = .ok (.aload_n 0, 1) := by decide +kernel
theorem dX4_fillWithIndoorScenes_28 : decode cX4_fillWithIndoorScenes 28 = .ok (.getfield 28, 3) := by decide +kernel
theorem dX4_fillWithIndoorScenes_31 : decode cX4_fillWithIndoorScenes 31 = .ok (.iload_n 3, 1) := by decide +kernel
theorem dX4_fillWithIndoorScenes_32 : decode cX4_fillWithIndoorScenes 32 = .ok (.invokevirtual 99, 3) := by decide +kernel
theorem dX4_fillWithIndoorScenes_35 : decode cX4_fillWithIndoorScenes 35 = .ok (.iconst (-1), 1) := by decide +kernel
theorem dX4_fillWithIndoorScenes_36 : decode cX4_fillWithIndoorScenes 36 = .ok (.if_icmp .ne 7, 3) := by decide +kernel
theorem dX4_fillWithIndoorScenes_39 : decode cX4_fillWithIndoorScenes 39 = .ok (.iconst 1, 1) := by decide +kernel
theorem dX4_fillWithIndoorScenes_40 : decode cX4_fillWithIndoorScenes 40 = .ok (.goto 4, 3) := by decide +kernel
theorem dX4_fillWithIndoorScenes_43 : decode cX4_fillWithIndoorScenes 43 = .ok (.iconst 0, 1) := by decide +kernel
theorem dX4_fillWithIndoorScenes_44 : decode cX4_fillWithIndoorScenes 44 = .ok (.istore 4, 2) := by decide +kernel
theorem dX4_fillWithIndoorScenes_46 : decode cX4_fillWithIndoorScenes 46 = .ok (.iload 4, 2) := by decide +kernel
theorem dX4_fillWithIndoorScenes_48 : decode cX4_fillWithIndoorScenes 48 = .ok (.ifCond .eq 15, 3) := by decide +kernel
theorem dX4_fillWithIndoorScenes_51 : decode cX4_fillWithIndoorScenes 51 = .ok (.aload_n 0, 1) := by decide +kernel
theorem dX4_fillWithIndoorScenes_52 : decode cX4_fillWithIndoorScenes 52 = .ok (.iload_n 3, 1) := by decide +kernel
theorem dX4_fillWithIndoorScenes_53 : decode cX4_fillWithIndoorScenes 53 = .ok (.iload_n 1, 1) := by decide +kernel
theorem dX4_fillWithIndoorScenes_54 : decode cX4_fillWithIndoorScenes 54 = .ok (.invokevirtual 69, 3) := by decide +kernel
theorem dX4_fillWithIndoorScenes_57 : decode cX4_fillWithIndoorScenes 57 = .ok (.ifCond .ne 6, 3) := by decide +kernel
theorem dX4_fillWithIndoorScenes_60 : decode cX4_fillWithIndoorScenes 60 = .ok (.iinc 2 1, 3) := by decide +kernel
theorem dX4_fillWithIndoorScenes_63 : decode cX4_fillWithIndoorScenes 63 = .ok (.iinc 3 1, 3) := by decide +kernel
theorem dX4_fillWithIndoorScenes_66 : decode cX4_fillWithIndoorScenes 66 = .ok (.goto (-62), 3) := by decide +kernel
theorem dX4_fillWithIndoorScenes_69 : decode cX4_fillWithIndoorScenes 69 = .ok (.iload_n 2, 1) := by decide +kernel
theorem dX4_fillWithIndoorScenes_70 : decode cX4_fillWithIndoorScenes 70 = .ok (.ireturn, 1) := by decide +kernel
theorem dX5_init_0 : decode cX5_init 0 = .ok (.aload_n 0, 1) := by decide +kernel
theorem dX5_init_1 : decode cX5_init 1 = .ok (.invokespecial 3, 3) := by decide +kernel
theorem dX5_init_4 : decode cX5_init 4 = .ok (.aload_n 0, 1) := by decide +kernel
theorem dX5_init_5 : decode cX5_init 5 = .ok (.iconst 5, 1) := by decide +kernel
theorem dX5_init_6 : decode cX5_init 6 = .ok (.newarray .int, 2) := by decide +kernel
theorem dX5_init_8 : decode cX5_init 8 = .ok (.putfield 9, 3) := by decide +kernel
theorem dX5_init_11 : decode cX5_init 11 = .ok (.aload_n 0, 1) := by decide +kernel
theorem dX5_init_12 : decode cX5_init 12 = .ok (.iconst 1, 1) := by decide +kernel
theorem dX5_init_13 : decode cX5_init 13 = .ok (.putfield 15, 3) := by decide +kernel
theorem dX5_init_16 : decode cX5_init 16 = .ok (.return_, 1) := by decide +kernel
theorem dX5_sceneAt_0 : decode cX5_sceneAt 0 = .ok (.iload_n 1, 1) := by decide +kernel
theorem dX5_sceneAt_1 : decode cX5_sceneAt 1 = .ok (.ifCond .lt 20, 3) := by decide +kernel
theorem dX5_sceneAt_4 : decode cX5_sceneAt 4 = .ok (.iload_n 1, 1) := by decide +kernel
theorem dX5_sceneAt_5 : decode cX5_sceneAt 5 = .ok (.aload_n 0, 1) := by decide +kernel
theorem dX5_sceneAt_6 : decode cX5_sceneAt 6 = .ok (.getfield 19, 3) := by decide +kernel
theorem dX5_sceneAt_9 : decode cX5_sceneAt 9 = .ok (.if_icmp .ge 12, 3) := by decide +kernel
theorem dX5_sceneAt_12 : decode cX5_sceneAt 12 = .ok (.aload_n 0, 1) := by decide +kernel
theorem dX5_sceneAt_13 : decode cX5_sceneAt 13 = .ok (.getfield 9, 3) := by decide +kernel
theorem dX5_sceneAt_16 : decode cX5_sceneAt 16 = .ok (.iload_n 1, 1) := by decide +kernel
theorem dX5_sceneAt_17 : decode cX5_sceneAt 17 = .ok (.iaload, 1) := by decide +kernel
theorem dX5_sceneAt_18 : decode cX5_sceneAt 18 = .ok (.goto 4, 3) := by decide +kernel
theorem dX5_sceneAt_21 : decode cX5_sceneAt 21 = .ok (.iconst (-1), 1) := by decide +kernel
theorem dX5_sceneAt_22 : decode cX5_sceneAt 22 = .ok (.ireturn, 1) := by decide +kernel
theorem dX5_isFull_0 : decode cX5_isFull 0 = .ok (.aload_n 0, 1) := by decide +kernel
theorem dX5_isFull_1 : decode cX5_isFull 1 = .ok (.getfield 19, 3) := by decide +kernel
theorem dX5_isFull_4 : decode cX5_isFull 4 = .ok (.iconst 5, 1) := by decide +kernel
theorem dX5_isFull_5 : decode cX5_isFull 5 = .ok (.if_icmp .lt 7, 3) := by decide +kernel
theorem dX5_isFull_8 : decode cX5_isFull 8 = .ok (.iconst 1, 1) := by decide +kernel
theorem dX5_isFull_9 : decode cX5_isFull 9 = .ok (.goto 4, 3) := by decide +kernel
theorem dX5_isFull_12 : decode cX5_isFull 12 = .ok (.iconst 0, 1) := by decide +kernel
theorem dX5_isFull_13 : decode cX5_isFull 13 = .ok (.ireturn, 1) := by decide +kernel
theorem dX5_clear_0 : decode cX5_clear 0 = .ok (.aload_n 0, 1) := by decide +kernel
theorem dX5_clear_1 : decode cX5_clear 1 = .ok (.iconst 0, 1) := by decide +kernel
theorem dX5_clear_2 : decode cX5_clear 2 = .ok (.putfield 19, 3) := by decide +kernel
theorem dX5_clear_5 : decode cX5_clear 5 = .ok (.return_, 1) := by decide +kernel
theorem dX5_append_0 : decode cX5_append 0 = .ok (.aload_n 0, 1) := by decide +kernel
theorem dX5_append_1 : decode cX5_append 1 = .ok (.getfield 19, 3) := by decide +kernel
theorem dX5_append_4 : decode cX5_append 4 = .ok (.iconst 5, 1) := by decide +kernel
theorem dX5_append_5 : decode cX5_append 5 = .ok (.if_icmp .ge 23, 3) := by decide +kernel
theorem dX5_append_8 : decode cX5_append 8 = .ok (.aload_n 0, 1) := by decide +kernel
theorem dX5_append_9 : decode cX5_append 9 = .ok (.getfield 9, 3) := by decide +kernel
theorem dX5_append_12 : decode cX5_append 12 = .ok (.aload_n 0, 1) := by decide +kernel
theorem dX5_append_13 : decode cX5_append 13 = .ok (.getfield 19, 3) := by decide +kernel
theorem dX5_append_16 : decode cX5_append 16 = .ok (.iload_n 1, 1) := by decide +kernel
theorem dX5_append_17 : decode cX5_append 17 = .ok (.iastore, 1) := by decide +kernel
theorem dX5_append_18 : decode cX5_append 18 = .ok (.aload_n 0, 1) := by decide +kernel
theorem dX5_append_19 : decode cX5_append 19 = .ok (.dup, 1) := by decide +kernel
theorem dX5_append_20 : decode cX5_append 20 = .ok (.getfield 19, 3) := by decide +kernel
theorem dX5_append_23 : decode cX5_append 23 = .ok (.iconst 1, 1) := by decide +kernel
theorem dX5_append_24 : decode cX5_append 24 = .ok (.iadd, 1) := by decide +kernel
theorem dX5_append_25 : decode cX5_append 25 = .ok (.putfield 19, 3) := by decide +kernel
theorem dX5_append_28 : decode cX5_append 28 = .ok (.return_, 1) := by decide +kernel
theorem dX5_measure_0 : decode cX5_measure 0 = .ok (.aload_n 0, 1) := by decide +kernel
theorem dX5_measure_1 : decode cX5_measure 1 = .ok (.invokevirtual 23, 3) := by decide +kernel
theorem dX5_measure_4 : decode cX5_measure 4 = .ok (.iconst 0, 1) := by decide +kernel
theorem dX5_measure_5 : decode cX5_measure 5 = .ok (.istore_n 2, 1) := by decide +kernel
theorem dX5_measure_6 : decode cX5_measure 6 = .ok (.iload_n 2, 1) := by decide +kernel
theorem dX5_measure_7 : decode cX5_measure 7 = .ok (.aload_n 0, 1) := by decide +kernel
theorem dX5_measure_8 : decode cX5_measure 8 = .ok (.getfield 19, 3) := by decide +kernel
theorem dX5_measure_11 : decode cX5_measure 11 = .ok (.if_icmp .ge 51, 3) := by decide +kernel
theorem dX5_measure_14 : decode cX5_measure 14 = .ok (.aload_n 0, 1) := by decide +kernel
theorem dX5_measure_15 : decode cX5_measure 15 = .ok (.aload_n 1, 1) := by decide +kernel
theorem dX5_measure_16 : decode cX5_measure 16 = .ok (.aload_n 0, 1) := by decide +kernel
theorem dX5_measure_17 : decode cX5_measure 17 = .ok (.getfield 9, 3) := by decide +kernel
theorem dX5_measure_20 : decode cX5_measure 20 = .ok (.iload_n 2, 1) := by decide +kernel
theorem dX5_measure_21 : decode cX5_measure 21 = .ok (.iaload, 1) := by decide +kernel
theorem dX5_measure_22 : decode cX5_measure 22 = .ok (.invokevirtual 26, 3) := by decide +kernel
theorem dX5_measure_25 : decode cX5_measure 25 = .ok (.iload_n 2, 1) := by decide +kernel
theorem dX5_measure_26 : decode cX5_measure 26 = .ok (.ifCond .le 30, 3) := by decide +kernel
theorem dX5_measure_29 : decode cX5_measure 29 = .ok (.aload_n 0, 1) := by decide +kernel
theorem dX5_measure_30 : decode cX5_measure 30 = .ok (.dup, 1) := by decide +kernel
theorem dX5_measure_31 : decode cX5_measure 31 = .ok (.getfield 30, 3) := by decide +kernel
theorem dX5_measure_34 : decode cX5_measure 34 = .ok (.aload_n 1, 1) := by decide +kernel
theorem dX5_measure_35 : decode cX5_measure 35 = .ok (.aload_n 0, 1) := by decide +kernel
theorem dX5_measure_36 : decode cX5_measure 36 = .ok (.getfield 9, 3) := by decide +kernel
theorem dX5_measure_39 : decode cX5_measure 39 = .ok (.iload_n 2, 1) := by decide +kernel
theorem dX5_measure_40 : decode cX5_measure 40 = .ok (.iconst 1, 1) := by decide +kernel
theorem dX5_measure_41 : decode cX5_measure 41 = .ok (.isub, 1) := by decide +kernel
theorem dX5_measure_42 : decode cX5_measure 42 = .ok (.iaload, 1) := by decide +kernel
theorem dX5_measure_43 : decode cX5_measure 43 = .ok (.aload_n 0, 1) := by decide +kernel
theorem dX5_measure_44 : decode cX5_measure 44 = .ok (.getfield 9, 3) := by decide +kernel
theorem dX5_measure_47 : decode cX5_measure 47 = .ok (.iload_n 2, 1) := by decide +kernel
theorem dX5_measure_48 : decode cX5_measure 48 = .ok (.iaload, 1) := by decide +kernel
theorem dX5_measure_49 : decode cX5_measure 49 = .ok (.invokevirtual 33, 3) := by decide +kernel
theorem dX5_measure_52 : decode cX5_measure 52 = .ok (.iadd, 1) := by decide +kernel
theorem dX5_measure_53 : decode cX5_measure 53 = .ok (.putfield 30, 3) := by decide +kernel
theorem dX5_measure_56 : decode cX5_measure 56 = .ok (.iinc 2 1, 3) := by decide +kernel
theorem dX5_measure_59 : decode cX5_measure 59 = .ok (.goto (-53), 3) := by decide +kernel
theorem dX5_measure_62 : decode cX5_measure 62 = .ok (.aload_n 0, 1) := by decide +kernel
theorem dX5_measure_63 : decode cX5_measure 63 = .ok (.aload_n 0, 1) := by decide +kernel
theorem dX5_measure_64 : decode cX5_measure 64 = .ok (.aload_n 1, 1) := by decide +kernel
theorem dX5_measure_65 : decode cX5_measure 65 = .ok (.invokevirtual 39, 3) := by decide +kernel
theorem dX5_measure_68 : decode cX5_measure 68 = .ok (.putfield 15, 3) := by decide +kernel
theorem dX5_measure_71 : decode cX5_measure 71 = .ok (.return_, 1) := by decide +kernel
theorem dX5_forget_0 : decode cX5_forget 0 = .ok (.aload_n 0, 1) := by decide +kernel
theorem dX5_forget_1 : decode cX5_forget 1 = .ok (.iconst 0, 1) := by decide +kernel
theorem dX5_forget_2 : decode cX5_forget 2 = .ok (.putfield 43, 3) := by decide +kernel
theorem dX5_forget_5 : decode cX5_forget 5 = .ok (.aload_n 0, 1) := by decide +kernel
theorem dX5_forget_6 : decode cX5_forget 6 = .ok (.iconst 0, 1) := by decide +kernel
theorem dX5_forget_7 : decode cX5_forget 7 = .ok (.putfield 46, 3) := by decide +kernel
theorem dX5_forget_10 : decode cX5_forget 10 = .ok (.aload_n 0, 1) := by decide +kernel
theorem dX5_forget_11 : decode cX5_forget 11 = .ok (.iconst 0, 1) := by decide +kernel
theorem dX5_forget_12 : decode cX5_forget 12 = .ok (.putfield 30, 3) := by decide +kernel
theorem dX5_forget_15 : decode cX5_forget 15 = .ok (.aload_n 0, 1) := by decide +kernel
theorem dX5_forget_16 : decode cX5_forget 16 = .ok (.iconst 0, 1) := by decide +kernel
theorem dX5_forget_17 : decode cX5_forget 17 = .ok (.putfield 49, 3) := by decide +kernel
theorem dX5_forget_20 : decode cX5_forget 20 = .ok (.aload_n 0, 1) := by decide +kernel
theorem dX5_forget_21 : decode cX5_forget 21 = .ok (.iconst 0, 1) := by decide +kernel
theorem dX5_forget_22 : decode cX5_forget 22 = .ok (.putfield 52, 3) := by decide +kernel
theorem dX5_forget_25 : decode cX5_forget 25 = .ok (.aload_n 0, 1) := by decide +kernel
theorem dX5_forget_26 : decode cX5_forget 26 = .ok (.iconst 0, 1) := by decide +kernel
theorem dX5_forget_27 : decode cX5_forget 27 = .ok (.putfield 55, 3) := by decide +kernel
theorem dX5_forget_30 : decode cX5_forget 30 = .ok (.aload_n 0, 1) := by decide +kernel
theorem dX5_forget_31 : decode cX5_forget 31 = .ok (.iconst 0, 1) := by decide +kernel
theorem dX5_forget_32 : decode cX5_forget 32 = .ok (.putfield 58, 3) := by decide +kernel
theorem dX5_forget_35 : decode cX5_forget 35 = .ok (.return_, 1) := by decide +kernel
theorem dX5_measureScene_0 : decode cX5_measureScene 0 = .ok (.aload_n 0, 1) := by decide +kernel
theorem dX5_measureScene_1 : decode cX5_measureScene 1 = .ok (.dup, 1) := by decide +kernel
theorem dX5_measureScene_2 : decode cX5_measureScene 2 = .ok (.getfield 43, 3) := by decide +kernel
theorem dX5_measureScene_5 : decode cX5_measureScene 5 = .ok (.iconst 1, 1) := by decide +kernel
theorem dX5_measureScene_6 : decode cX5_measureScene 6 = .ok (.iload_n 2, 1) := by decide +kernel
theorem dX5_measureScene_7 : decode cX5_measureScene 7 = .ok (.ishl, 1) := by decide +kernel
theorem dX5_measureScene_8 : decode cX5_measureScene 8 = .ok (.ior, 1) := by decide +kernel
theorem dX5_measureScene_9 : decode cX5_measureScene 9 = .ok (.putfield 43, 3) := by decide +kernel
theorem dX5_measureScene_12 : decode cX5_measureScene 12 = .ok (.aload_n 0, 1) := by decide +kernel
theorem dX5_measureScene_13 : decode cX5_measureScene 13 = .ok (.dup, 1) := by decide +kernel
theorem dX5_measureScene_14 : decode cX5_measureScene 14 = .ok (.getfield 46, 3) := by decide +kernel
theorem dX5_measureScene_17 : decode cX5_measureScene 17 = .ok (.aload_n 1, 1) := by decide +kernel
theorem dX5_measureScene_18 : decode cX5_measureScene 18 = .ok (.getfield 61, 3) := by decide +kernel
theorem dX5_measureScene_21 : decode cX5_measureScene 21 = .ok (.iload_n 2, 1) := by decide +kernel
theorem dX5_measureScene_22 : decode cX5_measureScene 22 = .ok (.iaload, 1) := by decide +kernel
theorem dX5_measureScene_23 : decode cX5_measureScene 23 = .ok (.ior, 1) := by decide +kernel
theorem dX5_measureScene_24 : decode cX5_measureScene 24 = .ok (.putfield 46, 3) := by decide +kernel
theorem dX5_measureScene_27 : decode cX5_measureScene 27 = .ok (.aload_n 0, 1) := by decide +kernel
theorem dX5_measureScene_28 : decode cX5_measureScene 28 = .ok (.dup, 1) := by decide +kernel
theorem dX5_measureScene_29 : decode cX5_measureScene 29 = .ok (.getfield 30, 3) := by decide +kernel
theorem dX5_measureScene_32 : decode cX5_measureScene 32 = .ok (.aload_n 1, 1) := by decide +kernel
theorem dX5_measureScene_33 : decode cX5_measureScene 33 = .ok (.getfield 63, 3) := by decide +kernel
theorem dX5_measureScene_36 : decode cX5_measureScene 36 = .ok (.iload_n 2, 1) := by decide +kernel
theorem dX5_measureScene_37 : decode cX5_measureScene 37 = .ok (.iaload, 1) := by decide +kernel
theorem dX5_measureScene_38 : decode cX5_measureScene 38 = .ok (.iadd, 1) := by decide +kernel
theorem dX5_measureScene_39 : decode cX5_measureScene 39 = .ok (.putfield 30, 3) := by decide +kernel
theorem dX5_measureScene_42 : decode cX5_measureScene 42 = .ok (.aload_n 0, 1) := by decide +kernel
theorem dX5_measureScene_43 : decode cX5_measureScene 43 = .ok (.dup, 1) := by decide +kernel
theorem dX5_measureScene_44 : decode cX5_measureScene 44 = .ok (.getfield 52, 3) := by decide +kernel
theorem dX5_measureScene_47 : decode cX5_measureScene 47 = .ok (.aload_n 1, 1) := by decide +kernel
theorem dX5_measureScene_48 : decode cX5_measureScene 48 = .ok (.getfield 65, 3) := by decide +kernel
theorem dX5_measureScene_51 : decode cX5_measureScene 51 = .ok (.iload_n 2, 1) := by decide +kernel
theorem dX5_measureScene_52 : decode cX5_measureScene 52 = .ok (.iaload, 1) := by decide +kernel
theorem dX5_measureScene_53 : decode cX5_measureScene 53 = .ok (.ior, 1) := by decide +kernel
theorem dX5_measureScene_54 : decode cX5_measureScene 54 = .ok (.putfield 52, 3) := by decide +kernel
theorem dX5_measureScene_57 : decode cX5_measureScene 57 = .ok (.aload_n 0, 1) := by decide +kernel
theorem dX5_measureScene_58 : decode cX5_measureScene 58 = .ok (.dup, 1) := by decide +kernel
theorem dX5_measureScene_59 : decode cX5_measureScene 59 = .ok (.getfield 55, 3) := by decide +kernel
theorem dX5_measureScene_62 : decode cX5_measureScene 62 = .ok (.iconst 1, 1) := by decide +kernel
theorem dX5_measureScene_63 : decode cX5_measureScene 63 = .ok (.aload_n 1, 1) := by decide +kernel
theorem dX5_measureScene_64 : decode cX5_measureScene 64 = .ok (.getfield 67, 3) := by decide +kernel
theorem dX5_measureScene_67 : decode cX5_measureScene 67 = .ok (.iload_n 2, 1) := by decide +kernel
theorem dX5_measureScene_68 : decode cX5_measureScene 68 = .ok (.iaload, 1) := by decide +kernel
theorem dX5_measureScene_69 : decode cX5_measureScene 69 = .ok (.ishl, 1) := by decide +kernel
theorem dX5_measureScene_70 : decode cX5_measureScene 70 = .ok (.ior, 1) := by decide +kernel
theorem dX5_measureScene_71 : decode cX5_measureScene 71 = .ok (.putfield 55, 3) := by decide +kernel
theorem dX5_measureScene_74 : decode cX5_measureScene 74 = .ok (.aload_n 1, 1) := by decide +kernel
theorem dX5_measureScene_75 : decode cX5_measureScene 75 = .ok (.getfield 70, 3) := by decide +kernel
theorem dX5_measureScene_78 : decode cX5_measureScene 78 = .ok (.iload_n 2, 1) := by decide +kernel
theorem dX5_measureScene_79 : decode cX5_measureScene 79 = .ok (.iaload, 1) := by decide +kernel
theorem dX5_measureScene_80 : decode cX5_measureScene 80 = .ok (.iconst 1, 1) := by decide +kernel
theorem dX5_measureScene_81 : decode cX5_measureScene 81 = .ok (.if_icmp .ne 18, 3) := by decide +kernel
theorem dX5_measureScene_84 : decode cX5_measureScene 84 = .ok (.aload_n 0, 1) := by decide +kernel
theorem dX5_measureScene_85 : decode cX5_measureScene 85 = .ok (.dup, 1) := by decide +kernel
theorem dX5_measureScene_86 : decode cX5_measureScene 86 = .ok (.getfield 49, 3) := by decide +kernel
theorem dX5_measureScene_89 : decode cX5_measureScene 89 = .ok (.aload_n 1, 1) := by decide +kernel
theorem dX5_measureScene_90 : decode cX5_measureScene 90 = .ok (.getfield 63, 3) := by decide +kernel
theorem dX5_measureScene_93 : decode cX5_measureScene 93 = .ok (.iload_n 2, 1) := by decide +kernel
theorem dX5_measureScene_94 : decode cX5_measureScene 94 = .ok (.iaload, 1) := by decide +kernel
theorem dX5_measureScene_95 : decode cX5_measureScene 95 = .ok (.iadd, 1) := by decide +kernel
theorem dX5_measureScene_96 : decode cX5_measureScene 96 = .ok (.putfield 49, 3) := by decide +kernel
theorem dX5_measureScene_99 : decode cX5_measureScene 99 = .ok (.aload_n 1, 1) := by decide +kernel
theorem dX5_measureScene_100 : decode cX5_measureScene 100 = .ok (.getfield 70, 3) := by decide +kernel
theorem dX5_measureScene_103 : decode cX5_measureScene 103 = .ok (.iload_n 2, 1) := by decide +kernel
theorem dX5_measureScene_104 : decode cX5_measureScene 104 = .ok (.iaload, 1) := by decide +kernel
theorem dX5_measureScene_105 : decode cX5_measureScene 105 = .ok (.iconst 2, 1) := by decide +kernel
theorem dX5_measureScene_106 : decode cX5_measureScene 106 = .ok (.if_icmp .ne 8, 3) := by decide +kernel
theorem dX5_measureScene_109 : decode cX5_measureScene 109 = .ok (.aload_n 0, 1) := by decide +kernel
theorem dX5_measureScene_110 : decode cX5_measureScene 110 = .ok (.iconst 1, 1) := by decide +kernel
theorem dX5_measureScene_111 : decode cX5_measureScene 111 = .ok (.putfield 58, 3) := by decide +kernel
theorem dX5_measureScene_114 : decode cX5_measureScene 114 = .ok (.return_, 1) := by decide +kernel
theorem dX5_isInTurn_0 : decode cX5_isInTurn 0 = .ok (.aload_n 0, 1) := by decide +kernel
theorem dX5_isInTurn_1 : decode cX5_isInTurn 1 = .ok (.getfield 43, 3) := by decide +kernel
theorem dX5_isInTurn_4 : decode cX5_isInTurn 4 = .ok (.istore_n 2, 1) := by decide +kernel
theorem dX5_isInTurn_5 : decode cX5_isInTurn 5 = .ok (.iconst 0, 1) := by decide +kernel
theorem dX5_isInTurn_6 : decode cX5_isInTurn 6 = .ok (.istore_n 3, 1) := by decide +kernel
theorem dX5_isInTurn_7 : decode cX5_isInTurn 7 = .ok (.iload_n 3, 1) := by decide +kernel
theorem dX5_isInTurn_8 : decode cX5_isInTurn 8 = .ok (.aload_n 0, 1) := by decide +kernel
theorem dX5_isInTurn_9 : decode cX5_isInTurn 9 = .ok (.getfield 19, 3) := by decide +kernel
theorem dX5_isInTurn_12 : decode cX5_isInTurn 12 = .ok (.if_icmp .ge 40, 3) := by decide +kernel
theorem dX5_isInTurn_15 : decode cX5_isInTurn 15 = .ok (.aload_n 1, 1) := by decide +kernel
theorem dX5_isInTurn_16 : decode cX5_isInTurn 16 = .ok (.getfield 61, 3) := by decide +kernel
theorem dX5_isInTurn_19 : decode cX5_isInTurn 19 = .ok (.aload_n 0, 1) := by decide +kernel
theorem dX5_isInTurn_20 : decode cX5_isInTurn 20 = .ok (.getfield 9, 3) := by decide +kernel
theorem dX5_isInTurn_23 : decode cX5_isInTurn 23 = .ok (.iload_n 3, 1) := by decide +kernel
theorem dX5_isInTurn_24 : decode cX5_isInTurn 24 = .ok (.iaload, 1) := by decide +kernel
theorem dX5_isInTurn_25 : decode cX5_isInTurn 25 = .ok (.iaload, 1) := by decide +kernel
theorem dX5_isInTurn_26 : decode cX5_isInTurn 26 = .ok (.iload_n 2, 1) := by decide +kernel
theorem dX5_isInTurn_27 : decode cX5_isInTurn 27 = .ok (.iand, 1) := by decide +kernel
theorem dX5_isInTurn_28 : decode cX5_isInTurn 28 = .ok (.ifCond .eq 5, 3) := by decide +kernel
theorem dX5_isInTurn_31 : decode cX5_isInTurn 31 = .ok (.iconst 0, 1) := by decide +kernel
theorem dX5_isInTurn_32 : decode cX5_isInTurn 32 = .ok (.ireturn, 1) := by decide +kernel
theorem dX5_isInTurn_33 : decode cX5_isInTurn 33 = .ok (.iload_n 2, 1) := by decide +kernel
theorem dX5_isInTurn_34 : decode cX5_isInTurn 34 = .ok (.iconst 1, 1) := by decide +kernel
theorem dX5_isInTurn_35 : decode cX5_isInTurn 35 = .ok (.aload_n 0, 1) := by decide +kernel
theorem dX5_isInTurn_36 : decode cX5_isInTurn 36 = .ok (.getfield 9, 3) := by decide +kernel
theorem dX5_isInTurn_39 : decode cX5_isInTurn 39 = .ok (.iload_n 3, 1) := by decide +kernel
theorem dX5_isInTurn_40 : decode cX5_isInTurn 40 = .ok (.iaload, 1) := by decide +kernel
theorem dX5_isInTurn_41 : decode cX5_isInTurn 41 = .ok (.ishl, 1) := by decide +kernel
theorem dX5_isInTurn_42 : decode cX5_isInTurn 42 = .ok (.iconst (-1), 1) := by decide +kernel
theorem dX5_isInTurn_43 : decode cX5_isInTurn 43 = .ok (.ixor, 1) := by decide +kernel
theorem dX5_isInTurn_44 : decode cX5_isInTurn 44 = .ok (.iand, 1) := by decide +kernel
theorem dX5_isInTurn_45 : decode cX5_isInTurn 45 = .ok (.istore_n 2, 1) := by decide +kernel
theorem dX5_isInTurn_46 : decode cX5_isInTurn 46 = .ok (.iinc 3 1, 3) := by decide +kernel
theorem dX5_isInTurn_49 : decode cX5_isInTurn 49 = .ok (.goto (-42), 3) := by decide +kernel
theorem dX5_isInTurn_52 : decode cX5_isInTurn 52 = .ok (.iconst 1, 1) := by decide +kernel
theorem dX5_isInTurn_53 : decode cX5_isInTurn 53 = .ok (.ireturn, 1) := by decide +kernel
theorem dX5_fitsInto_0 : decode cX5_fitsInto 0 = .ok (.aload_n 0, 1) := by decide +kernel
theorem dX5_fitsInto_1 : decode cX5_fitsInto 1 = .ok (.getfield 30, 3) := by decide +kernel
theorem dX5_fitsInto_4 : decode cX5_fitsInto 4 = .ok (.iload_n 1, 1) := by decide +kernel
theorem dX5_fitsInto_5 : decode cX5_fitsInto 5 = .ok (.if_icmp .gt 15, 3) := by decide +kernel
theorem dX5_fitsInto_8 : decode cX5_fitsInto 8 = .ok (.aload_n 0, 1) := by decide +kernel
theorem dX5_fitsInto_9 : decode cX5_fitsInto 9 = .ok (.getfield 49, 3) := by decide +kernel
theorem dX5_fitsInto_12 : decode cX5_fitsInto 12 = .ok (.iload_n 2, 1) := by decide +kernel
theorem dX5_fitsInto_13 : decode cX5_fitsInto 13 = .ok (.if_icmp .gt 7, 3) := by decide +kernel
theorem dX5_fitsInto_16 : decode cX5_fitsInto 16 = .ok (.iconst 1, 1) := by decide +kernel
theorem dX5_fitsInto_17 : decode cX5_fitsInto 17 = .ok (.goto 4, 3) := by decide +kernel
theorem dX5_fitsInto_20 : decode cX5_fitsInto 20 = .ok (.iconst 0, 1) := by decide +kernel
theorem dX5_fitsInto_21 : decode cX5_fitsInto 21 = .ok (.ireturn, 1) := by decide +kernel
theorem dX5_hasDayLight_0 : decode cX5_hasDayLight 0 = .ok (.aload_n 0, 1) := by decide +kernel
theorem dX5_hasDayLight_1 : decode cX5_hasDayLight 1 = .ok (.getfield 49, 3) := by decide +kernel
theorem dX5_hasDayLight_4 : decode cX5_hasDayLight 4 = .ok (.ifCond .le 7, 3) := by decide +kernel
theorem dX5_hasDayLight_7 : decode cX5_hasDayLight 7 = .ok (.iconst 1, 1) := by decide +kernel
theorem dX5_hasDayLight_8 : decode cX5_hasDayLight 8 = .ok (.goto 4, 3) := by decide +kernel
theorem dX5_hasDayLight_11 : decode cX5_hasDayLight 11 = .ok (.iconst 0, 1) := by decide +kernel
theorem dX5_hasDayLight_12 : decode cX5_hasDayLight 12 = .ok (.ireturn, 1) := by decide +kernel
theorem dX5_halfHoursOver_0 : decode cX5_halfHoursOver 0 = .ok (.aload_n 0, 1) := by decide +kernel
theorem dX5_halfHoursOver_1 : decode cX5_halfHoursOver 1 = .ok (.getfield 30, 3) := by decide +kernel
theorem dX5_halfHoursOver_4 : decode cX5_halfHoursOver 4 = .ok (.sipush 480, 3) := by decide +kernel
theorem dX5_halfHoursOver_7 : decode cX5_halfHoursOver 7 = .ok (.isub, 1) := by decide +kernel
theorem dX5_halfHoursOver_8 : decode cX5_halfHoursOver 8 = .ok (.istore_n 1, 1) := by decide +kernel
theorem dX5_halfHoursOver_9 : decode cX5_halfHoursOver 9 = .ok (.iload_n 1, 1) := by decide +kernel
theorem dX5_halfHoursOver_10 : decode cX5_halfHoursOver 10 = .ok (.ifCond .gt 7, 3) := by decide +kernel
theorem dX5_halfHoursOver_13 : decode cX5_halfHoursOver 13 = .ok (.iconst 0, 1) := by decide +kernel
theorem dX5_halfHoursOver_14 : decode cX5_halfHoursOver 14 = .ok (.goto 12, 3) := by decide +kernel
theorem dX5_halfHoursOver_17 : decode cX5_halfHoursOver 17 = .ok (.iload_n 1, 1) := by decide +kernel
theorem dX5_halfHoursOver_18 : decode cX5_halfHoursOver 18 = .ok (.bipush 30, 2) := by decide +kernel
theorem dX5_halfHoursOver_20 : decode cX5_halfHoursOver 20 = .ok (.iadd, 1) := by decide +kernel
theorem dX5_halfHoursOver_21 : decode cX5_halfHoursOver 21 = .ok (.iconst 1, 1) := by decide +kernel
theorem dX5_halfHoursOver_22 : decode cX5_halfHoursOver 22 = .ok (.isub, 1) := by decide +kernel
theorem dX5_halfHoursOver_23 : decode cX5_halfHoursOver 23 = .ok (.bipush 30, 2) := by decide +kernel
theorem dX5_halfHoursOver_25 : decode cX5_halfHoursOver 25 = .ok (.idiv, 1) := by decide +kernel
theorem dX5_halfHoursOver_26 : decode cX5_halfHoursOver 26 = .ok (.ireturn, 1) := by decide +kernel
theorem dX6_init_0 : decode cX6_init 0 = .ok (.aload_n 0, 1) := by decide +kernel
theorem dX6_init_1 : decode cX6_init 1 = .ok (.invokespecial 1, 3) := by decide +kernel
theorem dX6_init_4 : decode cX6_init 4 = .ok (.aload_n 0, 1) := by decide +kernel
theorem dX6_init_5 : decode cX6_init 5 = .ok (.new 7, 3) := by decide +kernel
theorem dX6_init_8 : decode cX6_init 8 = .ok (.dup, 1) := by decide +kernel
theorem dX6_init_9 : decode cX6_init 9 = .ok (.invokespecial 9, 3) := by decide +kernel
theorem dX6_init_12 : decode cX6_init 12 = .ok (.putfield 10, 3) := by decide +kernel
theorem dX6_init_15 : decode cX6_init 15 = .ok (.aload_n 0, 1) := by decide +kernel
theorem dX6_init_16 : decode cX6_init 16 = .ok (.new 16, 3) := by decide +kernel
theorem dX6_init_19 : decode cX6_init 19 = .ok (.dup, 1) := by decide +kernel
theorem dX6_init_20 : decode cX6_init 20 = .ok (.aload_n 0, 1) := by decide +kernel
theorem dX6_init_21 : decode cX6_init 21 = .ok (.getfield 10, 3) := by decide +kernel
theorem dX6_init_24 : decode cX6_init 24 = .ok (.invokespecial 18, 3) := by decide +kernel
theorem dX6_init_27 : decode cX6_init 27 = .ok (.putfield 21, 3) := by decide +kernel
theorem dX6_init_30 : decode cX6_init 30 = .ok (.aload_n 0, 1) := by decide +kernel
theorem dX6_init_31 : decode cX6_init 31 = .ok (.new 25, 3) := by decide +kernel
theorem dX6_init_34 : decode cX6_init 34 = .ok (.dup, 1) := by decide +kernel
theorem dX6_init_35 : decode cX6_init 35 = .ok (.aload_n 0, 1) := by decide +kernel
theorem dX6_init_36 : decode cX6_init 36 = .ok (.getfield 10, 3) := by decide +kernel
theorem dX6_init_39 : decode cX6_init 39 = .ok (.aload_n 0, 1) := by decide +kernel
theorem dX6_init_40 : decode cX6_init 40 = .ok (.getfield 21, 3) := by decide +kernel
theorem dX6_init_43 : decode cX6_init 43 = .ok (.invokespecial 27, 3) := by decide +kernel
theorem dX6_init_46 : decode cX6_init 46 = .ok (.putfield 30, 3) := by decide +kernel
theorem dX6_init_49 : decode cX6_init 49 = .ok (.aload_n 0, 1) := by decide +kernel
theorem dX6_init_50 : decode cX6_init 50 = .ok (.new 34, 3) := by decide +kernel
theorem dX6_init_53 : decode cX6_init 53 = .ok (.dup, 1) := by decide +kernel
theorem dX6_init_54 : decode cX6_init 54 = .ok (.aload_n 0, 1) := by decide +kernel
theorem dX6_init_55 : decode cX6_init 55 = .ok (.getfield 10, 3) := by decide +kernel
theorem dX6_init_58 : decode cX6_init 58 = .ok (.aload_n 0, 1) := by decide +kernel
theorem dX6_init_59 : decode cX6_init 59 = .ok (.getfield 21, 3) := by decide +kernel
theorem dX6_init_62 : decode cX6_init 62 = .ok (.aload_n 0, 1) := by decide +kernel
theorem dX6_init_63 : decode cX6_init 63 = .ok (.getfield 30, 3) := by decide +kernel
theorem dX6_init_66 : decode cX6_init 66 = .ok (.invokespecial 36, 3) := by decide +kernel
theorem dX6_init_69 : decode cX6_init 69 = .ok (.putfield 39, 3) := by decide +kernel
theorem dX6_init_72 : decode cX6_init 72 = .ok (.return_, 1) := by decide +kernel
theorem dX6_scene_0 : decode cX6_scene 0 = .ok (.iload_n 1, 1) := by decide +kernel
theorem dX6_scene_1 : decode cX6_scene 1 = .ok (.iconst 5, 1) := by decide +kernel
theorem dX6_scene_2 : decode cX6_scene 2 = .ok (.sipush 300, 3) := by decide +kernel
theorem dX6_scene_5 : decode cX6_scene 5 = .ok (.invokestatic 43, 3) := by decide +kernel
theorem dX6_scene_8 : decode cX6_scene 8 = .ok (.ifCond .eq 34, 3) := by decide +kernel
theorem dX6_scene_11 : decode cX6_scene 11 = .ok (.iload_n 3, 1) := by decide +kernel
theorem dX6_scene_12 : decode cX6_scene 12 = .ok (.iconst 0, 1) := by decide +kernel
theorem dX6_scene_13 : decode cX6_scene 13 = .ok (.iconst 2, 1) := by decide +kernel
theorem dX6_scene_14 : decode cX6_scene 14 = .ok (.invokestatic 43, 3) := by decide +kernel
theorem dX6_scene_17 : decode cX6_scene 17 = .ok (.ifCond .eq 25, 3) := by decide +kernel
theorem dX6_scene_20 : decode cX6_scene 20 = .ok (.iload 4, 2) := by decide +kernel
theorem dX6_scene_22 : decode cX6_scene 22 = .ok (.iconst 0, 1) := by decide +kernel
theorem dX6_scene_23 : decode cX6_scene 23 = .ok (.iconst 1, 1) := by decide +kernel
theorem dX6_scene_24 : decode cX6_scene 24 = .ok (.invokestatic 43, 3) := by decide +kernel
theorem dX6_scene_27 : decode cX6_scene 27 = .ok (.ifCond .eq 15, 3) := by decide +kernel
theorem dX6_scene_30 : decode cX6_scene 30 = .ok (.iload 5, 2) := by decide +kernel
theorem dX6_scene_32 : decode cX6_scene 32 = .ok (.iconst 0, 1) := by decide +kernel
theorem dX6_scene_33 : decode cX6_scene 33 = .ok (.sipush 255, 3) := by decide +kernel
theorem dX6_scene_36 : decode cX6_scene 36 = .ok (.invokestatic 43, 3) := by decide +kernel
theorem dX6_scene_39 : decode cX6_scene 39 = .ok (.ifCond .ne 6, 3) := by decide +kernel
theorem dX6_scene_42 : decode cX6_scene 42 = .ok (.bipush (-2), 2) := by decide +kernel
theorem dX6_scene_44 : decode cX6_scene 44 = .ok (.ireturn, 1) := by decide +kernel
theorem dX6_scene_45 : decode cX6_scene 45 = .ok (.iload_n 2, 1) := by decide +kernel
theorem dX6_scene_46 : decode cX6_scene 46 = .ok (.invokestatic 47, 3) := by decide +kernel
theorem dX6_scene_49 : decode cX6_scene 49 = .ok (.ifCond .ne 5, 3) := by decide +kernel
theorem dX6_scene_52 : decode cX6_scene 52 = .ok (.iconst (-1), 1) := by decide +kernel
theorem dX6_scene_53 : decode cX6_scene 53 = .ok (.ireturn, 1) := by decide +kernel
theorem dX6_scene_54 : decode cX6_scene 54 = .ok (.aload_n 0, 1) := by decide +kernel
theorem dX6_scene_55 : decode cX6_scene 55 = .ok (.getfield 10, 3) := by decide +kernel
theorem dX6_scene_58 : decode cX6_scene 58 = .ok (.iload_n 1, 1) := by decide +kernel
theorem dX6_scene_59 : decode cX6_scene 59 = .ok (.iload_n 2, 1) := by decide +kernel
theorem dX6_scene_60 : decode cX6_scene 60 = .ok (.iload_n 3, 1) := by decide +kernel
theorem dX6_scene_61 : decode cX6_scene 61 = .ok (.iload 4, 2) := by decide +kernel
theorem dX6_scene_63 : decode cX6_scene 63 = .ok (.iload 5, 2) := by decide +kernel
theorem dX6_scene_65 : decode cX6_scene 65 = .ok (.invokevirtual 51, 3) := by decide +kernel
theorem dX6_scene_68 : decode cX6_scene 68 = .ok (.ireturn, 1) := by decide +kernel
theorem dX6_player_0 : decode cX6_player 0 = .ok (.iload_n 1, 1) := by decide +kernel
theorem dX6_player_1 : decode cX6_player 1 = .ok (.invokestatic 55, 3) := by decide +kernel
theorem dX6_player_4 : decode cX6_player 4 = .ok (.ifCond .ne 5, 3) := by decide +kernel
theorem dX6_player_7 : decode cX6_player 7 = .ok (.iconst (-1), 1) := by decide +kernel
theorem dX6_player_8 : decode cX6_player 8 = .ok (.ireturn, 1) := by decide +kernel
theorem dX6_player_9 : decode cX6_player 9 = .ok (.iload_n 2, 1) := by decide +kernel
theorem dX6_player_10 : decode cX6_player 10 = .ok (.iconst 0, 1) := by decide +kernel
theorem dX6_player_11 : decode cX6_player 11 = .ok (.sipush 1000, 3) := by decide +kernel
theorem dX6_player_14 : decode cX6_player 14 = .ok (.invokestatic 43, 3) := by decide +kernel
theorem dX6_player_17 : decode cX6_player 17 = .ok (.ifCond .eq 13, 3) := by decide +kernel
theorem dX6_player_20 : decode cX6_player 20 = .ok (.iload_n 3, 1) := by decide +kernel
theorem dX6_player_21 : decode cX6_player 21 = .ok (.iconst 0, 1) := by decide +kernel
theorem dX6_player_22 : decode cX6_player 22 = .ok (.bipush 10, 2) := by decide +kernel
theorem dX6_player_24 : decode cX6_player 24 = .ok (.invokestatic 43, 3) := by decide +kernel
theorem dX6_player_27 : decode cX6_player 27 = .ok (.ifCond .ne 6, 3) := by decide +kernel
theorem dX6_player_30 : decode cX6_player 30 = .ok (.bipush (-2), 2) := by decide +kernel
theorem dX6_player_32 : decode cX6_player 32 = .ok (.ireturn, 1) := by decide +kernel
theorem dX6_player_33 : decode cX6_player 33 = .ok (.aload_n 0, 1) := by decide +kernel
theorem dX6_player_34 : decode cX6_player 34 = .ok (.getfield 10, 3) := by decide +kernel
theorem dX6_player_37 : decode cX6_player 37 = .ok (.getfield 58, 3) := by decide +kernel
theorem dX6_player_40 : decode cX6_player 40 = .ok (.iload_n 1, 1) := by decide +kernel
theorem dX6_player_41 : decode cX6_player 41 = .ok (.iload_n 2, 1) := by decide +kernel
theorem dX6_player_42 : decode cX6_player 42 = .ok (.iastore, 1) := by decide +kernel
theorem dX6_player_43 : decode cX6_player 43 = .ok (.aload_n 0, 1) := by decide +kernel
theorem dX6_player_44 : decode cX6_player 44 = .ok (.getfield 10, 3) := by decide +kernel
theorem dX6_player_47 : decode cX6_player 47 = .ok (.getfield 62, 3) := by decide +kernel
theorem dX6_player_50 : decode cX6_player 50 = .ok (.iload_n 1, 1) := by decide +kernel
theorem dX6_player_51 : decode cX6_player 51 = .ok (.iload_n 3, 1) := by decide +kernel
theorem dX6_player_52 : decode cX6_player 52 = .ok (.iastore, 1) := by decide +kernel
theorem dX6_player_53 : decode cX6_player 53 = .ok (.iconst 0, 1) := by decide +kernel
theorem dX6_player_54 : decode cX6_player 54 = .ok (.ireturn, 1) := by decide +kernel
theorem dX6_rent_0 : decode cX6_rent 0 = .ok (.iload_n 1, 1) := by decide +kernel
theorem dX6_rent_1 : decode cX6_rent 1 = .ok (.invokestatic 47, 3) := by decide +kernel
theorem dX6_rent_4 : decode cX6_rent 4 = .ok (.ifCond .ne 5, 3) := by decide +kernel
theorem dX6_rent_7 : decode cX6_rent 7 = .ok (.iconst (-1), 1) := by decide +kernel
theorem dX6_rent_8 : decode cX6_rent 8 = .ok (.ireturn, 1) := by decide +kernel
theorem dX6_rent_9 : decode cX6_rent 9 = .ok (.iload_n 2, 1) := by decide +kernel
theorem dX6_rent_10 : decode cX6_rent 10 = .ok (.iconst 0, 1) := by decide +kernel
theorem dX6_rent_11 : decode cX6_rent 11 = .ok (.sipush 1000, 3) := by decide +kernel
theorem dX6_rent_14 : decode cX6_rent 14 = .ok (.invokestatic 43, 3) := by decide +kernel
theorem dX6_rent_17 : decode cX6_rent 17 = .ok (.ifCond .ne 6, 3) := by decide +kernel
theorem dX6_rent_20 : decode cX6_rent 20 = .ok (.bipush (-2), 2) := by decide +kernel
theorem dX6_rent_22 : decode cX6_rent 22 = .ok (.ireturn, 1) := by decide +kernel
theorem dX6_rent_23 : decode cX6_rent 23 = .ok (.aload_n 0, 1) := by decide +kernel
theorem dX6_rent_24 : decode cX6_rent 24 = .ok (.getfield 10, 3) := by decide +kernel
theorem dX6_rent_27 : decode cX6_rent 27 = .ok (.getfield 65, 3) := by decide +kernel
theorem dX6_rent_30 : decode cX6_rent 30 = .ok (.iload_n 1, 1) := by decide +kernel
theorem dX6_rent_31 : decode cX6_rent 31 = .ok (.iaload, 1) := by decide +kernel
theorem dX6_rent_32 : decode cX6_rent 32 = .ok (.istore_n 3, 1) := by decide +kernel
theorem dX6_rent_33 : decode cX6_rent 33 = .ok (.aload_n 0, 1) := by decide +kernel
theorem dX6_rent_34 : decode cX6_rent 34 = .ok (.getfield 10, 3) := by decide +kernel
theorem dX6_rent_37 : decode cX6_rent 37 = .ok (.getfield 65, 3) := by decide +kernel
theorem dX6_rent_40 : decode cX6_rent 40 = .ok (.iload_n 1, 1) := by decide +kernel
theorem dX6_rent_41 : decode cX6_rent 41 = .ok (.iload_n 2, 1) := by decide +kernel
theorem dX6_rent_42 : decode cX6_rent 42 = .ok (.iastore, 1) := by decide +kernel
theorem dX6_rent_43 : decode cX6_rent 43 = .ok (.iload_n 3, 1) := by decide +kernel
theorem dX6_rent_44 : decode cX6_rent 44 = .ok (.ireturn, 1) := by decide +kernel
theorem dX6_spot_0 : decode cX6_spot 0 = .ok (.iload_n 1, 1) := by decide +kernel
theorem dX6_spot_1 : decode cX6_spot 1 = .ok (.invokestatic 47, 3) := by decide +kernel
theorem dX6_spot_4 : decode cX6_spot 4 = .ok (.ifCond .ne 5, 3) := by decide +kernel
theorem dX6_spot_7 : decode cX6_spot 7 = .ok (.iconst (-1), 1) := by decide +kernel
theorem dX6_spot_8 : decode cX6_spot 8 = .ok (.ireturn, 1) := by decide +kernel
theorem dX6_spot_9 : decode cX6_spot 9 = .ok (.iload_n 2, 1) := by decide +kernel
theorem dX6_spot_10 : decode cX6_spot 10 = .ok (.iconst 0, 1) := by decide +kernel
theorem dX6_spot_11 : decode cX6_spot 11 = .ok (.bipush 120, 2) := by decide +kernel
theorem dX6_spot_13 : decode cX6_spot 13 = .ok (.invokestatic 43, 3) := by decide +kernel
theorem dX6_spot_16 : decode cX6_spot 16 = .ok (.ifCond .ne 6, 3) := by decide +kernel
theorem dX6_spot_19 : decode cX6_spot 19 = .ok (.bipush (-2), 2) := by decide +kernel
theorem dX6_spot_21 : decode cX6_spot 21 = .ok (.ireturn, 1) := by decide +kernel
theorem dX6_spot_22 : decode cX6_spot 22 = .ok (.aload_n 0, 1) := by decide +kernel
theorem dX6_spot_23 : decode cX6_spot 23 = .ok (.getfield 10, 3) := by decide +kernel
theorem dX6_spot_26 : decode cX6_spot 26 = .ok (.getfield 68, 3) := by decide +kernel
theorem dX6_spot_29 : decode cX6_spot 29 = .ok (.iload_n 1, 1) := by decide +kernel
theorem dX6_spot_30 : decode cX6_spot 30 = .ok (.iaload, 1) := by decide +kernel
theorem dX6_spot_31 : decode cX6_spot 31 = .ok (.istore_n 3, 1) := by decide +kernel
theorem dX6_spot_32 : decode cX6_spot 32 = .ok (.aload_n 0, 1) := by decide +kernel
theorem dX6_spot_33 : decode cX6_spot 33 = .ok (.getfield 10, 3) := by decide +kernel
theorem dX6_spot_36 : decode cX6_spot 36 = .ok (.getfield 68, 3) := by decide +kernel
theorem dX6_spot_39 : decode cX6_spot 39 = .ok (.iload_n 1, 1) := by decide +kernel
theorem dX6_spot_40 : decode cX6_spot 40 = .ok (.iload_n 2, 1) := by decide +kernel
theorem dX6_spot_41 : decode cX6_spot 41 = .ok (.iastore, 1) := by decide +kernel
theorem dX6_spot_42 : decode cX6_spot 42 = .ok (.aload_n 0, 1) := by decide +kernel
theorem dX6_spot_43 : decode cX6_spot 43 = .ok (.getfield 21, 3) := by decide +kernel
theorem dX6_spot_46 : decode cX6_spot 46 = .ok (.invokevirtual 71, 3) := by decide +kernel
theorem dX6_spot_49 : decode cX6_spot 49 = .ok (.aload_n 0, 1) := by decide +kernel
theorem dX6_spot_50 : decode cX6_spot 50 = .ok (.getfield 21, 3) := by decide +kernel
theorem dX6_spot_53 : decode cX6_spot 53 = .ok (.invokevirtual 74, 3) := by decide +kernel
theorem dX6_spot_56 : decode cX6_spot 56 = .ok (.ifCond .eq 5, 3) := by decide +kernel
theorem dX6_spot_59 : decode cX6_spot 59 = .ok (.iload_n 3, 1) := by decide +kernel
theorem dX6_spot_60 : decode cX6_spot 60 = .ok (.ireturn, 1) := by decide +kernel
theorem dX6_spot_61 : decode cX6_spot 61 = .ok (.aload_n 0, 1) := by decide +kernel
theorem dX6_spot_62 : decode cX6_spot 62 = .ok (.getfield 10, 3) := by decide +kernel
theorem dX6_spot_65 : decode cX6_spot 65 = .ok (.getfield 68, 3) := by decide +kernel
theorem dX6_spot_68 : decode cX6_spot 68 = .ok (.iload_n 1, 1) := by decide +kernel
theorem dX6_spot_69 : decode cX6_spot 69 = .ok (.iload_n 3, 1) := by decide +kernel
theorem dX6_spot_70 : decode cX6_spot 70 = .ok (.iastore, 1) := by decide +kernel
theorem dX6_spot_71 : decode cX6_spot 71 = .ok (.aload_n 0, 1) := by decide +kernel
theorem dX6_spot_72 : decode cX6_spot 72 = .ok (.getfield 21, 3) := by decide +kernel
theorem dX6_spot_75 : decode cX6_spot 75 = .ok (.invokevirtual 71, 3) := by decide +kernel
theorem dX6_spot_78 : decode cX6_spot 78 = .ok (.bipush (-3), 2) := by decide +kernel
theorem dX6_spot_80 : decode cX6_spot 80 = .ok (.ireturn, 1) := by decide +kernel
theorem dX6_ahead_0 : decode cX6_ahead 0 = .ok (.aload_n 0, 1) := by decide +kernel
theorem dX6_ahead_1 : decode cX6_ahead 1 = .ok (.getfield 10, 3) := by decide +kernel
theorem dX6_ahead_4 : decode cX6_ahead 4 = .ok (.iload_n 1, 1) := by decide +kernel
theorem dX6_ahead_5 : decode cX6_ahead 5 = .ok (.invokevirtual 78, 3) := by decide +kernel
theorem dX6_ahead_8 : decode cX6_ahead 8 = .ok (.ifCond .eq 14, 3) := by decide +kernel
theorem dX6_ahead_11 : decode cX6_ahead 11 = .ok (.aload_n 0, 1) := by decide +kernel
theorem dX6_ahead_12 : decode cX6_ahead 12 = .ok (.getfield 10, 3) := by decide +kernel
theorem dX6_ahead_15 : decode cX6_ahead 15 = .ok (.iload_n 2, 1) := by decide +kernel
theorem dX6_ahead_16 : decode cX6_ahead 16 = .ok (.invokevirtual 78, 3) := by decide +kernel
theorem dX6_ahead_19 : decode cX6_ahead 19 = .ok (.ifCond .ne 5, 3) := by decide +kernel
theorem dX6_ahead_22 : decode cX6_ahead 22 = .ok (.iconst (-1), 1) := by decide +kernel
theorem dX6_ahead_23 : decode cX6_ahead 23 = .ok (.ireturn, 1) := by decide +kernel
theorem dX6_ahead_24 : decode cX6_ahead 24 = .ok (.iload_n 1, 1) := by decide +kernel
theorem dX6_ahead_25 : decode cX6_ahead 25 = .ok (.iload_n 2, 1) := by decide +kernel
theorem dX6_ahead_26 : decode cX6_ahead 26 = .ok (.if_icmp .eq 18, 3) := by decide +kernel
theorem dX6_ahead_29 : decode cX6_ahead 29 = .ok (.aload_n 0, 1) := by decide +kernel
theorem dX6_ahead_30 : decode cX6_ahead 30 = .ok (.getfield 10, 3) := by decide +kernel
theorem dX6_ahead_33 : decode cX6_ahead 33 = .ok (.iload_n 1, 1) := by decide +kernel
theorem dX6_ahead_34 : decode cX6_ahead 34 = .ok (.invokevirtual 81, 3) := by decide +kernel
theorem dX6_ahead_37 : decode cX6_ahead 37 = .ok (.iload_n 2, 1) := by decide +kernel
theorem dX6_ahead_38 : decode cX6_ahead 38 = .ok (.invokestatic 85, 3) := by decide +kernel
theorem dX6_ahead_41 : decode cX6_ahead 41 = .ok (.ifCond .eq 6, 3) := by decide +kernel
theorem dX6_ahead_44 : decode cX6_ahead 44 = .ok (.bipush (-2), 2) := by decide +kernel
theorem dX6_ahead_46 : decode cX6_ahead 46 = .ok (.ireturn, 1) := by decide +kernel
theorem dX6_ahead_47 : decode cX6_ahead 47 = .ok (.aload_n 0, 1) := by decide +kernel
theorem dX6_ahead_48 : decode cX6_ahead 48 = .ok (.getfield 10, 3) := by decide +kernel
theorem dX6_ahead_51 : decode cX6_ahead 51 = .ok (.getfield 89, 3) := by decide +kernel
theorem dX6_ahead_54 : decode cX6_ahead 54 = .ok (.iload_n 2, 1) := by decide +kernel
theorem dX6_ahead_55 : decode cX6_ahead 55 = .ok (.iaload, 1) := by decide +kernel
theorem dX6_ahead_56 : decode cX6_ahead 56 = .ok (.istore_n 3, 1) := by decide +kernel
theorem dX6_ahead_57 : decode cX6_ahead 57 = .ok (.iload_n 3, 1) := by decide +kernel
theorem dX6_ahead_58 : decode cX6_ahead 58 = .ok (.iload_n 1, 1) := by decide +kernel
theorem dX6_ahead_59 : decode cX6_ahead 59 = .ok (.invokestatic 85, 3) := by decide +kernel
theorem dX6_ahead_62 : decode cX6_ahead 62 = .ok (.ifCond .eq 5, 3) := by decide +kernel
theorem dX6_ahead_65 : decode cX6_ahead 65 = .ok (.iconst 0, 1) := by decide +kernel
theorem dX6_ahead_66 : decode cX6_ahead 66 = .ok (.ireturn, 1) := by decide +kernel
theorem dX6_ahead_67 : decode cX6_ahead 67 = .ok (.aload_n 0, 1) := by decide +kernel
theorem dX6_ahead_68 : decode cX6_ahead 68 = .ok (.getfield 10, 3) := by decide +kernel
theorem dX6_ahead_71 : decode cX6_ahead 71 = .ok (.getfield 89, 3) := by decide +kernel
theorem dX6_ahead_74 : decode cX6_ahead 74 = .ok (.iload_n 2, 1) := by decide +kernel
theorem dX6_ahead_75 : decode cX6_ahead 75 = .ok (.iload_n 3, 1) := by decide +kernel
theorem dX6_ahead_76 : decode cX6_ahead 76 = .ok (.iconst 1, 1) := by decide +kernel
theorem dX6_ahead_77 : decode cX6_ahead 77 = .ok (.iload_n 1, 1) := by decide +kernel
theorem dX6_ahead_78 : decode cX6_ahead 78 = .ok (.ishl, 1) := by decide +kernel
theorem dX6_ahead_79 : decode cX6_ahead 79 = .ok (.ior, 1) := by decide +kernel
theorem dX6_ahead_80 : decode cX6_ahead 80 = .ok (.iastore, 1) := by decide +kernel
theorem dX6_ahead_81 : decode cX6_ahead 81 = .ok (.aload_n 0, 1) := by decide +kernel
theorem dX6_ahead_82 : decode cX6_ahead 82 = .ok (.getfield 21, 3) := by decide +kernel
theorem dX6_ahead_85 : decode cX6_ahead 85 = .ok (.invokevirtual 71, 3) := by decide +kernel
theorem dX6_ahead_88 : decode cX6_ahead 88 = .ok (.aload_n 0, 1) := by decide +kernel
theorem dX6_ahead_89 : decode cX6_ahead 89 = .ok (.getfield 21, 3) := by decide +kernel
theorem dX6_ahead_92 : decode cX6_ahead 92 = .ok (.invokevirtual 74, 3) := by decide +kernel
theorem dX6_ahead_95 : decode cX6_ahead 95 = .ok (.ifCond .eq 5, 3) := by decide +kernel
theorem dX6_ahead_98 : decode cX6_ahead 98 = .ok (.iconst 1, 1) := by decide +kernel
theorem dX6_ahead_99 : decode cX6_ahead 99 = .ok (.ireturn, 1) := by decide +kernel
theorem dX6_ahead_100 : decode cX6_ahead 100 = .ok (.aload_n 0, 1) := by decide +kernel
theorem dX6_ahead_101 : decode cX6_ahead 101 = .ok (.getfield 10, 3) := by decide +kernel
theorem dX6_ahead_104 : decode cX6_ahead 104 = .ok (.getfield 89, 3) := by decide +kernel
theorem dX6_ahead_107 : decode cX6_ahead 107 = .ok (.iload_n 2, 1) := by decide +kernel
theorem dX6_ahead_108 : decode cX6_ahead 108 = .ok (.iload_n 3, 1) := by decide +kernel
theorem dX6_ahead_109 : decode cX6_ahead 109 = .ok (.iastore, 1) := by decide +kernel
theorem dX6_ahead_110 : decode cX6_ahead 110 = .ok (.aload_n 0, 1) := by decide +kernel
theorem dX6_ahead_111 : decode cX6_ahead 111 = .ok (.getfield 21, 3) := by decide +kernel
theorem dX6_ahead_114 : decode cX6_ahead 114 = .ok (.invokevirtual 71, 3) := by decide +kernel
theorem dX6_ahead_117 : decode cX6_ahead 117 = .ok (.bipush (-3), 2) := by decide +kernel
theorem dX6_ahead_119 : decode cX6_ahead 119 = .ok (.ireturn, 1) := by decide +kernel
theorem dX6_day_0 : decode cX6_day 0 = .ok (.iload_n 1, 1) := by decide +kernel
theorem dX6_day_1 : decode cX6_day 1 = .ok (.iload_n 2, 1) := by decide +kernel
theorem dX6_day_2 : decode cX6_day 2 = .ok (.invokestatic 92, 3) := by decide +kernel
theorem dX6_day_5 : decode cX6_day 5 = .ok (.ifCond .ne 6, 3) := by decide +kernel
theorem dX6_day_8 : decode cX6_day 8 = .ok (.bipush (-2), 2) := by decide +kernel
theorem dX6_day_10 : decode cX6_day 10 = .ok (.ireturn, 1) := by decide +kernel
theorem dX6_day_11 : decode cX6_day 11 = .ok (.aload_n 0, 1) := by decide +kernel
theorem dX6_day_12 : decode cX6_day 12 = .ok (.getfield 21, 3) := by decide +kernel
theorem dX6_day_15 : decode cX6_day 15 = .ok (.iload_n 1, 1) := by decide +kernel
theorem dX6_day_16 : decode cX6_day 16 = .ok (.iload_n 2, 1) := by decide +kernel
theorem dX6_day_17 : decode cX6_day 17 = .ok (.invokevirtual 95, 3) := by decide +kernel
theorem dX6_day_20 : decode cX6_day 20 = .ok (.ireturn, 1) := by decide +kernel
theorem dX6_about_0 : decode cX6_about 0 = .ok (.aload_n 0, 1) := by decide +kernel
theorem dX6_about_1 : decode cX6_about 1 = .ok (.getfield 10, 3) := by decide +kernel
theorem dX6_about_4 : decode cX6_about 4 = .ok (.iload_n 1, 1) := by decide +kernel
theorem dX6_about_5 : decode cX6_about 5 = .ok (.invokevirtual 78, 3) := by decide +kernel
theorem dX6_about_8 : decode cX6_about 8 = .ok (.ifCond .ne 5, 3) := by decide +kernel
theorem dX6_about_11 : decode cX6_about 11 = .ok (.iconst (-1), 1) := by decide +kernel
theorem dX6_about_12 : decode cX6_about 12 = .ok (.ireturn, 1) := by decide +kernel
theorem dX6_about_13 : decode cX6_about 13 = .ok (.iload_n 2, 1) := by decide +kernel
theorem dX6_about_14 : decode cX6_about 14 = .ok (.tableswitch 124 0 7 #[46, 56, 66, 76, 86, 96, 105, 114], 46) := by decide +kernel
theorem dX6_about_60 : decode cX6_about 60 = .ok (.aload_n 0, 1) := by decide +kernel
theorem dX6_about_61 : decode cX6_about 61 = .ok (.getfield 10, 3) := by decide +kernel
theorem dX6_about_64 : decode cX6_about 64 = .ok (.getfield 99, 3) := by decide +kernel
theorem dX6_about_67 : decode cX6_about 67 = .ok (.iload_n 1, 1) := by decide +kernel
theorem dX6_about_68 : decode cX6_about 68 = .ok (.iaload, 1) := by decide +kernel
theorem dX6_about_69 : decode cX6_about 69 = .ok (.ireturn, 1) := by decide +kernel
theorem dX6_about_70 : decode cX6_about 70 = .ok (.aload_n 0, 1) := by decide +kernel
theorem dX6_about_71 : decode cX6_about 71 = .ok (.getfield 10, 3) := by decide +kernel
theorem dX6_about_74 : decode cX6_about 74 = .ok (.getfield 102, 3) := by decide +kernel
theorem dX6_about_77 : decode cX6_about 77 = .ok (.iload_n 1, 1) := by decide +kernel
theorem dX6_about_78 : decode cX6_about 78 = .ok (.iaload, 1) := by decide +kernel
theorem dX6_about_79 : decode cX6_about 79 = .ok (.ireturn, 1) := by decide +kernel
theorem dX6_about_80 : decode cX6_about 80 = .ok (.aload_n 0, 1) := by decide +kernel
theorem dX6_about_81 : decode cX6_about 81 = .ok (.getfield 10, 3) := by decide +kernel
theorem dX6_about_84 : decode cX6_about 84 = .ok (.getfield 105, 3) := by decide +kernel
theorem dX6_about_87 : decode cX6_about 87 = .ok (.iload_n 1, 1) := by decide +kernel
theorem dX6_about_88 : decode cX6_about 88 = .ok (.iaload, 1) := by decide +kernel
theorem dX6_about_89 : decode cX6_about 89 = .ok (.ireturn, 1) := by decide +kernel
theorem dX6_about_90 : decode cX6_about 90 = .ok (.aload_n 0, 1) := by decide +kernel
theorem dX6_about_91 : decode cX6_about 91 = .ok (.getfield 10, 3) := by decide +kernel
theorem dX6_about_94 : decode cX6_about 94 = .ok (.getfield 108, 3) := by decide +kernel
theorem dX6_about_97 : decode cX6_about 97 = .ok (.iload_n 1, 1) := by decide +kernel
theorem dX6_about_98 : decode cX6_about 98 = .ok (.iaload, 1) := by decide +kernel
theorem dX6_about_99 : decode cX6_about 99 = .ok (.ireturn, 1) := by decide +kernel
theorem dX6_about_100 : decode cX6_about 100 = .ok (.aload_n 0, 1) := by decide +kernel
theorem dX6_about_101 : decode cX6_about 101 = .ok (.getfield 10, 3) := by decide +kernel
theorem dX6_about_104 : decode cX6_about 104 = .ok (.getfield 111, 3) := by decide +kernel
theorem dX6_about_107 : decode cX6_about 107 = .ok (.iload_n 1, 1) := by decide +kernel
theorem dX6_about_108 : decode cX6_about 108 = .ok (.iaload, 1) := by decide +kernel
theorem dX6_about_109 : decode cX6_about 109 = .ok (.ireturn, 1) := by decide +kernel
theorem dX6_about_110 : decode cX6_about 110 = .ok (.aload_n 0, 1) := by decide +kernel
theorem dX6_about_111 : decode cX6_about 111 = .ok (.getfield 21, 3) := by decide +kernel
theorem dX6_about_114 : decode cX6_about 114 = .ok (.iload_n 1, 1) := by decide +kernel
theorem dX6_about_115 : decode cX6_about 115 = .ok (.invokevirtual 114, 3) := by decide +kernel
theorem dX6_about_118 : decode cX6_about 118 = .ok (.ireturn, 1) := by decide +kernel
theorem dX6_about_119 : decode cX6_about 119 = .ok (.aload_n 0, 1) := by decide +kernel
theorem dX6_about_120 : decode cX6_about 120 = .ok (.getfield 21, 3) := by decide +kernel
theorem dX6_about_123 : decode cX6_about 123 = .ok (.iload_n 1, 1) := by decide +kernel
theorem dX6_about_124 : decode cX6_about 124 = .ok (.invokevirtual 117, 3) := by decide +kernel
theorem dX6_about_127 : decode cX6_about 127 = .ok (.ireturn, 1) := by decide +kernel
theorem dX6_about_128 : decode cX6_about 128 = .ok (.aload_n 0, 1) := by decide +kernel
theorem dX6_about_129 : decode cX6_about 129 = .ok (.getfield 10, 3) := by decide +kernel
theorem dX6_about_132 : decode cX6_about 132 = .ok (.getfield 89, 3) := by decide +kernel
theorem dX6_about_135 : decode cX6_about 135 = .ok (.iload_n 1, 1) := by decide +kernel
theorem dX6_about_136 : decode cX6_about 136 = .ok (.iaload, 1) := by decide +kernel
theorem dX6_about_137 : decode cX6_about 137 = .ok (.ireturn, 1) := by decide +kernel
theorem dX6_about_138 : decode cX6_about 138 = .ok (.iconst (-1), 1) := by decide +kernel
theorem dX6_about_139 : decode cX6_about 139 = .ok (.ireturn, 1) := by decide +kernel
theorem dX6_row_0 : decode cX6_row 0 = .ok (.aload_n 0, 1) := by decide +kernel
theorem dX6_row_1 : decode cX6_row 1 = .ok (.getfield 21, 3) := by decide +kernel
theorem dX6_row_4 : decode cX6_row 4 = .ok (.iload_n 1, 1) := by decide +kernel
theorem dX6_row_5 : decode cX6_row 5 = .ok (.invokevirtual 120, 3) := by decide +kernel
theorem dX6_row_8 : decode cX6_row 8 = .ok (.ifCond .ne 5, 3) := by decide +kernel
theorem dX6_row_11 : decode cX6_row 11 = .ok (.iconst (-1), 1) := by decide +kernel
theorem dX6_row_12 : decode cX6_row 12 = .ok (.ireturn, 1) := by decide +kernel
theorem dX6_row_13 : decode cX6_row 13 = .ok (.aload_n 0, 1) := by decide +kernel
theorem dX6_row_14 : decode cX6_row 14 = .ok (.getfield 21, 3) := by decide +kernel
theorem dX6_row_17 : decode cX6_row 17 = .ok (.getfield 123, 3) := by decide +kernel
theorem dX6_row_20 : decode cX6_row 20 = .ok (.iload_n 1, 1) := by decide +kernel
theorem dX6_row_21 : decode cX6_row 21 = .ok (.aaload, 1) := by decide +kernel
theorem dX6_row_22 : decode cX6_row 22 = .ok (.iload_n 2, 1) := by decide +kernel
theorem dX6_row_23 : decode cX6_row 23 = .ok (.invokevirtual 127, 3) := by decide +kernel
theorem dX6_row_26 : decode cX6_row 26 = .ok (.ireturn, 1) := by decide +kernel
theorem dX6_of_0 : decode cX6_of 0 = .ok (.aload_n 0, 1) := by decide +kernel
theorem dX6_of_1 : decode cX6_of 1 = .ok (.getfield 21, 3) := by decide +kernel
theorem dX6_of_4 : decode cX6_of 4 = .ok (.iload_n 1, 1) := by decide +kernel
theorem dX6_of_5 : decode cX6_of 5 = .ok (.invokevirtual 120, 3) := by decide +kernel
theorem dX6_of_8 : decode cX6_of 8 = .ok (.ifCond .ne 5, 3) := by decide +kernel
theorem dX6_of_11 : decode cX6_of 11 = .ok (.iconst (-1), 1) := by decide +kernel
theorem dX6_of_12 : decode cX6_of 12 = .ok (.ireturn, 1) := by decide +kernel
theorem dX6_of_13 : decode cX6_of 13 = .ok (.aload_n 0, 1) := by decide +kernel
theorem dX6_of_14 : decode cX6_of 14 = .ok (.getfield 21, 3) := by decide +kernel
theorem dX6_of_17 : decode cX6_of 17 = .ok (.getfield 123, 3) := by decide +kernel
theorem dX6_of_20 : decode cX6_of 20 = .ok (.iload_n 1, 1) := by decide +kernel
theorem dX6_of_21 : decode cX6_of 21 = .ok (.aaload, 1) := by decide +kernel
theorem dX6_of_22 : decode cX6_of 22 = .ok (.astore_n 3, 1) := by decide +kernel
theorem dX6_of_23 : decode cX6_of 23 = .ok (.iload_n 2, 1) := by decide +kernel
theorem dX6_of_24 : decode cX6_of 24 = .ok (.tableswitch 78 0 5 #[40, 45, 50, 55, 60, 65], 40) := by decide +kernel
theorem dX6_of_64 : decode cX6_of 64 = .ok (.aload_n 3, 1) := by decide +kernel
theorem dX6_of_65 : decode cX6_of 65 = .ok (.getfield 132, 3) := by decide +kernel
theorem dX6_of_68 : decode cX6_of 68 = .ok (.ireturn, 1) := by decide +kernel
theorem dX6_of_69 : decode cX6_of 69 = .ok (.aload_n 3, 1) := by decide +kernel
theorem dX6_of_70 : decode cX6_of 70 = .ok (.getfield 136, 3) := by decide +kernel
theorem dX6_of_73 : decode cX6_of 73 = .ok (.ireturn, 1) := by decide +kernel
theorem dX6_of_74 : decode cX6_of 74 = .ok (.aload_n 3, 1) := by decide +kernel
theorem dX6_of_75 : decode cX6_of 75 = .ok (.invokevirtual 138, 3) := by decide +kernel
theorem dX6_of_78 : decode cX6_of 78 = .ok (.ireturn, 1) := by decide +kernel
theorem dX6_of_79 : decode cX6_of 79 = .ok (.aload_n 3, 1) := by decide +kernel
theorem dX6_of_80 : decode cX6_of 80 = .ok (.getfield 142, 3) := by decide +kernel
theorem dX6_of_83 : decode cX6_of 83 = .ok (.ireturn, 1) := by decide +kernel
theorem dX6_of_84 : decode cX6_of 84 = .ok (.aload_n 3, 1) := by decide +kernel
theorem dX6_of_85 : decode cX6_of 85 = .ok (.getfield 144, 3) := by decide +kernel
theorem dX6_of_88 : decode cX6_of 88 = .ok (.ireturn, 1) := by decide +kernel
theorem dX6_of_89 : decode cX6_of 89 = .ok (.aload_n 3, 1) := by decide +kernel
theorem dX6_of_90 : decode cX6_of 90 = .ok (.getfield 147, 3) := by decide +kernel
theorem dX6_of_93 : decode cX6_of 93 = .ok (.ifCond .eq 7, 3) := by decide +kernel
theorem dX6_of_96 : decode cX6_of 96 = .ok (.iconst 1, 1) := by decide +kernel
theorem dX6_of_97 : decode cX6_of 97 = .ok (.goto 4, 3) := by decide +kernel
theorem dX6_of_100 : decode cX6_of 100 = .ok (.iconst 0, 1) := by decide +kernel
theorem dX6_of_101 : decode cX6_of 101 = .ok (.ireturn, 1) := by decide +kernel
theorem dX6_of_102 : decode cX6_of 102 = .ok (.iconst (-1), 1) := by decide +kernel
theorem dX6_of_103 : decode cX6_of 103 = .ok (.ireturn, 1) := by decide +kernel
theorem dX6_held_0 : decode cX6_held 0 = .ok (.iload_n 1, 1) := by decide +kernel
theorem dX6_held_1 : decode cX6_held 1 = .ok (.invokestatic 55, 3) := by decide +kernel
theorem dX6_held_4 : decode cX6_held 4 = .ok (.ifCond .ne 5, 3) := by decide +kernel
theorem dX6_held_7 : decode cX6_held 7 = .ok (.iconst (-1), 1) := by decide +kernel
theorem dX6_held_8 : decode cX6_held 8 = .ok (.ireturn, 1) := by decide +kernel
theorem dX6_held_9 : decode cX6_held 9 = .ok (.iload_n 2, 1) := by decide +kernel
theorem dX6_held_10 : decode cX6_held 10 = .ok (.tableswitch 66 0 3 #[30, 39, 48, 57], 30) := by decide +kernel
theorem dX6_held_40 : decode cX6_held 40 = .ok (.aload_n 0, 1) := by decide +kernel
theorem dX6_held_41 : decode cX6_held 41 = .ok (.getfield 21, 3) := by decide +kernel
theorem dX6_held_44 : decode cX6_held 44 = .ok (.iload_n 1, 1) := by decide +kernel
theorem dX6_held_45 : decode cX6_held 45 = .ok (.invokevirtual 151, 3) := by decide +kernel
theorem dX6_held_48 : decode cX6_held 48 = .ok (.ireturn, 1) := by decide +kernel
theorem dX6_held_49 : decode cX6_held 49 = .ok (.aload_n 0, 1) := by decide +kernel
theorem dX6_held_50 : decode cX6_held 50 = .ok (.getfield 21, 3) := by decide +kernel
theorem dX6_held_53 : decode cX6_held 53 = .ok (.iload_n 1, 1) := by decide +kernel
theorem dX6_held_54 : decode cX6_held 54 = .ok (.invokevirtual 154, 3) := by decide +kernel
theorem dX6_held_57 : decode cX6_held 57 = .ok (.ireturn, 1) := by decide +kernel
theorem dX6_held_58 : decode cX6_held 58 = .ok (.aload_n 0, 1) := by decide +kernel
theorem dX6_held_59 : decode cX6_held 59 = .ok (.getfield 21, 3) := by decide +kernel
theorem dX6_held_62 : decode cX6_held 62 = .ok (.iload_n 1, 1) := by decide +kernel
theorem dX6_held_63 : decode cX6_held 63 = .ok (.invokevirtual 157, 3) := by decide +kernel
theorem dX6_held_66 : decode cX6_held 66 = .ok (.ireturn, 1) := by decide +kernel
theorem dX6_held_67 : decode cX6_held 67 = .ok (.aload_n 0, 1) := by decide +kernel
theorem dX6_held_68 : decode cX6_held 68 = .ok (.getfield 30, 3) := by decide +kernel
theorem dX6_held_71 : decode cX6_held 71 = .ok (.iload_n 1, 1) := by decide +kernel
theorem dX6_held_72 : decode cX6_held 72 = .ok (.invokevirtual 160, 3) := by decide +kernel
theorem dX6_held_75 : decode cX6_held 75 = .ok (.ireturn, 1) := by decide +kernel
theorem dX6_held_76 : decode cX6_held 76 = .ok (.iconst (-1), 1) := by decide +kernel
theorem dX6_held_77 : decode cX6_held 77 = .ok (.ireturn, 1) := by decide +kernel
theorem dX6_cost_0 : decode cX6_cost 0 = .ok (.iload_n 1, 1) := by decide +kernel
theorem dX6_cost_1 : decode cX6_cost 1 = .ok (.tableswitch 63 0 3 #[31, 39, 47, 55], 31) := by decide +kernel
theorem dX6_cost_32 : decode cX6_cost 32 = .ok (.aload_n 0, 1) := by decide +kernel
theorem dX6_cost_33 : decode cX6_cost 33 = .ok (.getfield 30, 3) := by decide +kernel
theorem dX6_cost_36 : decode cX6_cost 36 = .ok (.invokevirtual 163, 3) := by decide +kernel
theorem dX6_cost_39 : decode cX6_cost 39 = .ok (.ireturn, 1) := by decide +kernel
theorem dX6_cost_40 : decode cX6_cost 40 = .ok (.aload_n 0, 1) := by decide +kernel
theorem dX6_cost_41 : decode cX6_cost 41 = .ok (.getfield 30, 3) := by decide +kernel
theorem dX6_cost_44 : decode cX6_cost 44 = .ok (.invokevirtual 166, 3) := by decide +kernel
theorem dX6_cost_47 : decode cX6_cost 47 = .ok (.ireturn, 1) := by decide +kernel
theorem dX6_cost_48 : decode cX6_cost 48 = .ok (.aload_n 0, 1) := by decide +kernel
theorem dX6_cost_49 : decode cX6_cost 49 = .ok (.getfield 30, 3) := by decide +kernel
theorem dX6_cost_52 : decode cX6_cost 52 = .ok (.invokevirtual 169, 3) := by decide +kernel
theorem dX6_cost_55 : decode cX6_cost 55 = .ok (.ireturn, 1) := by decide +kernel
theorem dX6_cost_56 : decode cX6_cost 56 = .ok (.aload_n 0, 1) := by decide +kernel
theorem dX6_cost_57 : decode cX6_cost 57 = .ok (.getfield 30, 3) := by decide +kernel
theorem dX6_cost_60 : decode cX6_cost 60 = .ok (.invokevirtual 172, 3) := by decide +kernel
theorem dX6_cost_63 : decode cX6_cost 63 = .ok (.ireturn, 1) := by decide +kernel
theorem dX6_cost_64 : decode cX6_cost 64 = .ok (.iconst (-1), 1) := by decide +kernel
theorem dX6_cost_65 : decode cX6_cost 65 = .ok (.ireturn, 1) := by decide +kernel
theorem dX6_below_0 : decode cX6_below 0 = .ok (.aload_n 0, 1) := by decide +kernel
theorem dX6_below_1 : decode cX6_below 1 = .ok (.getfield 30, 3) := by decide +kernel
theorem dX6_below_4 : decode cX6_below 4 = .ok (.invokevirtual 175, 3) := by decide +kernel
theorem dX6_below_7 : decode cX6_below 7 = .ok (.ireturn, 1) := by decide +kernel
theorem dX6_may_0 : decode cX6_may 0 = .ok (.aload_n 0, 1) := by decide +kernel
theorem dX6_may_1 : decode cX6_may 1 = .ok (.iload_n 1, 1) := by decide +kernel
theorem dX6_may_2 : decode cX6_may 2 = .ok (.iload_n 2, 1) := by decide +kernel
theorem dX6_may_3 : decode cX6_may 3 = .ok (.invokevirtual 178, 3) := by decide +kernel
theorem dX6_may_6 : decode cX6_may 6 = .ok (.istore_n 3, 1) := by decide +kernel
theorem dX6_may_7 : decode cX6_may 7 = .ok (.iload_n 3, 1) := by decide +kernel
theorem dX6_may_8 : decode cX6_may 8 = .ok (.ifCond .eq 7, 3) := by decide +kernel
theorem dX6_may_11 : decode cX6_may 11 = .ok (.iload_n 3, 1) := by decide +kernel
theorem dX6_may_12 : decode cX6_may 12 = .ok (.goto 12, 3) := by decide +kernel
theorem dX6_may_15 : decode cX6_may 15 = .ok (.aload_n 0, 1) := by decide +kernel
theorem dX6_may_16 : decode cX6_may 16 = .ok (.getfield 39, 3) := by decide +kernel
theorem dX6_may_19 : decode cX6_may 19 = .ok (.iload_n 1, 1) := by decide +kernel
theorem dX6_may_20 : decode cX6_may 20 = .ok (.iload_n 2, 1) := by decide +kernel
theorem dX6_may_21 : decode cX6_may 21 = .ok (.invokevirtual 181, 3) := by decide +kernel
theorem dX6_may_24 : decode cX6_may 24 = .ok (.ireturn, 1) := by decide +kernel
theorem dX6_put_0 : decode cX6_put 0 = .ok (.aload_n 0, 1) := by decide +kernel
theorem dX6_put_1 : decode cX6_put 1 = .ok (.iload_n 1, 1) := by decide +kernel
theorem dX6_put_2 : decode cX6_put 2 = .ok (.iload_n 2, 1) := by decide +kernel
theorem dX6_put_3 : decode cX6_put 3 = .ok (.invokevirtual 178, 3) := by decide +kernel
theorem dX6_put_6 : decode cX6_put 6 = .ok (.istore_n 3, 1) := by decide +kernel
theorem dX6_put_7 : decode cX6_put 7 = .ok (.iload_n 3, 1) := by decide +kernel
theorem dX6_put_8 : decode cX6_put 8 = .ok (.ifCond .eq 7, 3) := by decide +kernel
theorem dX6_put_11 : decode cX6_put 11 = .ok (.iload_n 3, 1) := by decide +kernel
theorem dX6_put_12 : decode cX6_put 12 = .ok (.goto 12, 3) := by decide +kernel
theorem dX6_put_15 : decode cX6_put 15 = .ok (.aload_n 0, 1) := by decide +kernel
theorem dX6_put_16 : decode cX6_put 16 = .ok (.getfield 39, 3) := by decide +kernel
theorem dX6_put_19 : decode cX6_put 19 = .ok (.iload_n 1, 1) := by decide +kernel
theorem dX6_put_20 : decode cX6_put 20 = .ok (.iload_n 2, 1) := by decide +kernel
theorem dX6_put_21 : decode cX6_put 21 = .ok (.invokevirtual 184, 3) := by decide +kernel
theorem dX6_put_24 : decode cX6_put 24 = .ok (.ireturn, 1) := by decide +kernel
theorem dX6_take_0 : decode cX6_take 0 = .ok (.aload_n 0, 1) := by decide +kernel
theorem dX6_take_1 : decode cX6_take 1 = .ok (.getfield 10, 3) := by decide +kernel
theorem dX6_take_4 : decode cX6_take 4 = .ok (.iload_n 1, 1) := by decide +kernel
theorem dX6_take_5 : decode cX6_take 5 = .ok (.invokevirtual 78, 3) := by decide +kernel
theorem dX6_take_8 : decode cX6_take 8 = .ok (.ifCond .ne 5, 3) := by decide +kernel
theorem dX6_take_11 : decode cX6_take 11 = .ok (.iconst (-1), 1) := by decide +kernel
theorem dX6_take_12 : decode cX6_take 12 = .ok (.ireturn, 1) := by decide +kernel
theorem dX6_take_13 : decode cX6_take 13 = .ok (.aload_n 0, 1) := by decide +kernel
theorem dX6_take_14 : decode cX6_take 14 = .ok (.getfield 21, 3) := by decide +kernel
theorem dX6_take_17 : decode cX6_take 17 = .ok (.iload_n 1, 1) := by decide +kernel
theorem dX6_take_18 : decode cX6_take 18 = .ok (.invokevirtual 114, 3) := by decide +kernel
theorem dX6_take_21 : decode cX6_take 21 = .ok (.istore_n 2, 1) := by decide +kernel
theorem dX6_take_22 : decode cX6_take 22 = .ok (.iload_n 2, 1) := by decide +kernel
theorem dX6_take_23 : decode cX6_take 23 = .ok (.iconst (-1), 1) := by decide +kernel
theorem dX6_take_24 : decode cX6_take 24 = .ok (.if_icmp .ne 6, 3) := by decide +kernel
theorem dX6_take_27 : decode cX6_take 27 = .ok (.bipush (-3), 2) := by decide +kernel
theorem dX6_take_29 : decode cX6_take 29 = .ok (.ireturn, 1) := by decide +kernel
theorem dX6_take_30 : decode cX6_take 30 = .ok (.aload_n 0, 1) := by decide +kernel
theorem dX6_take_31 : decode cX6_take 31 = .ok (.getfield 39, 3) := by decide +kernel
theorem dX6_take_34 : decode cX6_take 34 = .ok (.iload_n 1, 1) := by decide +kernel
theorem dX6_take_35 : decode cX6_take 35 = .ok (.iload_n 2, 1) := by decide +kernel
theorem dX6_take_36 : decode cX6_take 36 = .ok (.invokevirtual 187, 3) := by decide +kernel
theorem dX6_take_39 : decode cX6_take 39 = .ok (.iload_n 2, 1) := by decide +kernel
theorem dX6_take_40 : decode cX6_take 40 = .ok (.ireturn, 1) := by decide +kernel
theorem dX6_tidy_0 : decode cX6_tidy 0 = .ok (.aload_n 0, 1) := by decide +kernel
theorem dX6_tidy_1 : decode cX6_tidy 1 = .ok (.getfield 21, 3) := by decide +kernel
theorem dX6_tidy_4 : decode cX6_tidy 4 = .ok (.iload_n 1, 1) := by decide +kernel
theorem dX6_tidy_5 : decode cX6_tidy 5 = .ok (.invokevirtual 120, 3) := by decide +kernel
theorem dX6_tidy_8 : decode cX6_tidy 8 = .ok (.ifCond .ne 5, 3) := by decide +kernel
theorem dX6_tidy_11 : decode cX6_tidy 11 = .ok (.iconst (-1), 1) := by decide +kernel
theorem dX6_tidy_12 : decode cX6_tidy 12 = .ok (.ireturn, 1) := by decide +kernel
theorem dX6_tidy_13 : decode cX6_tidy 13 = .ok (.aload_n 0, 1) := by decide +kernel
theorem dX6_tidy_14 : decode cX6_tidy 14 = .ok (.getfield 39, 3) := by decide +kernel
theorem dX6_tidy_17 : decode cX6_tidy 17 = .ok (.iload_n 1, 1) := by decide +kernel
theorem dX6_tidy_18 : decode cX6_tidy 18 = .ok (.invokevirtual 191, 3) := by decide +kernel
theorem dX6_tidy_21 : decode cX6_tidy 21 = .ok (.aload_n 0, 1) := by decide +kernel
theorem dX6_tidy_22 : decode cX6_tidy 22 = .ok (.getfield 21, 3) := by decide +kernel
theorem dX6_tidy_25 : decode cX6_tidy 25 = .ok (.getfield 123, 3) := by decide +kernel
theorem dX6_tidy_28 : decode cX6_tidy 28 = .ok (.iload_n 1, 1) := by decide +kernel
theorem dX6_tidy_29 : decode cX6_tidy 29 = .ok (.aaload, 1) := by decide +kernel
theorem dX6_tidy_30 : decode cX6_tidy 30 = .ok (.getfield 136, 3) := by decide +kernel
theorem dX6_tidy_33 : decode cX6_tidy 33 = .ok (.ireturn, 1) := by decide +kernel
theorem dX6_trade_0 : decode cX6_trade 0 = .ok (.aload_n 0, 1) := by decide +kernel
theorem dX6_trade_1 : decode cX6_trade 1 = .ok (.getfield 21, 3) := by decide +kernel
theorem dX6_trade_4 : decode cX6_trade 4 = .ok (.iload_n 1, 1) := by decide +kernel
theorem dX6_trade_5 : decode cX6_trade 5 = .ok (.invokevirtual 120, 3) := by decide +kernel
theorem dX6_trade_8 : decode cX6_trade 8 = .ok (.ifCond .eq 14, 3) := by decide +kernel
theorem dX6_trade_11 : decode cX6_trade 11 = .ok (.aload_n 0, 1) := by decide +kernel
theorem dX6_trade_12 : decode cX6_trade 12 = .ok (.getfield 21, 3) := by decide +kernel
theorem dX6_trade_15 : decode cX6_trade 15 = .ok (.iload_n 2, 1) := by decide +kernel
theorem dX6_trade_16 : decode cX6_trade 16 = .ok (.invokevirtual 120, 3) := by decide +kernel
theorem dX6_trade_19 : decode cX6_trade 19 = .ok (.ifCond .ne 5, 3) := by decide +kernel
theorem dX6_trade_22 : decode cX6_trade 22 = .ok (.iconst (-1), 1) := by decide +kernel
theorem dX6_trade_23 : decode cX6_trade 23 = .ok (.ireturn, 1) := by decide +kernel
theorem dX6_trade_24 : decode cX6_trade 24 = .ok (.iload_n 1, 1) := by decide +kernel
theorem dX6_trade_25 : decode cX6_trade 25 = .ok (.iload_n 2, 1) := by decide +kernel
theorem dX6_trade_26 : decode cX6_trade 26 = .ok (.if_icmp .ne 6, 3) := by decide +kernel
theorem dX6_trade_29 : decode cX6_trade 29 = .ok (.bipush (-2), 2) := by decide +kernel
theorem dX6_trade_31 : decode cX6_trade 31 = .ok (.ireturn, 1) := by decide +kernel
theorem dX6_trade_32 : decode cX6_trade 32 = .ok (.aload_n 0, 1) := by decide +kernel
theorem dX6_trade_33 : decode cX6_trade 33 = .ok (.getfield 21, 3) := by decide +kernel
theorem dX6_trade_36 : decode cX6_trade 36 = .ok (.iload_n 1, 1) := by decide +kernel
theorem dX6_trade_37 : decode cX6_trade 37 = .ok (.iload_n 2, 1) := by decide +kernel
theorem dX6_trade_38 : decode cX6_trade 38 = .ok (.invokevirtual 195, 3) := by decide +kernel
theorem dX6_trade_41 : decode cX6_trade 41 = .ok (.aload_n 0, 1) := by decide +kernel
theorem dX6_trade_42 : decode cX6_trade 42 = .ok (.getfield 21, 3) := by decide +kernel
theorem dX6_trade_45 : decode cX6_trade 45 = .ok (.invokevirtual 74, 3) := by decide +kernel
theorem dX6_trade_48 : decode cX6_trade 48 = .ok (.ifCond .eq 11, 3) := by decide +kernel
theorem dX6_trade_51 : decode cX6_trade 51 = .ok (.aload_n 0, 1) := by decide +kernel
theorem dX6_trade_52 : decode cX6_trade 52 = .ok (.getfield 30, 3) := by decide +kernel
theorem dX6_trade_55 : decode cX6_trade 55 = .ok (.invokevirtual 163, 3) := by decide +kernel
theorem dX6_trade_58 : decode cX6_trade 58 = .ok (.ireturn, 1) := by decide +kernel
theorem dX6_trade_59 : decode cX6_trade 59 = .ok (.aload_n 0, 1) := by decide +kernel
theorem dX6_trade_60 : decode cX6_trade 60 = .ok (.getfield 21, 3) := by decide +kernel
theorem dX6_trade_63 : decode cX6_trade 63 = .ok (.iload_n 1, 1) := by decide +kernel
theorem dX6_trade_64 : decode cX6_trade 64 = .ok (.iload_n 2, 1) := by decide +kernel
theorem dX6_trade_65 : decode cX6_trade 65 = .ok (.invokevirtual 195, 3) := by decide +kernel
theorem dX6_trade_68 : decode cX6_trade 68 = .ok (.bipush (-3), 2) := by decide +kernel
theorem dX6_trade_70 : decode cX6_trade 70 = .ok (.ireturn, 1) := by decide +kernel
theorem dX6_better_0 : decode cX6_better 0 = .ok (.iconst 0, 1) := by decide +kernel
theorem dX6_better_1 : decode cX6_better 1 = .ok (.istore_n 1, 1) := by decide +kernel
theorem dX6_better_2 : decode cX6_better 2 = .ok (.iload_n 1, 1) := by decide +kernel
theorem dX6_better_3 : decode cX6_better 3 = .ok (.bipush 20, 2) := by decide +kernel
theorem dX6_better_5 : decode cX6_better 5 = .ok (.if_icmp .ge 29, 3) := by decide +kernel
theorem dX6_better_8 : decode cX6_better 8 = .ok (.aload_n 0, 1) := by decide +kernel
theorem dX6_better_9 : decode cX6_better 9 = .ok (.getfield 39, 3) := by decide +kernel
theorem dX6_better_12 : decode cX6_better 12 = .ok (.invokevirtual 198, 3) := by decide +kernel
theorem dX6_better_15 : decode cX6_better 15 = .ok (.ifCond .ne 13, 3) := by decide +kernel
theorem dX6_better_18 : decode cX6_better 18 = .ok (.aload_n 0, 1) := by decide +kernel
theorem dX6_better_19 : decode cX6_better 19 = .ok (.getfield 39, 3) := by decide +kernel
theorem dX6_better_22 : decode cX6_better 22 = .ok (.invokevirtual 201, 3) := by decide +kernel
theorem dX6_better_25 : decode cX6_better 25 = .ok (.ifCond .eq 9, 3) := by decide +kernel
theorem dX6_better_28 : decode cX6_better 28 = .ok (.iinc 1 1, 3) := by decide +kernel
theorem dX6_better_31 : decode cX6_better 31 = .ok (.goto (-29), 3) := by decide +kernel
theorem dX6_better_34 : decode cX6_better 34 = .ok (.iload_n 1, 1) := by decide +kernel
theorem dX6_better_35 : decode cX6_better 35 = .ok (.ireturn, 1) := by decide +kernel
theorem dX6_order_0 : decode cX6_order 0 = .ok (.aload_n 0, 1) := by decide +kernel
theorem dX6_order_1 : decode cX6_order 1 = .ok (.getfield 21, 3) := by decide +kernel
theorem dX6_order_4 : decode cX6_order 4 = .ok (.getfield 204, 3) := by decide +kernel
theorem dX6_order_7 : decode cX6_order 7 = .ok (.bipush 6, 2) := by decide +kernel
theorem dX6_order_9 : decode cX6_order 9 = .ok (.if_icmp .gt 13, 3) := by decide +kernel
theorem dX6_order_12 : decode cX6_order 12 = .ok (.aload_n 0, 1) := by decide +kernel
theorem dX6_order_13 : decode cX6_order 13 = .ok (.getfield 21, 3) := by decide +kernel
theorem dX6_order_16 : decode cX6_order 16 = .ok (.getfield 204, 3) := by decide +kernel
theorem dX6_order_19 : decode cX6_order 19 = .ok (.ifCond .ne 6, 3) := by decide +kernel
theorem dX6_order_22 : decode cX6_order 22 = .ok (.bipush (-3), 2) := by decide +kernel
theorem dX6_order_24 : decode cX6_order 24 = .ok (.ireturn, 1) := by decide +kernel
theorem dX6_order_25 : decode cX6_order 25 = .ok (.aload_n 0, 1) := by decide +kernel
theorem dX6_order_26 : decode cX6_order 26 = .ok (.getfield 39, 3) := by decide +kernel
theorem dX6_order_29 : decode cX6_order 29 = .ok (.invokevirtual 207, 3) := by decide +kernel
theorem dX6_order_32 : decode cX6_order 32 = .ok (.ireturn, 1) := by decide +kernel
theorem dX6_rain_0 : decode cX6_rain 0 = .ok (.aload_n 0, 1) := by decide +kernel
theorem dX6_rain_1 : decode cX6_rain 1 = .ok (.getfield 21, 3) := by decide +kernel
theorem dX6_rain_4 : decode cX6_rain 4 = .ok (.iload_n 1, 1) := by decide +kernel
theorem dX6_rain_5 : decode cX6_rain 5 = .ok (.invokevirtual 120, 3) := by decide +kernel
theorem dX6_rain_8 : decode cX6_rain 8 = .ok (.ifCond .ne 5, 3) := by decide +kernel
theorem dX6_rain_11 : decode cX6_rain 11 = .ok (.iconst (-1), 1) := by decide +kernel
theorem dX6_rain_12 : decode cX6_rain 12 = .ok (.ireturn, 1) := by decide +kernel
theorem dX6_rain_13 : decode cX6_rain 13 = .ok (.aload_n 0, 1) := by decide +kernel
theorem dX6_rain_14 : decode cX6_rain 14 = .ok (.getfield 39, 3) := by decide +kernel
theorem dX6_rain_17 : decode cX6_rain 17 = .ok (.iload_n 1, 1) := by decide +kernel
theorem dX6_rain_18 : decode cX6_rain 18 = .ok (.invokevirtual 210, 3) := by decide +kernel
theorem dX6_rain_21 : decode cX6_rain 21 = .ok (.istore_n 2, 1) := by decide +kernel
theorem dX6_rain_22 : decode cX6_rain 22 = .ok (.bipush 16, 2) := by decide +kernel
theorem dX6_rain_24 : decode cX6_rain 24 = .ok (.iload_n 2, 1) := by decide +kernel
theorem dX6_rain_25 : decode cX6_rain 25 = .ok (.imul, 1) := by decide +kernel
theorem dX6_rain_26 : decode cX6_rain 26 = .ok (.aload_n 0, 1) := by decide +kernel
theorem dX6_rain_27 : decode cX6_rain 27 = .ok (.getfield 39, 3) := by decide +kernel
theorem dX6_rain_30 : decode cX6_rain 30 = .ok (.iload_n 1, 1) := by decide +kernel
theorem dX6_rain_31 : decode cX6_rain 31 = .ok (.invokevirtual 213, 3) := by decide +kernel
theorem dX6_rain_34 : decode cX6_rain 34 = .ok (.iadd, 1) := by decide +kernel
theorem dX6_rain_35 : decode cX6_rain 35 = .ok (.ireturn, 1) := by decide +kernel
theorem dX6_change_0 : decode cX6_change 0 = .ok (.aload_n 0, 1) := by decide +kernel
theorem dX6_change_1 : decode cX6_change 1 = .ok (.getfield 21, 3) := by decide +kernel
theorem dX6_change_4 : decode cX6_change 4 = .ok (.iload_n 1, 1) := by decide +kernel
theorem dX6_change_5 : decode cX6_change 5 = .ok (.invokevirtual 120, 3) := by decide +kernel
theorem dX6_change_8 : decode cX6_change 8 = .ok (.ifCond .ne 5, 3) := by decide +kernel
theorem dX6_change_11 : decode cX6_change 11 = .ok (.iconst (-1), 1) := by decide +kernel
theorem dX6_change_12 : decode cX6_change 12 = .ok (.ireturn, 1) := by decide +kernel
theorem dX6_change_13 : decode cX6_change 13 = .ok (.iload_n 2, 1) := by decide +kernel
theorem dX6_change_14 : decode cX6_change 14 = .ok (.iload_n 3, 1) := by decide +kernel
theorem dX6_change_15 : decode cX6_change 15 = .ok (.invokestatic 92, 3) := by decide +kernel
theorem dX6_change_18 : decode cX6_change 18 = .ok (.ifCond .ne 6, 3) := by decide +kernel
theorem dX6_change_21 : decode cX6_change 21 = .ok (.bipush (-2), 2) := by decide +kernel
theorem dX6_change_23 : decode cX6_change 23 = .ok (.ireturn, 1) := by decide +kernel
theorem dX6_change_24 : decode cX6_change 24 = .ok (.aload_n 0, 1) := by decide +kernel
theorem dX6_change_25 : decode cX6_change 25 = .ok (.getfield 21, 3) := by decide +kernel
theorem dX6_change_28 : decode cX6_change 28 = .ok (.getfield 123, 3) := by decide +kernel
theorem dX6_change_31 : decode cX6_change 31 = .ok (.iload_n 1, 1) := by decide +kernel
theorem dX6_change_32 : decode cX6_change 32 = .ok (.aaload, 1) := by decide +kernel
theorem dX6_change_33 : decode cX6_change 33 = .ok (.iload_n 2, 1) := by decide +kernel
theorem dX6_change_34 : decode cX6_change 34 = .ok (.iload_n 3, 1) := by decide +kernel
theorem dX6_change_35 : decode cX6_change 35 = .ok (.invokevirtual 216, 3) := by decide +kernel
theorem dX6_change_38 : decode cX6_change 38 = .ok (.ifCond .ne 6, 3) := by decide +kernel
theorem dX6_change_41 : decode cX6_change 41 = .ok (.bipush (-3), 2) := by decide +kernel
theorem dX6_change_43 : decode cX6_change 43 = .ok (.ireturn, 1) := by decide +kernel
theorem dX6_change_44 : decode cX6_change 44 = .ok (.aload_n 0, 1) := by decide +kernel
theorem dX6_change_45 : decode cX6_change 45 = .ok (.getfield 21, 3) := by decide +kernel
theorem dX6_change_48 : decode cX6_change 48 = .ok (.getfield 219, 3) := by decide +kernel
theorem dX6_change_51 : decode cX6_change 51 = .ok (.iload_n 1, 1) := by decide +kernel
theorem dX6_change_52 : decode cX6_change 52 = .ok (.iload_n 2, 1) := by decide +kernel
theorem dX6_change_53 : decode cX6_change 53 = .ok (.iastore, 1) := by decide +kernel
theorem dX6_change_54 : decode cX6_change 54 = .ok (.aload_n 0, 1) := by decide +kernel
theorem dX6_change_55 : decode cX6_change 55 = .ok (.getfield 21, 3) := by decide +kernel
theorem dX6_change_58 : decode cX6_change 58 = .ok (.getfield 222, 3) := by decide +kernel
theorem dX6_change_61 : decode cX6_change 61 = .ok (.iload_n 1, 1) := by decide +kernel
theorem dX6_change_62 : decode cX6_change 62 = .ok (.iload_n 3, 1) := by decide +kernel
theorem dX6_change_63 : decode cX6_change 63 = .ok (.iastore, 1) := by decide +kernel
theorem dX6_change_64 : decode cX6_change 64 = .ok (.iconst 0, 1) := by decide +kernel
theorem dX6_change_65 : decode cX6_change 65 = .ok (.ireturn, 1) := by decide +kernel
theorem dX6_count_0 : decode cX6_count 0 = .ok (.iload_n 1, 1) := by decide +kernel
theorem dX6_count_1 : decode cX6_count 1 = .ok (.tableswitch 69 0 3 #[31, 39, 47, 58], 31) := by decide +kernel
theorem dX6_count_32 : decode cX6_count 32 = .ok (.aload_n 0, 1) := by decide +kernel
theorem dX6_count_33 : decode cX6_count 33 = .ok (.getfield 10, 3) := by decide +kernel
theorem dX6_count_36 : decode cX6_count 36 = .ok (.getfield 225, 3) := by decide +kernel
theorem dX6_count_39 : decode cX6_count 39 = .ok (.ireturn, 1) := by decide +kernel
theorem dX6_count_40 : decode cX6_count 40 = .ok (.aload_n 0, 1) := by decide +kernel
theorem dX6_count_41 : decode cX6_count 41 = .ok (.getfield 21, 3) := by decide +kernel
theorem dX6_count_44 : decode cX6_count 44 = .ok (.getfield 204, 3) := by decide +kernel
theorem dX6_count_47 : decode cX6_count 47 = .ok (.ireturn, 1) := by decide +kernel
theorem dX6_count_48 : decode cX6_count 48 = .ok (.aload_n 0, 1) := by decide +kernel
theorem dX6_count_49 : decode cX6_count 49 = .ok (.getfield 21, 3) := by decide +kernel
theorem dX6_count_52 : decode cX6_count 52 = .ok (.invokevirtual 228, 3) := by decide +kernel
theorem dX6_count_55 : decode cX6_count 55 = .ok (.invokestatic 231, 3) := by decide +kernel
theorem dX6_count_58 : decode cX6_count 58 = .ok (.ireturn, 1) := by decide +kernel
theorem dX6_count_59 : decode cX6_count 59 = .ok (.aload_n 0, 1) := by decide +kernel
theorem dX6_count_60 : decode cX6_count 60 = .ok (.getfield 10, 3) := by decide +kernel
theorem dX6_count_63 : decode cX6_count 63 = .ok (.invokevirtual 236, 3) := by decide +kernel
theorem dX6_count_66 : decode cX6_count 66 = .ok (.invokestatic 231, 3) := by decide +kernel
theorem dX6_count_69 : decode cX6_count 69 = .ok (.ireturn, 1) := by decide +kernel
theorem dX6_count_70 : decode cX6_count 70 = .ok (.iconst (-1), 1) := by decide +kernel
theorem dX6_count_71 : decode cX6_count 71 = .ok (.ireturn, 1) := by decide +kernel
theorem dX6_refusalToJoin_0 : decode cX6_refusalToJoin 0 = .ok (.aload_n 0, 1) := by decide +kernel
theorem dX6_refusalToJoin_1 : decode cX6_refusalToJoin 1 = .ok (.getfield 10, 3) := by decide +kernel
theorem dX6_refusalToJoin_4 : decode cX6_refusalToJoin 4 = .ok (.iload_n 1, 1) := by decide +kernel
theorem dX6_refusalToJoin_5 : decode cX6_refusalToJoin 5 = .ok (.invokevirtual 78, 3) := by decide +kernel
theorem dX6_refusalToJoin_8 : decode cX6_refusalToJoin 8 = .ok (.ifCond .eq 14, 3) := by decide +kernel
theorem dX6_refusalToJoin_11 : decode cX6_refusalToJoin 11 = .ok (.aload_n 0, 1) := by decide +kernel
theorem dX6_refusalToJoin_12 : decode cX6_refusalToJoin 12 = .ok (.getfield 21, 3) := by decide +kernel
theorem dX6_refusalToJoin_15 : decode cX6_refusalToJoin 15 = .ok (.iload_n 2, 1) := by decide +kernel
theorem dX6_refusalToJoin_16 : decode cX6_refusalToJoin 16 = .ok (.invokevirtual 120, 3) := by decide +kernel
theorem dX6_refusalToJoin_19 : decode cX6_refusalToJoin 19 = .ok (.ifCond .ne 5, 3) := by decide +kernel
theorem dX6_refusalToJoin_22 : decode cX6_refusalToJoin 22 = .ok (.iconst (-1), 1) := by decide +kernel
theorem dX6_refusalToJoin_23 : decode cX6_refusalToJoin 23 = .ok (.ireturn, 1) := by decide +kernel
theorem dX6_refusalToJoin_24 : decode cX6_refusalToJoin 24 = .ok (.aload_n 0, 1) := by decide +kernel
theorem dX6_refusalToJoin_25 : decode cX6_refusalToJoin 25 = .ok (.getfield 21, 3) := by decide +kernel
theorem dX6_refusalToJoin_28 : decode cX6_refusalToJoin 28 = .ok (.iload_n 1, 1) := by decide +kernel
theorem dX6_refusalToJoin_29 : decode cX6_refusalToJoin 29 = .ok (.invokevirtual 114, 3) := by decide +kernel
theorem dX6_refusalToJoin_32 : decode cX6_refusalToJoin 32 = .ok (.iconst (-1), 1) := by decide +kernel
theorem dX6_refusalToJoin_33 : decode cX6_refusalToJoin 33 = .ok (.if_icmp .ne 7, 3) := by decide +kernel
theorem dX6_refusalToJoin_36 : decode cX6_refusalToJoin 36 = .ok (.iconst 0, 1) := by decide +kernel
theorem dX6_refusalToJoin_37 : decode cX6_refusalToJoin 37 = .ok (.goto 5, 3) := by decide +kernel
theorem dX6_refusalToJoin_40 : decode cX6_refusalToJoin 40 = .ok (.bipush (-3), 2) := by decide +kernel
theorem dX6_refusalToJoin_42 : decode cX6_refusalToJoin 42 = .ok (.ireturn, 1) := by decide +kernel
theorem dX6_within_0 : decode cX6_within 0 = .ok (.iload_n 0, 1) := by decide +kernel
theorem dX6_within_1 : decode cX6_within 1 = .ok (.iload_n 1, 1) := by decide +kernel
theorem dX6_within_2 : decode cX6_within 2 = .ok (.if_icmp .lt 12, 3) := by decide +kernel
theorem dX6_within_5 : decode cX6_within 5 = .ok (.iload_n 0, 1) := by decide +kernel
theorem dX6_within_6 : decode cX6_within 6 = .ok (.iload_n 2, 1) := by decide +kernel
theorem dX6_within_7 : decode cX6_within 7 = .ok (.if_icmp .gt 7, 3) := by decide +kernel
theorem dX6_within_10 : decode cX6_within 10 = .ok (.iconst 1, 1) := by decide +kernel
theorem dX6_within_11 : decode cX6_within 11 = .ok (.goto 4, 3) := by decide +kernel
theorem dX6_within_14 : decode cX6_within 14 = .ok (.iconst 0, 1) := by decide +kernel
theorem dX6_within_15 : decode cX6_within 15 = .ok (.ireturn, 1) := by decide +kernel
theorem dX6_isPlace_0 : decode cX6_isPlace 0 = .ok (.iload_n 0, 1) := by decide +kernel
theorem dX6_isPlace_1 : decode cX6_isPlace 1 = .ok (.iconst 0, 1) := by decide +kernel
theorem dX6_isPlace_2 : decode cX6_isPlace 2 = .ok (.bipush 7, 2) := by decide +kernel
theorem dX6_isPlace_4 : decode cX6_isPlace 4 = .ok (.invokestatic 43, 3) := by decide +kernel
theorem dX6_isPlace_7 : decode cX6_isPlace 7 = .ok (.ireturn, 1) := by decide +kernel
theorem dX6_isPlayer_0 : decode cX6_isPlayer 0 = .ok (.iload_n 0, 1) := by decide +kernel
theorem dX6_isPlayer_1 : decode cX6_isPlayer 1 = .ok (.iconst 0, 1) := by decide +kernel
theorem dX6_isPlayer_2 : decode cX6_isPlayer 2 = .ok (.bipush 7, 2) := by decide +kernel
theorem dX6_isPlayer_4 : decode cX6_isPlayer 4 = .ok (.invokestatic 43, 3) := by decide +kernel
theorem dX6_isPlayer_7 : decode cX6_isPlayer 7 = .ok (.ireturn, 1) := by decide +kernel
theorem dX6_isDayLength_0 : decode cX6_isDayLength 0 = .ok (.iload_n 0, 1) := by decide +kernel
theorem dX6_isDayLength_1 : decode cX6_isDayLength 1 = .ok (.bipush 60, 2) := by decide +kernel
theorem dX6_isDayLength_3 : decode cX6_isDayLength 3 = .ok (.sipush 900, 3) := by decide +kernel
theorem dX6_isDayLength_6 : decode cX6_isDayLength 6 = .ok (.invokestatic 43, 3) := by decide +kernel
theorem dX6_isDayLength_9 : decode cX6_isDayLength 9 = .ok (.ifCond .eq 18, 3) := by decide +kernel
theorem dX6_isDayLength_12 : decode cX6_isDayLength 12 = .ok (.iload_n 1, 1) := by decide +kernel
theorem dX6_isDayLength_13 : decode cX6_isDayLength 13 = .ok (.iconst 0, 1) := by decide +kernel
theorem dX6_isDayLength_14 : decode cX6_isDayLength 14 = .ok (.sipush 900, 3) := by decide +kernel
theorem dX6_isDayLength_17 : decode cX6_isDayLength 17 = .ok (.invokestatic 43, 3) := by decide +kernel
theorem dX6_isDayLength_20 : decode cX6_isDayLength 20 = .ok (.ifCond .eq 7, 3) := by decide +kernel
theorem dX6_isDayLength_23 : decode cX6_isDayLength 23 = .ok (.iconst 1, 1) := by decide +kernel
theorem dX6_isDayLength_24 : decode cX6_isDayLength 24 = .ok (.goto 4, 3) := by decide +kernel
theorem dX6_isDayLength_27 : decode cX6_isDayLength 27 = .ok (.iconst 0, 1) := by decide +kernel
theorem dX6_isDayLength_28 : decode cX6_isDayLength 28 = .ok (.ireturn, 1) := by decide +kernel
theorem dX6_hasBit_0 : decode cX6_hasBit 0 = .ok (.iload_n 0, 1) := by decide +kernel
theorem dX6_hasBit_1 : decode cX6_hasBit 1 = .ok (.iload_n 1, 1) := by decide +kernel
theorem dX6_hasBit_2 : decode cX6_hasBit 2 = .ok (.ishr, 1) := by decide +kernel
theorem dX6_hasBit_3 : decode cX6_hasBit 3 = .ok (.iconst 1, 1) := by decide +kernel
theorem dX6_hasBit_4 : decode cX6_hasBit 4 = .ok (.iand, 1) := by decide +kernel
theorem dX6_hasBit_5 : decode cX6_hasBit 5 = .ok (.ifCond .eq 7, 3) := by decide +kernel
theorem dX6_hasBit_8 : decode cX6_hasBit 8 = .ok (.iconst 1, 1) := by decide +kernel
theorem dX6_hasBit_9 : decode cX6_hasBit 9 = .ok (.goto 4, 3) := by decide +kernel
theorem dX6_hasBit_12 : decode cX6_hasBit 12 = .ok (.iconst 0, 1) := by decide +kernel
theorem dX6_hasBit_13 : decode cX6_hasBit 13 = .ok (.ireturn, 1) := by decide +kernel
