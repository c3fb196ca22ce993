theorem dX0_init_0 : decode cX0_init 0 = .ok (.aload_n 0, 1) := by decide +kernel
theorem dX0_init_1 : decode cX0_init 1 = .ok (.invokespecial 3, 3) := by decide +kernel
theorem dX0_init_4 : decode cX0_init 4 = .ok (.aload_n 0, 1) := by decide +kernel
theorem dX0_init_5 : decode cX0_init 5 = .ok (.iconst 5, 1) := by decide +kernel
theorem dX0_init_6 : decode cX0_init 6 = .ok (.newarray .int, 2) := by decide +kernel
theorem dX0_init_8 : decode cX0_init 8 = .ok (.putfield 9, 3) := by decide +kernel
theorem dX0_init_11 : decode cX0_init 11 = .ok (.aload_n 0, 1) := by decide +kernel
theorem dX0_init_12 : decode cX0_init 12 = .ok (.iconst 5, 1) := by decide +kernel
theorem dX0_init_13 : decode cX0_init 13 = .ok (.newarray .int, 2) := by decide +kernel
theorem dX0_init_15 : decode cX0_init 15 = .ok (.putfield 15, 3) := by decide +kernel
theorem dX0_init_18 : decode cX0_init 18 = .ok (.aload_n 0, 1) := by decide +kernel
theorem dX0_init_19 : decode cX0_init 19 = .ok (.iconst 5, 1) := by decide +kernel
theorem dX0_init_20 : decode cX0_init 20 = .ok (.newarray .int, 2) := by decide +kernel
theorem dX0_init_22 : decode cX0_init 22 = .ok (.putfield 18, 3) := by decide +kernel
theorem dX0_init_25 : decode cX0_init 25 = .ok (.aload_n 0, 1) := by decide +kernel
theorem dX0_init_26 : decode cX0_init 26 = .ok (.aload_n 1, 1) := by decide +kernel
theorem dX0_init_27 : decode cX0_init 27 = .ok (.putfield 21, 3) := by decide +kernel
theorem dX0_init_30 : decode cX0_init 30 = .ok (.return_, 1) := by decide +kernel
theorem dX0_arrange_0 : decode cX0_arrange 0 = .ok (.aload_n 0, 1) := by decide +kernel
theorem dX0_arrange_1 : decode cX0_arrange 1 = .ok (.iload_n 1, 1) := by decide +kernel
theorem dX0_arrange_2 : decode cX0_arrange 2 = .ok (.invokevirtual 25, 3) := by decide +kernel
theorem dX0_arrange_5 : decode cX0_arrange 5 = .ok (.aload_n 0, 1) := by decide +kernel
theorem dX0_arrange_6 : decode cX0_arrange 6 = .ok (.ldc 31, 2) := by decide +kernel
theorem dX0_arrange_8 : decode cX0_arrange 8 = .ok (.putfield 32, 3) := by decide +kernel
theorem dX0_arrange_11 : decode cX0_arrange 11 = .ok (.aload_n 0, 1) := by decide +kernel
theorem dX0_arrange_12 : decode cX0_arrange 12 = .ok (.iconst 0, 1) := by decide +kernel
theorem dX0_arrange_13 : decode cX0_arrange 13 = .ok (.iconst 0, 1) := by decide +kernel
theorem dX0_arrange_14 : decode cX0_arrange 14 = .ok (.iconst 0, 1) := by decide +kernel
theorem dX0_arrange_15 : decode cX0_arrange 15 = .ok (.invokevirtual 36, 3) := by decide +kernel
theorem dX0_arrange_18 : decode cX0_arrange 18 = .ok (.aload_n 2, 1) := by decide +kernel
theorem dX0_arrange_19 : decode cX0_arrange 19 = .ok (.invokevirtual 40, 3) := by decide +kernel
theorem dX0_arrange_22 : decode cX0_arrange 22 = .ok (.iconst 0, 1) := by decide +kernel
theorem dX0_arrange_23 : decode cX0_arrange 23 = .ok (.istore_n 3, 1) := by decide +kernel
theorem dX0_arrange_24 : decode cX0_arrange 24 = .ok (.iload_n 3, 1) := by decide +kernel
theorem dX0_arrange_25 : decode cX0_arrange 25 = .ok (.aload_n 0, 1) := by decide +kernel
theorem dX0_arrange_26 : decode cX0_arrange 26 = .ok (.getfield 45, 3) := by decide +kernel
theorem dX0_arrange_29 : decode cX0_arrange 29 = .ok (.if_icmp .ge 19, 3) := by decide +kernel
theorem dX0_arrange_32 : decode cX0_arrange 32 = .ok (.aload_n 2, 1) := by decide +kernel
theorem dX0_arrange_33 : decode cX0_arrange 33 = .ok (.aload_n 0, 1) := by decide +kernel
theorem dX0_arrange_34 : decode cX0_arrange 34 = .ok (.getfield 18, 3) := by decide +kernel
theorem dX0_arrange_37 : decode cX0_arrange 37 = .ok (.iload_n 3, 1) := by decide +kernel
theorem dX0_arrange_38 : decode cX0_arrange 38 = .ok (.iaload, 1) := by decide +kernel
theorem dX0_arrange_39 : decode cX0_arrange 39 = .ok (.invokevirtual 48, 3) := by decide +kernel
theorem dX0_arrange_42 : decode cX0_arrange 42 = .ok (.iinc 3 1, 3) := by decide +kernel
theorem dX0_arrange_45 : decode cX0_arrange 45 = .ok (.goto (-21), 3) := by decide +kernel
theorem dX0_arrange_48 : decode cX0_arrange 48 = .ok (.aload_n 2, 1) := by decide +kernel
theorem dX0_arrange_49 : decode cX0_arrange 49 = .ok (.aload_n 0, 1) := by decide +kernel
theorem dX0_arrange_50 : decode cX0_arrange 50 = .ok (.getfield 21, 3) := by decide +kernel
theorem dX0_arrange_53 : decode cX0_arrange 53 = .ok (.invokevirtual 51, 3) := by decide +kernel
theorem dX0_arrange_56 : decode cX0_arrange 56 = .ok (.return_, 1) := by decide +kernel
theorem dX0_fillPool_0 : decode cX0_fillPool 0 = .ok (.aload_n 0, 1) := by decide +kernel
theorem dX0_fillPool_1 : decode cX0_fillPool 1 = .ok (.iconst 0, 1) := by decide +kernel
theorem dX0_fillPool_2 : decode cX0_fillPool 2 = .ok (.putfield 45, 3) := by decide +kernel
theorem dX0_fillPool_5 : decode cX0_fillPool 5 = .ok (.aload_n 0, 1) := by decide +kernel
theorem dX0_fillPool_6 : decode cX0_fillPool 6 = .ok (.iconst 0, 1) := by decide +kernel
theorem dX0_fillPool_7 : decode cX0_fillPool 7 = .ok (.putfield 55, 3) := by decide +kernel
theorem dX0_fillPool_10 : decode cX0_fillPool 10 = .ok (.iconst 0, 1) := by decide +kernel
theorem dX0_fillPool_11 : decode cX0_fillPool 11 = .ok (.istore_n 2, 1) := by decide +kernel
theorem dX0_fillPool_12 : decode cX0_fillPool 12 = .ok (.iload_n 2, 1) := by decide +kernel
theorem dX0_fillPool_13 : decode cX0_fillPool 13 = .ok (.aload_n 0, 1) := by decide +kernel
theorem dX0_fillPool_14 : decode cX0_fillPool 14 = .ok (.getfield 21, 3) := by decide +kernel
theorem dX0_fillPool_17 : decode cX0_fillPool 17 = .ok (.getfield 58, 3) := by decide +kernel
theorem dX0_fillPool_20 : decode cX0_fillPool 20 = .ok (.if_icmp .ge 57, 3) := by decide +kernel
theorem dX0_fillPool_23 : decode cX0_fillPool 23 = .ok (.aload_n 0, 1) := by decide +kernel
theorem dX0_fillPool_24 : decode cX0_fillPool 24 = .ok (.getfield 45, 3) := by decide +kernel
theorem dX0_fillPool_27 : decode cX0_fillPool 27 = .ok (.iconst 5, 1) := by decide +kernel
theorem dX0_fillPool_28 : decode cX0_fillPool 28 = .ok (.if_icmp .ge 49, 3) := by decide +kernel
theorem dX0_fillPool_31 : decode cX0_fillPool 31 = .ok (.iload_n 1, 1) := by decide +kernel
theorem dX0_fillPool_32 : decode cX0_fillPool 32 = .ok (.iload_n 2, 1) := by decide +kernel
theorem dX0_fillPool_33 : decode cX0_fillPool 33 = .ok (.invokestatic 63, 3) := by decide +kernel
theorem dX0_fillPool_36 : decode cX0_fillPool 36 = .ok (.ifCond .eq 35, 3) := by decide +kernel
theorem dX0_fillPool_39 : decode cX0_fillPool 39 = .ok (.aload_n 0, 1) := by decide +kernel
theorem dX0_fillPool_40 : decode cX0_fillPool 40 = .ok (.getfield 9, 3) := by decide +kernel
theorem dX0_fillPool_43 : decode cX0_fillPool 43 = .ok (.aload_n 0, 1) := by decide +kernel
theorem dX0_fillPool_44 : decode cX0_fillPool 44 = .ok (.getfield 45, 3) := by decide +kernel
theorem dX0_fillPool_47 : decode cX0_fillPool 47 = .ok (.iload_n 2, 1) := by decide +kernel
theorem dX0_fillPool_48 : decode cX0_fillPool 48 = .ok (.iastore, 1) := by decide +kernel
theorem dX0_fillPool_49 : decode cX0_fillPool 49 = .ok (.aload_n 0, 1) := by decide +kernel
theorem dX0_fillPool_50 : decode cX0_fillPool 50 = .ok (.dup, 1) := by decide +kernel
theorem dX0_fillPool_51 : decode cX0_fillPool 51 = .ok (.getfield 55, 3) := by decide +kernel
theorem dX0_fillPool_54 : decode cX0_fillPool 54 = .ok (.iconst 1, 1) := by decide +kernel
theorem dX0_fillPool_55 : decode cX0_fillPool 55 = .ok (.iload_n 2, 1) := by decide +kernel
theorem dX0_fillPool_56 : decode cX0_fillPool 56 = .ok (.ishl, 1) := by decide +kernel
theorem dX0_fillPool_57 : decode cX0_fillPool 57 = .ok (.ior, 1) := by decide +kernel
theorem dX0_fillPool_58 : decode cX0_fillPool 58 = .ok (.putfield 55, 3) := by decide +kernel
theorem dX0_fillPool_61 : decode cX0_fillPool 61 = .ok (.aload_n 0, 1) := by decide +kernel
theorem dX0_fillPool_62 : decode cX0_fillPool 62 = .ok (.dup, 1) := by decide +kernel
theorem dX0_fillPool_63 : decode cX0_fillPool 63 = .ok (.getfield 45, 3) := by decide +kernel
theorem dX0_fillPool_66 : decode cX0_fillPool 66 = .ok (.iconst 1, 1) := by decide +kernel
theorem dX0_fillPool_67 : decode cX0_fillPool 67 = .ok (.iadd, 1) := by decide +kernel
theorem dX0_fillPool_68 : decode cX0_fillPool 68 = .ok (.putfield 45, 3) := by decide +kernel
theorem dX0_fillPool_71 : decode cX0_fillPool 71 = .ok (.iinc 2 1, 3) := by decide +kernel
theorem dX0_fillPool_74 : decode cX0_fillPool 74 = .ok (.goto (-62), 3) := by decide +kernel
theorem dX0_fillPool_77 : decode cX0_fillPool 77 = .ok (.return_, 1) := by decide +kernel
theorem dX0_tryEach_0 : decode cX0_tryEach 0 = .ok (.iload_n 1, 1) := by decide +kernel
theorem dX0_tryEach_1 : decode cX0_tryEach 1 = .ok (.aload_n 0, 1) := by decide +kernel
theorem dX0_tryEach_2 : decode cX0_tryEach 2 = .ok (.getfield 45, 3) := by decide +kernel
theorem dX0_tryEach_5 : decode cX0_tryEach 5 = .ok (.if_icmp .lt 26, 3) := by decide +kernel
theorem dX0_tryEach_8 : decode cX0_tryEach 8 = .ok (.aload_n 0, 1) := by decide +kernel
theorem dX0_tryEach_9 : decode cX0_tryEach 9 = .ok (.iload_n 3, 1) := by decide +kernel
theorem dX0_tryEach_10 : decode cX0_tryEach 10 = .ok (.putfield 32, 3) := by decide +kernel
theorem dX0_tryEach_13 : decode cX0_tryEach 13 = .ok (.aload_n 0, 1) := by decide +kernel
theorem dX0_tryEach_14 : decode cX0_tryEach 14 = .ok (.getfield 15, 3) := by decide +kernel
theorem dX0_tryEach_17 : decode cX0_tryEach 17 = .ok (.iconst 0, 1) := by decide +kernel
theorem dX0_tryEach_18 : decode cX0_tryEach 18 = .ok (.aload_n 0, 1) := by decide +kernel
theorem dX0_tryEach_19 : decode cX0_tryEach 19 = .ok (.getfield 18, 3) := by decide +kernel
theorem dX0_tryEach_22 : decode cX0_tryEach 22 = .ok (.iconst 0, 1) := by decide +kernel
theorem dX0_tryEach_23 : decode cX0_tryEach 23 = .ok (.aload_n 0, 1) := by decide +kernel
theorem dX0_tryEach_24 : decode cX0_tryEach 24 = .ok (.getfield 45, 3) := by decide +kernel
theorem dX0_tryEach_27 : decode cX0_tryEach 27 = .ok (.invokestatic 67, 3) := by decide +kernel
theorem dX0_tryEach_30 : decode cX0_tryEach 30 = .ok (.return_, 1) := by decide +kernel
theorem dX0_tryEach_31 : decode cX0_tryEach 31 = .ok (.iconst 0, 1) := by decide +kernel
theorem dX0_tryEach_32 : decode cX0_tryEach 32 = .ok (.istore 4, 2) := by decide +kernel
theorem dX0_tryEach_34 : decode cX0_tryEach 34 = .ok (.iload 4, 2) := by decide +kernel
theorem dX0_tryEach_36 : decode cX0_tryEach 36 = .ok (.aload_n 0, 1) := by decide +kernel
theorem dX0_tryEach_37 : decode cX0_tryEach 37 = .ok (.getfield 45, 3) := by decide +kernel
theorem dX0_tryEach_40 : decode cX0_tryEach 40 = .ok (.if_icmp .ge 68, 3) := by decide +kernel
theorem dX0_tryEach_43 : decode cX0_tryEach 43 = .ok (.aload_n 0, 1) := by decide +kernel
theorem dX0_tryEach_44 : decode cX0_tryEach 44 = .ok (.getfield 21, 3) := by decide +kernel
theorem dX0_tryEach_47 : decode cX0_tryEach 47 = .ok (.getfield 73, 3) := by decide +kernel
theorem dX0_tryEach_50 : decode cX0_tryEach 50 = .ok (.aload_n 0, 1) := by decide +kernel
theorem dX0_tryEach_51 : decode cX0_tryEach 51 = .ok (.getfield 9, 3) := by decide +kernel
theorem dX0_tryEach_54 : decode cX0_tryEach 54 = .ok (.iload 4, 2) := by decide +kernel
theorem dX0_tryEach_56 : decode cX0_tryEach 56 = .ok (.iaload, 1) := by decide +kernel
theorem dX0_tryEach_57 : decode cX0_tryEach 57 = .ok (.iaload, 1) := by decide +kernel
theorem dX0_tryEach_58 : decode cX0_tryEach 58 = .ok (.aload_n 0, 1) := by decide +kernel
theorem dX0_tryEach_59 : decode cX0_tryEach 59 = .ok (.getfield 55, 3) := by decide +kernel
theorem dX0_tryEach_62 : decode cX0_tryEach 62 = .ok (.iand, 1) := by decide +kernel
theorem dX0_tryEach_63 : decode cX0_tryEach 63 = .ok (.iload_n 2, 1) := by decide +kernel
theorem dX0_tryEach_64 : decode cX0_tryEach 64 = .ok (.iconst (-1), 1) := by decide +kernel
theorem dX0_tryEach_65 : decode cX0_tryEach 65 = .ok (.ixor, 1) := by decide +kernel
theorem dX0_tryEach_66 : decode cX0_tryEach 66 = .ok (.iand, 1) := by decide +kernel
theorem dX0_tryEach_67 : decode cX0_tryEach 67 = .ok (.istore 5, 2) := by decide +kernel
theorem dX0_tryEach_69 : decode cX0_tryEach 69 = .ok (.iload_n 2, 1) := by decide +kernel
theorem dX0_tryEach_70 : decode cX0_tryEach 70 = .ok (.aload_n 0, 1) := by decide +kernel
theorem dX0_tryEach_71 : decode cX0_tryEach 71 = .ok (.getfield 9, 3) := by decide +kernel
theorem dX0_tryEach_74 : decode cX0_tryEach 74 = .ok (.iload 4, 2) := by decide +kernel
theorem dX0_tryEach_76 : decode cX0_tryEach 76 = .ok (.iaload, 1) := by decide +kernel
theorem dX0_tryEach_77 : decode cX0_tryEach 77 = .ok (.invokestatic 63, 3) := by decide +kernel
theorem dX0_tryEach_80 : decode cX0_tryEach 80 = .ok (.ifCond .ne 22, 3) := by decide +kernel
theorem dX0_tryEach_83 : decode cX0_tryEach 83 = .ok (.iload 5, 2) := by decide +kernel
theorem dX0_tryEach_85 : decode cX0_tryEach 85 = .ok (.ifCond .ne 17, 3) := by decide +kernel
theorem dX0_tryEach_88 : decode cX0_tryEach 88 = .ok (.aload_n 0, 1) := by decide +kernel
theorem dX0_tryEach_89 : decode cX0_tryEach 89 = .ok (.aload_n 0, 1) := by decide +kernel
theorem dX0_tryEach_90 : decode cX0_tryEach 90 = .ok (.getfield 9, 3) := by decide +kernel
theorem dX0_tryEach_93 : decode cX0_tryEach 93 = .ok (.iload 4, 2) := by decide +kernel
theorem dX0_tryEach_95 : decode cX0_tryEach 95 = .ok (.iaload, 1) := by decide +kernel
theorem dX0_tryEach_96 : decode cX0_tryEach 96 = .ok (.iload_n 1, 1) := by decide +kernel
theorem dX0_tryEach_97 : decode cX0_tryEach 97 = .ok (.iload_n 2, 1) := by decide +kernel
theorem dX0_tryEach_98 : decode cX0_tryEach 98 = .ok (.iload_n 3, 1) := by decide +kernel
theorem dX0_tryEach_99 : decode cX0_tryEach 99 = .ok (.invokevirtual 76, 3) := by decide +kernel
theorem dX0_tryEach_102 : decode cX0_tryEach 102 = .ok (.iinc 4 1, 3) := by decide +kernel
theorem dX0_tryEach_105 : decode cX0_tryEach 105 = .ok (.goto (-71), 3) := by decide +kernel
theorem dX0_tryEach_108 : decode cX0_tryEach 108 = .ok (.return_, 1) := by decide +kernel
theorem dX0_tryNext_0 : decode cX0_tryNext 0 = .ok (.iload_n 2, 1) := by decide +kernel
theorem dX0_tryNext_1 : decode cX0_tryNext 1 = .ok (.ifCond .le 25, 3) := by decide +kernel
theorem dX0_tryNext_4 : decode cX0_tryNext 4 = .ok (.iload 4, 2) := by decide +kernel
theorem dX0_tryNext_6 : decode cX0_tryNext 6 = .ok (.aload_n 0, 1) := by decide +kernel
theorem dX0_tryNext_7 : decode cX0_tryNext 7 = .ok (.getfield 21, 3) := by decide +kernel
theorem dX0_tryNext_10 : decode cX0_tryNext 10 = .ok (.aload_n 0, 1) := by decide +kernel
theorem dX0_tryNext_11 : decode cX0_tryNext 11 = .ok (.getfield 15, 3) := by decide +kernel
theorem dX0_tryNext_14 : decode cX0_tryNext 14 = .ok (.iload_n 2, 1) := by decide +kernel
theorem dX0_tryNext_15 : decode cX0_tryNext 15 = .ok (.iconst 1, 1) := by decide +kernel
theorem dX0_tryNext_16 : decode cX0_tryNext 16 = .ok (.isub, 1) := by decide +kernel
theorem dX0_tryNext_17 : decode cX0_tryNext 17 = .ok (.iaload, 1) := by decide +kernel
theorem dX0_tryNext_18 : decode cX0_tryNext 18 = .ok (.iload_n 1, 1) := by decide +kernel
theorem dX0_tryNext_19 : decode cX0_tryNext 19 = .ok (.invokevirtual 80, 3) := by decide +kernel
theorem dX0_tryNext_22 : decode cX0_tryNext 22 = .ok (.iadd, 1) := by decide +kernel
theorem dX0_tryNext_23 : decode cX0_tryNext 23 = .ok (.goto 5, 3) := by decide +kernel
theorem dX0_tryNext_26 : decode cX0_tryNext 26 = .ok (.iload 4, 2) := by decide +kernel
theorem dX0_tryNext_28 : decode cX0_tryNext 28 = .ok (.istore 5, 2) := by decide +kernel
theorem dX0_tryNext_30 : decode cX0_tryNext 30 = .ok (.iload 5, 2) := by decide +kernel
theorem dX0_tryNext_32 : decode cX0_tryNext 32 = .ok (.aload_n 0, 1) := by decide +kernel
theorem dX0_tryNext_33 : decode cX0_tryNext 33 = .ok (.getfield 32, 3) := by decide +kernel
theorem dX0_tryNext_36 : decode cX0_tryNext 36 = .ok (.if_icmp .ge 24, 3) := by decide +kernel
theorem dX0_tryNext_39 : decode cX0_tryNext 39 = .ok (.aload_n 0, 1) := by decide +kernel
theorem dX0_tryNext_40 : decode cX0_tryNext 40 = .ok (.getfield 15, 3) := by decide +kernel
theorem dX0_tryNext_43 : decode cX0_tryNext 43 = .ok (.iload_n 2, 1) := by decide +kernel
theorem dX0_tryNext_44 : decode cX0_tryNext 44 = .ok (.iload_n 1, 1) := by decide +kernel
theorem dX0_tryNext_45 : decode cX0_tryNext 45 = .ok (.iastore, 1) := by decide +kernel
theorem dX0_tryNext_46 : decode cX0_tryNext 46 = .ok (.aload_n 0, 1) := by decide +kernel
theorem dX0_tryNext_47 : decode cX0_tryNext 47 = .ok (.iload_n 2, 1) := by decide +kernel
theorem dX0_tryNext_48 : decode cX0_tryNext 48 = .ok (.iconst 1, 1) := by decide +kernel
theorem dX0_tryNext_49 : decode cX0_tryNext 49 = .ok (.iadd, 1) := by decide +kernel
theorem dX0_tryNext_50 : decode cX0_tryNext 50 = .ok (.iload_n 3, 1) := by decide +kernel
theorem dX0_tryNext_51 : decode cX0_tryNext 51 = .ok (.iconst 1, 1) := by decide +kernel
theorem dX0_tryNext_52 : decode cX0_tryNext 52 = .ok (.iload_n 1, 1) := by decide +kernel
theorem dX0_tryNext_53 : decode cX0_tryNext 53 = .ok (.ishl, 1) := by decide +kernel
theorem dX0_tryNext_54 : decode cX0_tryNext 54 = .ok (.ior, 1) := by decide +kernel
theorem dX0_tryNext_55 : decode cX0_tryNext 55 = .ok (.iload 5, 2) := by decide +kernel
theorem dX0_tryNext_57 : decode cX0_tryNext 57 = .ok (.invokevirtual 36, 3) := by decide +kernel
theorem dX0_tryNext_60 : decode cX0_tryNext 60 = .ok (.return_, 1) := by decide +kernel
theorem dX1_init_0 : decode cX1_init 0 = .ok (.aload_n 0, 1) := by decide +kernel
theorem dX1_init_1 : decode cX1_init 1 = .ok (.invokespecial 3, 3) := by decide +kernel
theorem dX1_init_4 : decode cX1_init 4 = .ok (.aload_n 0, 1) := by decide +kernel
theorem dX1_init_5 : decode cX1_init 5 = .ok (.aload_n 1, 1) := by decide +kernel
theorem dX1_init_6 : decode cX1_init 6 = .ok (.putfield 9, 3) := by decide +kernel
theorem dX1_init_9 : decode cX1_init 9 = .ok (.aload_n 0, 1) := by decide +kernel
theorem dX1_init_10 : decode cX1_init 10 = .ok (.aload_n 2, 1) := by decide +kernel
theorem dX1_init_11 : decode cX1_init 11 = .ok (.putfield 15, 3) := by decide +kernel
theorem dX1_init_14 : decode cX1_init 14 = .ok (.return_, 1) := by decide +kernel
theorem dX1_total_0 : decode cX1_total 0 = .ok (.aload_n 0, 1) := by decide +kernel
theorem dX1_total_1 : decode cX1_total 1 = .ok (.invokevirtual 19, 3) := by decide +kernel
theorem dX1_total_4 : decode cX1_total 4 = .ok (.aload_n 0, 1) := by decide +kernel
theorem dX1_total_5 : decode cX1_total 5 = .ok (.invokevirtual 23, 3) := by decide +kernel
theorem dX1_total_8 : decode cX1_total 8 = .ok (.iadd, 1) := by decide +kernel
theorem dX1_total_9 : decode cX1_total 9 = .ok (.aload_n 0, 1) := by decide +kernel
theorem dX1_total_10 : decode cX1_total 10 = .ok (.invokevirtual 26, 3) := by decide +kernel
theorem dX1_total_13 : decode cX1_total 13 = .ok (.iadd, 1) := by decide +kernel
theorem dX1_total_14 : decode cX1_total 14 = .ok (.ireturn, 1) := by decide +kernel
theorem dX1_wages_0 : decode cX1_wages 0 = .ok (.iconst 0, 1) := by decide +kernel
theorem dX1_wages_1 : decode cX1_wages 1 = .ok (.istore_n 1, 1) := by decide +kernel
theorem dX1_wages_2 : decode cX1_wages 2 = .ok (.iconst 0, 1) := by decide +kernel
theorem dX1_wages_3 : decode cX1_wages 3 = .ok (.istore_n 2, 1) := by decide +kernel
theorem dX1_wages_4 : decode cX1_wages 4 = .ok (.iload_n 2, 1) := by decide +kernel
theorem dX1_wages_5 : decode cX1_wages 5 = .ok (.bipush 8, 2) := by decide +kernel
theorem dX1_wages_7 : decode cX1_wages 7 = .ok (.if_icmp .ge 39, 3) := by decide +kernel
theorem dX1_wages_10 : decode cX1_wages 10 = .ok (.aload_n 0, 1) := by decide +kernel
theorem dX1_wages_11 : decode cX1_wages 11 = .ok (.getfield 9, 3) := by decide +kernel
theorem dX1_wages_14 : decode cX1_wages 14 = .ok (.getfield 29, 3) := by decide +kernel
theorem dX1_wages_17 : decode cX1_wages 17 = .ok (.iload_n 2, 1) := by decide +kernel
theorem dX1_wages_18 : decode cX1_wages 18 = .ok (.iaload, 1) := by decide +kernel
theorem dX1_wages_19 : decode cX1_wages 19 = .ok (.ifCond .le 21, 3) := by decide +kernel
theorem dX1_wages_22 : decode cX1_wages 22 = .ok (.iload_n 1, 1) := by decide +kernel
theorem dX1_wages_23 : decode cX1_wages 23 = .ok (.aload_n 0, 1) := by decide +kernel
theorem dX1_wages_24 : decode cX1_wages 24 = .ok (.getfield 9, 3) := by decide +kernel
theorem dX1_wages_27 : decode cX1_wages 27 = .ok (.getfield 29, 3) := by decide +kernel
theorem dX1_wages_30 : decode cX1_wages 30 = .ok (.iload_n 2, 1) := by decide +kernel
theorem dX1_wages_31 : decode cX1_wages 31 = .ok (.iaload, 1) := by decide +kernel
theorem dX1_wages_32 : decode cX1_wages 32 = .ok (.aload_n 0, 1) := by decide +kernel
theorem dX1_wages_33 : decode cX1_wages 33 = .ok (.iload_n 2, 1) := by decide +kernel
theorem dX1_wages_34 : decode cX1_wages 34 = .ok (.invokevirtual 35, 3) := by decide +kernel
theorem dX1_wages_37 : decode cX1_wages 37 = .ok (.imul, 1) := by decide +kernel
theorem dX1_wages_38 : decode cX1_wages 38 = .ok (.iadd, 1) := by decide +kernel
theorem dX1_wages_39 : decode cX1_wages 39 = .ok (.istore_n 1, 1) := by decide +kernel
theorem dX1_wages_40 : decode cX1_wages 40 = .ok (.iinc 2 1, 3) := by decide +kernel
theorem dX1_wages_43 : decode cX1_wages 43 = .ok (.goto (-39), 3) := by decide +kernel
theorem dX1_wages_46 : decode cX1_wages 46 = .ok (.iload_n 1, 1) := by decide +kernel
theorem dX1_wages_47 : decode cX1_wages 47 = .ok (.ireturn, 1) := by decide +kernel
theorem dX1_paidDays_0 : decode cX1_paidDays 0 = .ok (.iconst 0, 1) := by decide +kernel
theorem dX1_paidDays_1 : decode cX1_paidDays 1 = .ok (.istore_n 2, 1) := by decide +kernel
theorem dX1_paidDays_2 : decode cX1_paidDays 2 = .ok (.iconst 0, 1) := by decide +kernel
theorem dX1_paidDays_3 : decode cX1_paidDays 3 = .ok (.istore_n 3, 1) := by decide +kernel
theorem dX1_paidDays_4 : decode cX1_paidDays 4 = .ok (.iconst 0, 1) := by decide +kernel
theorem dX1_paidDays_5 : decode cX1_paidDays 5 = .ok (.istore 4, 2) := by decide +kernel
theorem dX1_paidDays_7 : decode cX1_paidDays 7 = .ok (.iload 4, 2) := by decide +kernel
theorem dX1_paidDays_9 : decode cX1_paidDays 9 = .ok (.aload_n 0, 1) := by decide +kernel
theorem dX1_paidDays_10 : decode cX1_paidDays 10 = .ok (.getfield 15, 3) := by decide +kernel
theorem dX1_paidDays_13 : decode cX1_paidDays 13 = .ok (.getfield 39, 3) := by decide +kernel
theorem dX1_paidDays_16 : decode cX1_paidDays 16 = .ok (.if_icmp .ge 50, 3) := by decide +kernel
theorem dX1_paidDays_19 : decode cX1_paidDays 19 = .ok (.aload_n 0, 1) := by decide +kernel
theorem dX1_paidDays_20 : decode cX1_paidDays 20 = .ok (.getfield 15, 3) := by decide +kernel
theorem dX1_paidDays_23 : decode cX1_paidDays 23 = .ok (.iload_n 1, 1) := by decide +kernel
theorem dX1_paidDays_24 : decode cX1_paidDays 24 = .ok (.iload 4, 2) := by decide +kernel
theorem dX1_paidDays_26 : decode cX1_paidDays 26 = .ok (.invokevirtual 45, 3) := by decide +kernel
theorem dX1_paidDays_29 : decode cX1_paidDays 29 = .ok (.ifCond .ne 9, 3) := by decide +kernel
theorem dX1_paidDays_32 : decode cX1_paidDays 32 = .ok (.iinc 3 1, 3) := by decide +kernel
theorem dX1_paidDays_35 : decode cX1_paidDays 35 = .ok (.goto 25, 3) := by decide +kernel
theorem dX1_paidDays_38 : decode cX1_paidDays 38 = .ok (.iload_n 2, 1) := by decide +kernel
theorem dX1_paidDays_39 : decode cX1_paidDays 39 = .ok (.ifCond .le 16, 3) := by decide +kernel
theorem dX1_paidDays_42 : decode cX1_paidDays 42 = .ok (.aload_n 0, 1) := by decide +kernel
theorem dX1_paidDays_43 : decode cX1_paidDays 43 = .ok (.iload_n 1, 1) := by decide +kernel
theorem dX1_paidDays_44 : decode cX1_paidDays 44 = .ok (.iload_n 3, 1) := by decide +kernel
theorem dX1_paidDays_45 : decode cX1_paidDays 45 = .ok (.invokevirtual 49, 3) := by decide +kernel
theorem dX1_paidDays_48 : decode cX1_paidDays 48 = .ok (.ifCond .ne 7, 3) := by decide +kernel
theorem dX1_paidDays_51 : decode cX1_paidDays 51 = .ok (.iload_n 2, 1) := by decide +kernel
theorem dX1_paidDays_52 : decode cX1_paidDays 52 = .ok (.iload_n 3, 1) := by decide +kernel
theorem dX1_paidDays_53 : decode cX1_paidDays 53 = .ok (.iadd, 1) := by decide +kernel
theorem dX1_paidDays_54 : decode cX1_paidDays 54 = .ok (.istore_n 2, 1) := by decide +kernel
theorem dX1_paidDays_55 : decode cX1_paidDays 55 = .ok (.iinc 2 1, 3) := by decide +kernel
theorem dX1_paidDays_58 : decode cX1_paidDays 58 = .ok (.iconst 0, 1) := by decide +kernel
theorem dX1_paidDays_59 : decode cX1_paidDays 59 = .ok (.istore_n 3, 1) := by decide +kernel
theorem dX1_paidDays_60 : decode cX1_paidDays 60 = .ok (.iinc 4 1, 3) := by decide +kernel
theorem dX1_paidDays_63 : decode cX1_paidDays 63 = .ok (.goto (-56), 3) := by decide +kernel
theorem dX1_paidDays_66 : decode cX1_paidDays 66 = .ok (.iload_n 2, 1) := by decide +kernel
theorem dX1_paidDays_67 : decode cX1_paidDays 67 = .ok (.ireturn, 1) := by decide +kernel
theorem dX1_isLetGo_0 : decode cX1_isLetGo 0 = .ok (.aload_n 0, 1) := by decide +kernel
theorem dX1_isLetGo_1 : decode cX1_isLetGo 1 = .ok (.getfield 9, 3) := by decide +kernel
theorem dX1_isLetGo_4 : decode cX1_isLetGo 4 = .ok (.getfield 52, 3) := by decide +kernel
theorem dX1_isLetGo_7 : decode cX1_isLetGo 7 = .ok (.iload_n 1, 1) := by decide +kernel
theorem dX1_isLetGo_8 : decode cX1_isLetGo 8 = .ok (.iaload, 1) := by decide +kernel
theorem dX1_isLetGo_9 : decode cX1_isLetGo 9 = .ok (.ifCond .le 20, 3) := by decide +kernel
theorem dX1_isLetGo_12 : decode cX1_isLetGo 12 = .ok (.iload_n 2, 1) := by decide +kernel
theorem dX1_isLetGo_13 : decode cX1_isLetGo 13 = .ok (.aload_n 0, 1) := by decide +kernel
theorem dX1_isLetGo_14 : decode cX1_isLetGo 14 = .ok (.getfield 9, 3) := by decide +kernel
theorem dX1_isLetGo_17 : decode cX1_isLetGo 17 = .ok (.getfield 52, 3) := by decide +kernel
theorem dX1_isLetGo_20 : decode cX1_isLetGo 20 = .ok (.iload_n 1, 1) := by decide +kernel
theorem dX1_isLetGo_21 : decode cX1_isLetGo 21 = .ok (.iaload, 1) := by decide +kernel
theorem dX1_isLetGo_22 : decode cX1_isLetGo 22 = .ok (.if_icmp .lt 7, 3) := by decide +kernel
theorem dX1_isLetGo_25 : decode cX1_isLetGo 25 = .ok (.iconst 1, 1) := by decide +kernel
theorem dX1_isLetGo_26 : decode cX1_isLetGo 26 = .ok (.goto 4, 3) := by decide +kernel
theorem dX1_isLetGo_29 : decode cX1_isLetGo 29 = .ok (.iconst 0, 1) := by decide +kernel
theorem dX1_isLetGo_30 : decode cX1_isLetGo 30 = .ok (.ireturn, 1) := by decide +kernel
theorem dX1_rents_0 : decode cX1_rents 0 = .ok (.iconst 0, 1) := by decide +kernel
theorem dX1_rents_1 : decode cX1_rents 1 = .ok (.istore_n 1, 1) := by decide +kernel
theorem dX1_rents_2 : decode cX1_rents 2 = .ok (.iconst 0, 1) := by decide +kernel
theorem dX1_rents_3 : decode cX1_rents 3 = .ok (.istore_n 2, 1) := by decide +kernel
theorem dX1_rents_4 : decode cX1_rents 4 = .ok (.iload_n 2, 1) := by decide +kernel
theorem dX1_rents_5 : decode cX1_rents 5 = .ok (.aload_n 0, 1) := by decide +kernel
theorem dX1_rents_6 : decode cX1_rents 6 = .ok (.getfield 15, 3) := by decide +kernel
theorem dX1_rents_9 : decode cX1_rents 9 = .ok (.getfield 39, 3) := by decide +kernel
theorem dX1_rents_12 : decode cX1_rents 12 = .ok (.if_icmp .ge 28, 3) := by decide +kernel
theorem dX1_rents_15 : decode cX1_rents 15 = .ok (.iload_n 1, 1) := by decide +kernel
theorem dX1_rents_16 : decode cX1_rents 16 = .ok (.aload_n 0, 1) := by decide +kernel
theorem dX1_rents_17 : decode cX1_rents 17 = .ok (.aload_n 0, 1) := by decide +kernel
theorem dX1_rents_18 : decode cX1_rents 18 = .ok (.getfield 15, 3) := by decide +kernel
theorem dX1_rents_21 : decode cX1_rents 21 = .ok (.getfield 55, 3) := by decide +kernel
theorem dX1_rents_24 : decode cX1_rents 24 = .ok (.iload_n 2, 1) := by decide +kernel
theorem dX1_rents_25 : decode cX1_rents 25 = .ok (.aaload, 1) := by decide +kernel
theorem dX1_rents_26 : decode cX1_rents 26 = .ok (.getfield 59, 3) := by decide +kernel
theorem dX1_rents_29 : decode cX1_rents 29 = .ok (.invokevirtual 64, 3) := by decide +kernel
theorem dX1_rents_32 : decode cX1_rents 32 = .ok (.iadd, 1) := by decide +kernel
theorem dX1_rents_33 : decode cX1_rents 33 = .ok (.istore_n 1, 1) := by decide +kernel
theorem dX1_rents_34 : decode cX1_rents 34 = .ok (.iinc 2 1, 3) := by decide +kernel
theorem dX1_rents_37 : decode cX1_rents 37 = .ok (.goto (-33), 3) := by decide +kernel
theorem dX1_rents_40 : decode cX1_rents 40 = .ok (.iload_n 1, 1) := by decide +kernel
theorem dX1_rents_41 : decode cX1_rents 41 = .ok (.ireturn, 1) := by decide +kernel
theorem dX1_rentOf_0 : decode cX1_rentOf 0 = .ok (.iconst 0, 1) := by decide +kernel
theorem dX1_rentOf_1 : decode cX1_rentOf 1 = .ok (.istore_n 2, 1) := by decide +kernel
theorem dX1_rentOf_2 : decode cX1_rentOf 2 = .ok (.iconst 0, 1) := by decide +kernel
theorem dX1_rentOf_3 : decode cX1_rentOf 3 = .ok (.istore_n 3, 1) := by decide +kernel
theorem dX1_rentOf_4 : decode cX1_rentOf 4 = .ok (.iload_n 3, 1) := by decide +kernel
theorem dX1_rentOf_5 : decode cX1_rentOf 5 = .ok (.bipush 8, 2) := by decide +kernel
theorem dX1_rentOf_7 : decode cX1_rentOf 7 = .ok (.if_icmp .ge 29, 3) := by decide +kernel
theorem dX1_rentOf_10 : decode cX1_rentOf 10 = .ok (.iload_n 1, 1) := by decide +kernel
theorem dX1_rentOf_11 : decode cX1_rentOf 11 = .ok (.iload_n 3, 1) := by decide +kernel
theorem dX1_rentOf_12 : decode cX1_rentOf 12 = .ok (.invokestatic 67, 3) := by decide +kernel
theorem dX1_rentOf_15 : decode cX1_rentOf 15 = .ok (.ifCond .eq 15, 3) := by decide +kernel
theorem dX1_rentOf_18 : decode cX1_rentOf 18 = .ok (.iload_n 2, 1) := by decide +kernel
theorem dX1_rentOf_19 : decode cX1_rentOf 19 = .ok (.aload_n 0, 1) := by decide +kernel
theorem dX1_rentOf_20 : decode cX1_rentOf 20 = .ok (.getfield 9, 3) := by decide +kernel
theorem dX1_rentOf_23 : decode cX1_rentOf 23 = .ok (.getfield 70, 3) := by decide +kernel
theorem dX1_rentOf_26 : decode cX1_rentOf 26 = .ok (.iload_n 3, 1) := by decide +kernel
theorem dX1_rentOf_27 : decode cX1_rentOf 27 = .ok (.iaload, 1) := by decide +kernel
theorem dX1_rentOf_28 : decode cX1_rentOf 28 = .ok (.iadd, 1) := by decide +kernel
theorem dX1_rentOf_29 : decode cX1_rentOf 29 = .ok (.istore_n 2, 1) := by decide +kernel
theorem dX1_rentOf_30 : decode cX1_rentOf 30 = .ok (.iinc 3 1, 3) := by decide +kernel
theorem dX1_rentOf_33 : decode cX1_rentOf 33 = .ok (.goto (-29), 3) := by decide +kernel
theorem dX1_rentOf_36 : decode cX1_rentOf 36 = .ok (.iload_n 2, 1) := by decide +kernel
theorem dX1_rentOf_37 : decode cX1_rentOf 37 = .ok (.ireturn, 1) := by decide +kernel
theorem dX1_overtime_0 : decode cX1_overtime 0 = .ok (.iconst 0, 1) := by decide +kernel
theorem dX1_overtime_1 : decode cX1_overtime 1 = .ok (.istore_n 1, 1) := by decide +kernel
theorem dX1_overtime_2 : decode cX1_overtime 2 = .ok (.iconst 0, 1) := by decide +kernel
theorem dX1_overtime_3 : decode cX1_overtime 3 = .ok (.istore_n 2, 1) := by decide +kernel
theorem dX1_overtime_4 : decode cX1_overtime 4 = .ok (.iload_n 2, 1) := by decide +kernel
theorem dX1_overtime_5 : decode cX1_overtime 5 = .ok (.aload_n 0, 1) := by decide +kernel
theorem dX1_overtime_6 : decode cX1_overtime 6 = .ok (.getfield 15, 3) := by decide +kernel
theorem dX1_overtime_9 : decode cX1_overtime 9 = .ok (.getfield 39, 3) := by decide +kernel
theorem dX1_overtime_12 : decode cX1_overtime 12 = .ok (.if_icmp .ge 24, 3) := by decide +kernel
theorem dX1_overtime_15 : decode cX1_overtime 15 = .ok (.iload_n 1, 1) := by decide +kernel
theorem dX1_overtime_16 : decode cX1_overtime 16 = .ok (.aload_n 0, 1) := by decide +kernel
theorem dX1_overtime_17 : decode cX1_overtime 17 = .ok (.getfield 15, 3) := by decide +kernel
theorem dX1_overtime_20 : decode cX1_overtime 20 = .ok (.getfield 55, 3) := by decide +kernel
theorem dX1_overtime_23 : decode cX1_overtime 23 = .ok (.iload_n 2, 1) := by decide +kernel
theorem dX1_overtime_24 : decode cX1_overtime 24 = .ok (.aaload, 1) := by decide +kernel
theorem dX1_overtime_25 : decode cX1_overtime 25 = .ok (.invokevirtual 73, 3) := by decide +kernel
theorem dX1_overtime_28 : decode cX1_overtime 28 = .ok (.iadd, 1) := by decide +kernel
theorem dX1_overtime_29 : decode cX1_overtime 29 = .ok (.istore_n 1, 1) := by decide +kernel
theorem dX1_overtime_30 : decode cX1_overtime 30 = .ok (.iinc 2 1, 3) := by decide +kernel
theorem dX1_overtime_33 : decode cX1_overtime 33 = .ok (.goto (-29), 3) := by decide +kernel
theorem dX1_overtime_36 : decode cX1_overtime 36 = .ok (.iload_n 1, 1) := by decide +kernel
theorem dX1_overtime_37 : decode cX1_overtime 37 = .ok (.bipush 50, 2) := by decide +kernel
theorem dX1_overtime_39 : decode cX1_overtime 39 = .ok (.imul, 1) := by decide +kernel
theorem dX1_overtime_40 : decode cX1_overtime 40 = .ok (.ireturn, 1) := by decide +kernel
theorem dX1_leastPossible_0 : decode cX1_leastPossible 0 = .ok (.aload_n 0, 1) := by decide +kernel
theorem dX1_leastPossible_1 : decode cX1_leastPossible 1 = .ok (.getfield 15, 3) := by decide +kernel
theorem dX1_leastPossible_4 : decode cX1_leastPossible 4 = .ok (.invokevirtual 76, 3) := by decide +kernel
theorem dX1_leastPossible_7 : decode cX1_leastPossible 7 = .ok (.istore_n 1, 1) := by decide +kernel
theorem dX1_leastPossible_8 : decode cX1_leastPossible 8 = .ok (.iload_n 1, 1) := by decide +kernel
theorem dX1_leastPossible_9 : decode cX1_leastPossible 9 = .ok (.ifCond .gt 5, 3) := by decide +kernel
theorem dX1_leastPossible_12 : decode cX1_leastPossible 12 = .ok (.iconst 0, 1) := by decide +kernel
theorem dX1_leastPossible_13 : decode cX1_leastPossible 13 = .ok (.ireturn, 1) := by decide +kernel
theorem dX1_leastPossible_14 : decode cX1_leastPossible 14 = .ok (.iconst 0, 1) := by decide +kernel
theorem dX1_leastPossible_15 : decode cX1_leastPossible 15 = .ok (.istore_n 2, 1) := by decide +kernel
theorem dX1_leastPossible_16 : decode cX1_leastPossible 16 = .ok (.iconst 0, 1) := by decide +kernel
theorem dX1_leastPossible_17 : decode cX1_leastPossible 17 = .ok (.istore_n 3, 1) := by decide +kernel
theorem dX1_leastPossible_18 : decode cX1_leastPossible 18 = .ok (.iload_n 3, 1) := by decide +kernel
theorem dX1_leastPossible_19 : decode cX1_leastPossible 19 = .ok (.bipush 8, 2) := by decide +kernel
theorem dX1_leastPossible_21 : decode cX1_leastPossible 21 = .ok (.if_icmp .ge 37, 3) := by decide +kernel
theorem dX1_leastPossible_24 : decode cX1_leastPossible 24 = .ok (.aload_n 0, 1) := by decide +kernel
theorem dX1_leastPossible_25 : decode cX1_leastPossible 25 = .ok (.iload_n 3, 1) := by decide +kernel
theorem dX1_leastPossible_26 : decode cX1_leastPossible 26 = .ok (.invokevirtual 79, 3) := by decide +kernel
theorem dX1_leastPossible_29 : decode cX1_leastPossible 29 = .ok (.iload_n 1, 1) := by decide +kernel
theorem dX1_leastPossible_30 : decode cX1_leastPossible 30 = .ok (.iadd, 1) := by decide +kernel
theorem dX1_leastPossible_31 : decode cX1_leastPossible 31 = .ok (.iconst 1, 1) := by decide +kernel
theorem dX1_leastPossible_32 : decode cX1_leastPossible 32 = .ok (.isub, 1) := by decide +kernel
theorem dX1_leastPossible_33 : decode cX1_leastPossible 33 = .ok (.iload_n 1, 1) := by decide +kernel
theorem dX1_leastPossible_34 : decode cX1_leastPossible 34 = .ok (.idiv, 1) := by decide +kernel
theorem dX1_leastPossible_35 : decode cX1_leastPossible 35 = .ok (.istore 4, 2) := by decide +kernel
theorem dX1_leastPossible_37 : decode cX1_leastPossible 37 = .ok (.iload_n 2, 1) := by decide +kernel
theorem dX1_leastPossible_38 : decode cX1_leastPossible 38 = .ok (.aload_n 0, 1) := by decide +kernel
theorem dX1_leastPossible_39 : decode cX1_leastPossible 39 = .ok (.getfield 9, 3) := by decide +kernel
theorem dX1_leastPossible_42 : decode cX1_leastPossible 42 = .ok (.getfield 29, 3) := by decide +kernel
theorem dX1_leastPossible_45 : decode cX1_leastPossible 45 = .ok (.iload_n 3, 1) := by decide +kernel
theorem dX1_leastPossible_46 : decode cX1_leastPossible 46 = .ok (.iaload, 1) := by decide +kernel
theorem dX1_leastPossible_47 : decode cX1_leastPossible 47 = .ok (.iload 4, 2) := by decide +kernel
theorem dX1_leastPossible_49 : decode cX1_leastPossible 49 = .ok (.imul, 1) := by decide +kernel
theorem dX1_leastPossible_50 : decode cX1_leastPossible 50 = .ok (.iadd, 1) := by decide +kernel
theorem dX1_leastPossible_51 : decode cX1_leastPossible 51 = .ok (.istore_n 2, 1) := by decide +kernel
theorem dX1_leastPossible_52 : decode cX1_leastPossible 52 = .ok (.iinc 3 1, 3) := by decide +kernel
theorem dX1_leastPossible_55 : decode cX1_leastPossible 55 = .ok (.goto (-37), 3) := by decide +kernel
theorem dX1_leastPossible_58 : decode cX1_leastPossible 58 = .ok (.iload_n 2, 1) := by decide +kernel
theorem dX1_leastPossible_59 : decode cX1_leastPossible 59 = .ok (.aload_n 0, 1) := by decide +kernel
theorem dX1_leastPossible_60 : decode cX1_leastPossible 60 = .ok (.aload_n 0, 1) := by decide +kernel
theorem dX1_leastPossible_61 : decode cX1_leastPossible 61 = .ok (.invokevirtual 82, 3) := by decide +kernel
theorem dX1_leastPossible_64 : decode cX1_leastPossible 64 = .ok (.invokevirtual 64, 3) := by decide +kernel
theorem dX1_leastPossible_67 : decode cX1_leastPossible 67 = .ok (.iadd, 1) := by decide +kernel
theorem dX1_leastPossible_68 : decode cX1_leastPossible 68 = .ok (.ireturn, 1) := by decide +kernel
theorem dX1_minutesInRows_0 : decode cX1_minutesInRows 0 = .ok (.aload_n 0, 1) := by decide +kernel
theorem dX1_minutesInRows_1 : decode cX1_minutesInRows 1 = .ok (.getfield 15, 3) := by decide +kernel
theorem dX1_minutesInRows_4 : decode cX1_minutesInRows 4 = .ok (.invokevirtual 85, 3) := by decide +kernel
theorem dX1_minutesInRows_7 : decode cX1_minutesInRows 7 = .ok (.istore_n 2, 1) := by decide +kernel
theorem dX1_minutesInRows_8 : decode cX1_minutesInRows 8 = .ok (.iconst 0, 1) := by decide +kernel
theorem dX1_minutesInRows_9 : decode cX1_minutesInRows 9 = .ok (.istore_n 3, 1) := by decide +kernel
theorem dX1_minutesInRows_10 : decode cX1_minutesInRows 10 = .ok (.iconst 0, 1) := by decide +kernel
theorem dX1_minutesInRows_11 : decode cX1_minutesInRows 11 = .ok (.istore 4, 2) := by decide +kernel
theorem dX1_minutesInRows_13 : decode cX1_minutesInRows 13 = .ok (.iload 4, 2) := by decide +kernel
theorem dX1_minutesInRows_15 : decode cX1_minutesInRows 15 = .ok (.aload_n 0, 1) := by decide +kernel
theorem dX1_minutesInRows_16 : decode cX1_minutesInRows 16 = .ok (.getfield 9, 3) := by decide +kernel
theorem dX1_minutesInRows_19 : decode cX1_minutesInRows 19 = .ok (.getfield 88, 3) := by decide +kernel
theorem dX1_minutesInRows_22 : decode cX1_minutesInRows 22 = .ok (.if_icmp .ge 48, 3) := by decide +kernel
theorem dX1_minutesInRows_25 : decode cX1_minutesInRows 25 = .ok (.iload_n 2, 1) := by decide +kernel
theorem dX1_minutesInRows_26 : decode cX1_minutesInRows 26 = .ok (.iload 4, 2) := by decide +kernel
theorem dX1_minutesInRows_28 : decode cX1_minutesInRows 28 = .ok (.invokestatic 67, 3) := by decide +kernel
theorem dX1_minutesInRows_31 : decode cX1_minutesInRows 31 = .ok (.ifCond .eq 33, 3) := by decide +kernel
theorem dX1_minutesInRows_34 : decode cX1_minutesInRows 34 = .ok (.aload_n 0, 1) := by decide +kernel
theorem dX1_minutesInRows_35 : decode cX1_minutesInRows 35 = .ok (.getfield 9, 3) := by decide +kernel
theorem dX1_minutesInRows_38 : decode cX1_minutesInRows 38 = .ok (.getfield 91, 3) := by decide +kernel
theorem dX1_minutesInRows_41 : decode cX1_minutesInRows 41 = .ok (.iload 4, 2) := by decide +kernel
theorem dX1_minutesInRows_43 : decode cX1_minutesInRows 43 = .ok (.iaload, 1) := by decide +kernel
theorem dX1_minutesInRows_44 : decode cX1_minutesInRows 44 = .ok (.iload_n 1, 1) := by decide +kernel
theorem dX1_minutesInRows_45 : decode cX1_minutesInRows 45 = .ok (.invokestatic 67, 3) := by decide +kernel
theorem dX1_minutesInRows_48 : decode cX1_minutesInRows 48 = .ok (.ifCond .eq 16, 3) := by decide +kernel
theorem dX1_minutesInRows_51 : decode cX1_minutesInRows 51 = .ok (.iload_n 3, 1) := by decide +kernel
theorem dX1_minutesInRows_52 : decode cX1_minutesInRows 52 = .ok (.aload_n 0, 1) := by decide +kernel
theorem dX1_minutesInRows_53 : decode cX1_minutesInRows 53 = .ok (.getfield 9, 3) := by decide +kernel
theorem dX1_minutesInRows_56 : decode cX1_minutesInRows 56 = .ok (.getfield 94, 3) := by decide +kernel
theorem dX1_minutesInRows_59 : decode cX1_minutesInRows 59 = .ok (.iload 4, 2) := by decide +kernel
theorem dX1_minutesInRows_61 : decode cX1_minutesInRows 61 = .ok (.iaload, 1) := by decide +kernel
theorem dX1_minutesInRows_62 : decode cX1_minutesInRows 62 = .ok (.iadd, 1) := by decide +kernel
theorem dX1_minutesInRows_63 : decode cX1_minutesInRows 63 = .ok (.istore_n 3, 1) := by decide +kernel
theorem dX1_minutesInRows_64 : decode cX1_minutesInRows 64 = .ok (.iinc 4 1, 3) := by decide +kernel
theorem dX1_minutesInRows_67 : decode cX1_minutesInRows 67 = .ok (.goto (-54), 3) := by decide +kernel
theorem dX1_minutesInRows_70 : decode cX1_minutesInRows 70 = .ok (.iload_n 3, 1) := by decide +kernel
theorem dX1_minutesInRows_71 : decode cX1_minutesInRows 71 = .ok (.ireturn, 1) := by decide +kernel
theorem dX1_placesInRows_0 : decode cX1_placesInRows 0 = .ok (.iconst 0, 1) := by decide +kernel
theorem dX1_placesInRows_1 : decode cX1_placesInRows 1 = .ok (.istore_n 1, 1) := by decide +kernel
theorem dX1_placesInRows_2 : decode cX1_placesInRows 2 = .ok (.iconst 0, 1) := by decide +kernel
theorem dX1_placesInRows_3 : decode cX1_placesInRows 3 = .ok (.istore_n 2, 1) := by decide +kernel
theorem dX1_placesInRows_4 : decode cX1_placesInRows 4 = .ok (.iload_n 2, 1) := by decide +kernel
theorem dX1_placesInRows_5 : decode cX1_placesInRows 5 = .ok (.aload_n 0, 1) := by decide +kernel
theorem dX1_placesInRows_6 : decode cX1_placesInRows 6 = .ok (.getfield 15, 3) := by decide +kernel
theorem dX1_placesInRows_9 : decode cX1_placesInRows 9 = .ok (.getfield 39, 3) := by decide +kernel
theorem dX1_placesInRows_12 : decode cX1_placesInRows 12 = .ok (.if_icmp .ge 24, 3) := by decide +kernel
theorem dX1_placesInRows_15 : decode cX1_placesInRows 15 = .ok (.iload_n 1, 1) := by decide +kernel
theorem dX1_placesInRows_16 : decode cX1_placesInRows 16 = .ok (.aload_n 0, 1) := by decide +kernel
theorem dX1_placesInRows_17 : decode cX1_placesInRows 17 = .ok (.getfield 15, 3) := by decide +kernel
theorem dX1_placesInRows_20 : decode cX1_placesInRows 20 = .ok (.getfield 55, 3) := by decide +kernel
theorem dX1_placesInRows_23 : decode cX1_placesInRows 23 = .ok (.iload_n 2, 1) := by decide +kernel
theorem dX1_placesInRows_24 : decode cX1_placesInRows 24 = .ok (.aaload, 1) := by decide +kernel
theorem dX1_placesInRows_25 : decode cX1_placesInRows 25 = .ok (.getfield 59, 3) := by decide +kernel
theorem dX1_placesInRows_28 : decode cX1_placesInRows 28 = .ok (.ior, 1) := by decide +kernel
theorem dX1_placesInRows_29 : decode cX1_placesInRows 29 = .ok (.istore_n 1, 1) := by decide +kernel
theorem dX1_placesInRows_30 : decode cX1_placesInRows 30 = .ok (.iinc 2 1, 3) := by decide +kernel
theorem dX1_placesInRows_33 : decode cX1_placesInRows 33 = .ok (.goto (-29), 3) := by decide +kernel
theorem dX1_placesInRows_36 : decode cX1_placesInRows 36 = .ok (.iload_n 1, 1) := by decide +kernel
theorem dX1_placesInRows_37 : decode cX1_placesInRows 37 = .ok (.ireturn, 1) := by decide +kernel
theorem dX2_init_0 : decode cX2_init 0 = .ok (.aload_n 0, 1) := by decide +kernel
theorem dX2_init_1 : decode cX2_init 1 = .ok (.invokespecial 3, 3) := by decide +kernel
theorem dX2_init_4 : decode cX2_init 4 = .ok (.aload_n 0, 1) := by decide +kernel
theorem dX2_init_5 : decode cX2_init 5 = .ok (.bipush 20, 2) := by decide +kernel
theorem dX2_init_7 : decode cX2_init 7 = .ok (.newarray .int, 2) := by decide +kernel
theorem dX2_init_9 : decode cX2_init 9 = .ok (.putfield 9, 3) := by decide +kernel
theorem dX2_init_12 : decode cX2_init 12 = .ok (.aload_n 0, 1) := by decide +kernel
theorem dX2_init_13 : decode cX2_init 13 = .ok (.bipush 20, 2) := by decide +kernel
theorem dX2_init_15 : decode cX2_init 15 = .ok (.newarray .int, 2) := by decide +kernel
theorem dX2_init_17 : decode cX2_init 17 = .ok (.putfield 15, 3) := by decide +kernel
theorem dX2_init_20 : decode cX2_init 20 = .ok (.aload_n 0, 1) := by decide +kernel
theorem dX2_init_21 : decode cX2_init 21 = .ok (.bipush 20, 2) := by decide +kernel
theorem dX2_init_23 : decode cX2_init 23 = .ok (.newarray .int, 2) := by decide +kernel
theorem dX2_init_25 : decode cX2_init 25 = .ok (.putfield 18, 3) := by decide +kernel
theorem dX2_init_28 : decode cX2_init 28 = .ok (.aload_n 0, 1) := by decide +kernel
theorem dX2_init_29 : decode cX2_init 29 = .ok (.bipush 20, 2) := by decide +kernel
theorem dX2_init_31 : decode cX2_init 31 = .ok (.newarray .int, 2) := by decide +kernel
theorem dX2_init_33 : decode cX2_init 33 = .ok (.putfield 21, 3) := by decide +kernel
theorem dX2_init_36 : decode cX2_init 36 = .ok (.aload_n 0, 1) := by decide +kernel
theorem dX2_init_37 : decode cX2_init 37 = .ok (.bipush 20, 2) := by decide +kernel
theorem dX2_init_39 : decode cX2_init 39 = .ok (.newarray .int, 2) := by decide +kernel
theorem dX2_init_41 : decode cX2_init 41 = .ok (.putfield 24, 3) := by decide +kernel
theorem dX2_init_44 : decode cX2_init 44 = .ok (.aload_n 0, 1) := by decide +kernel
theorem dX2_init_45 : decode cX2_init 45 = .ok (.bipush 20, 2) := by decide +kernel
theorem dX2_init_47 : decode cX2_init 47 = .ok (.newarray .int, 2) := by decide +kernel
theorem dX2_init_49 : decode cX2_init 49 = .ok (.putfield 27, 3) := by decide +kernel
theorem dX2_init_52 : decode cX2_init 52 = .ok (.aload_n 0, 1) := by decide +kernel
theorem dX2_init_53 : decode cX2_init 53 = .ok (.bipush 8, 2) := by decide +kernel
theorem dX2_init_55 : decode cX2_init 55 = .ok (.newarray .int, 2) := by decide +kernel
theorem dX2_init_57 : decode cX2_init 57 = .ok (.putfield 30, 3) := by decide +kernel
theorem dX2_init_60 : decode cX2_init 60 = .ok (.aload_n 0, 1) := by decide +kernel
theorem dX2_init_61 : decode cX2_init 61 = .ok (.bipush 8, 2) := by decide +kernel
theorem dX2_init_63 : decode cX2_init 63 = .ok (.newarray .int, 2) := by decide +kernel
theorem dX2_init_65 : decode cX2_init 65 = .ok (.putfield 33, 3) := by decide +kernel
theorem dX2_init_68 : decode cX2_init 68 = .ok (.aload_n 0, 1) := by decide +kernel
theorem dX2_init_69 : decode cX2_init 69 = .ok (.bipush 8, 2) := by decide +kernel
theorem dX2_init_71 : decode cX2_init 71 = .ok (.newarray .int, 2) := by decide +kernel
theorem dX2_init_73 : decode cX2_init 73 = .ok (.putfield 36, 3) := by decide +kernel
theorem dX2_init_76 : decode cX2_init 76 = .ok (.aload_n 0, 1) := by decide +kernel
theorem dX2_init_77 : decode cX2_init 77 = .ok (.bipush 8, 2) := by decide +kernel
theorem dX2_init_79 : decode cX2_init 79 = .ok (.newarray .int, 2) := by decide +kernel
theorem dX2_init_81 : decode cX2_init 81 = .ok (.putfield 39, 3) := by decide +kernel
theorem dX2_init_84 : decode cX2_init 84 = .ok (.return_, 1) := by decide +kernel
theorem dX2_addScene_0 : decode cX2_addScene 0 = .ok (.aload_n 0, 1) := by decide +kernel
theorem dX2_addScene_1 : decode cX2_addScene 1 = .ok (.getfield 42, 3) := by decide +kernel
theorem dX2_addScene_4 : decode cX2_addScene 4 = .ok (.istore 6, 2) := by decide +kernel
theorem dX2_addScene_6 : decode cX2_addScene 6 = .ok (.iload 6, 2) := by decide +kernel
theorem dX2_addScene_8 : decode cX2_addScene 8 = .ok (.bipush 20, 2) := by decide +kernel
theorem dX2_addScene_10 : decode cX2_addScene 10 = .ok (.if_icmp .lt 6, 3) := by decide +kernel
theorem dX2_addScene_13 : decode cX2_addScene 13 = .ok (.bipush (-4), 2) := by decide +kernel
theorem dX2_addScene_15 : decode cX2_addScene 15 = .ok (.ireturn, 1) := by decide +kernel
theorem dX2_addScene_16 : decode cX2_addScene 16 = .ok (.aload_n 0, 1) := by decide +kernel
theorem dX2_addScene_17 : decode cX2_addScene 17 = .ok (.getfield 9, 3) := by decide +kernel
theorem dX2_addScene_20 : decode cX2_addScene 20 = .ok (.iload 6, 2) := by decide +kernel
theorem dX2_addScene_22 : decode cX2_addScene 22 = .ok (.iload_n 1, 1) := by decide +kernel
theorem dX2_addScene_23 : decode cX2_addScene 23 = .ok (.iastore, 1) := by decide +kernel
theorem dX2_addScene_24 : decode cX2_addScene 24 = .ok (.aload_n 0, 1) := by decide +kernel
theorem dX2_addScene_25 : decode cX2_addScene 25 = .ok (.getfield 15, 3) := by decide +kernel
theorem dX2_addScene_28 : decode cX2_addScene 28 = .ok (.iload 6, 2) := by decide +kernel
theorem dX2_addScene_30 : decode cX2_addScene 30 = .ok (.iload_n 2, 1) := by decide +kernel
theorem dX2_addScene_31 : decode cX2_addScene 31 = .ok (.iastore, 1) := by decide +kernel
theorem dX2_addScene_32 : decode cX2_addScene 32 = .ok (.aload_n 0, 1) := by decide +kernel
theorem dX2_addScene_33 : decode cX2_addScene 33 = .ok (.getfield 18, 3) := by decide +kernel
theorem dX2_addScene_36 : decode cX2_addScene 36 = .ok (.iload 6, 2) := by decide +kernel
theorem dX2_addScene_38 : decode cX2_addScene 38 = .ok (.iload_n 3, 1) := by decide +kernel
theorem dX2_addScene_39 : decode cX2_addScene 39 = .ok (.iastore, 1) := by decide +kernel
theorem dX2_addScene_40 : decode cX2_addScene 40 = .ok (.aload_n 0, 1) := by decide +kernel
theorem dX2_addScene_41 : decode cX2_addScene 41 = .ok (.getfield 21, 3) := by decide +kernel
theorem dX2_addScene_44 : decode cX2_addScene 44 = .ok (.iload 6, 2) := by decide +kernel
theorem dX2_addScene_46 : decode cX2_addScene 46 = .ok (.iload 4, 2) := by decide +kernel
theorem dX2_addScene_48 : decode cX2_addScene 48 = .ok (.iastore, 1) := by decide +kernel
theorem dX2_addScene_49 : decode cX2_addScene 49 = .ok (.aload_n 0, 1) := by decide +kernel
theorem dX2_addScene_50 : decode cX2_addScene 50 = .ok (.getfield 24, 3) := by decide +kernel
theorem dX2_addScene_53 : decode cX2_addScene 53 = .ok (.iload 6, 2) := by decide +kernel
theorem dX2_addScene_55 : decode cX2_addScene 55 = .ok (.iload 5, 2) := by decide +kernel
theorem dX2_addScene_57 : decode cX2_addScene 57 = .ok (.iastore, 1) := by decide +kernel
theorem dX2_addScene_58 : decode cX2_addScene 58 = .ok (.aload_n 0, 1) := by decide +kernel
theorem dX2_addScene_59 : decode cX2_addScene 59 = .ok (.dup, 1) := by decide +kernel
theorem dX2_addScene_60 : decode cX2_addScene 60 = .ok (.getfield 42, 3) := by decide +kernel
theorem dX2_addScene_63 : decode cX2_addScene 63 = .ok (.iconst 1, 1) := by decide +kernel
theorem dX2_addScene_64 : decode cX2_addScene 64 = .ok (.iadd, 1) := by decide +kernel
theorem dX2_addScene_65 : decode cX2_addScene 65 = .ok (.putfield 42, 3) := by decide +kernel
theorem dX2_addScene_68 : decode cX2_addScene 68 = .ok (.iload 6, 2) := by decide +kernel
theorem dX2_addScene_70 : decode cX2_addScene 70 = .ok (.ireturn, 1) := by decide +kernel
theorem dX2_hasScene_0 : decode cX2_hasScene 0 = .ok (.iload_n 1, 1) := by decide +kernel
theorem dX2_hasScene_1 : decode cX2_hasScene 1 = .ok (.ifCond .lt 15, 3) := by decide +kernel
theorem dX2_hasScene_4 : decode cX2_hasScene 4 = .ok (.iload_n 1, 1) := by decide +kernel
theorem dX2_hasScene_5 : decode cX2_hasScene 5 = .ok (.aload_n 0, 1) := by decide +kernel
theorem dX2_hasScene_6 : decode cX2_hasScene 6 = .ok (.getfield 42, 3) := by decide +kernel
theorem dX2_hasScene_9 : decode cX2_hasScene 9 = .ok (.if_icmp .ge 7, 3) := by decide +kernel
theorem dX2_hasScene_12 : decode cX2_hasScene 12 = .ok (.iconst 1, 1) := by decide +kernel
theorem dX2_hasScene_13 : decode cX2_hasScene 13 = .ok (.goto 4, 3) := by decide +kernel
theorem dX2_hasScene_16 : decode cX2_hasScene 16 = .ok (.iconst 0, 1) := by decide +kernel
theorem dX2_hasScene_17 : decode cX2_hasScene 17 = .ok (.ireturn, 1) := by decide +kernel
theorem dX2_way_0 : decode cX2_way 0 = .ok (.aload_n 0, 1) := by decide +kernel
theorem dX2_way_1 : decode cX2_way 1 = .ok (.getfield 39, 3) := by decide +kernel
theorem dX2_way_4 : decode cX2_way 4 = .ok (.aload_n 0, 1) := by decide +kernel
theorem dX2_way_5 : decode cX2_way 5 = .ok (.getfield 15, 3) := by decide +kernel
theorem dX2_way_8 : decode cX2_way 8 = .ok (.iload_n 2, 1) := by decide +kernel
theorem dX2_way_9 : decode cX2_way 9 = .ok (.iaload, 1) := by decide +kernel
theorem dX2_way_10 : decode cX2_way 10 = .ok (.iaload, 1) := by decide +kernel
theorem dX2_way_11 : decode cX2_way 11 = .ok (.aload_n 0, 1) := by decide +kernel
theorem dX2_way_12 : decode cX2_way 12 = .ok (.getfield 39, 3) := by decide +kernel
theorem dX2_way_15 : decode cX2_way 15 = .ok (.aload_n 0, 1) := by decide +kernel
theorem dX2_way_16 : decode cX2_way 16 = .ok (.getfield 15, 3) := by decide +kernel
theorem dX2_way_19 : decode cX2_way 19 = .ok (.iload_n 1, 1) := by decide +kernel
theorem dX2_way_20 : decode cX2_way 20 = .ok (.iaload, 1) := by decide +kernel
theorem dX2_way_21 : decode cX2_way 21 = .ok (.iaload, 1) := by decide +kernel
theorem dX2_way_22 : decode cX2_way 22 = .ok (.isub, 1) := by decide +kernel
theorem dX2_way_23 : decode cX2_way 23 = .ok (.istore_n 3, 1) := by decide +kernel
theorem dX2_way_24 : decode cX2_way 24 = .ok (.iload_n 3, 1) := by decide +kernel
theorem dX2_way_25 : decode cX2_way 25 = .ok (.ifCond .ge 8, 3) := by decide +kernel
theorem dX2_way_28 : decode cX2_way 28 = .ok (.iload_n 3, 1) := by decide +kernel
theorem dX2_way_29 : decode cX2_way 29 = .ok (.ineg, 1) := by decide +kernel
theorem dX2_way_30 : decode cX2_way 30 = .ok (.goto 4, 3) := by decide +kernel
theorem dX2_way_33 : decode cX2_way 33 = .ok (.iload_n 3, 1) := by decide +kernel
theorem dX2_way_34 : decode cX2_way 34 = .ok (.ireturn, 1) := by decide +kernel
theorem dX2_needsByOthersToo_0 : decode cX2_needsByOthersToo 0 = .ok (.aload_n 0, 1) := by decide +kernel
theorem dX2_needsByOthersToo_1 : decode cX2_needsByOthersToo 1 = .ok (.getfield 27, 3) := by decide +kernel
theorem dX2_needsByOthersToo_4 : decode cX2_needsByOthersToo 4 = .ok (.iload_n 1, 1) := by decide +kernel
theorem dX2_needsByOthersToo_5 : decode cX2_needsByOthersToo 5 = .ok (.iaload, 1) := by decide +kernel
theorem dX2_needsByOthersToo_6 : decode cX2_needsByOthersToo 6 = .ok (.istore_n 2, 1) := by decide +kernel
theorem dX2_needsByOthersToo_7 : decode cX2_needsByOthersToo 7 = .ok (.iconst 0, 1) := by decide +kernel
theorem dX2_needsByOthersToo_8 : decode cX2_needsByOthersToo 8 = .ok (.istore_n 3, 1) := by decide +kernel
theorem dX2_needsByOthersToo_9 : decode cX2_needsByOthersToo 9 = .ok (.iload_n 3, 1) := by decide +kernel
theorem dX2_needsByOthersToo_10 : decode cX2_needsByOthersToo 10 = .ok (.aload_n 0, 1) := by decide +kernel
theorem dX2_needsByOthersToo_11 : decode cX2_needsByOthersToo 11 = .ok (.getfield 42, 3) := by decide +kernel
theorem dX2_needsByOthersToo_14 : decode cX2_needsByOthersToo 14 = .ok (.if_icmp .ge 17, 3) := by decide +kernel
theorem dX2_needsByOthersToo_17 : decode cX2_needsByOthersToo 17 = .ok (.iload_n 2, 1) := by decide +kernel
theorem dX2_needsByOthersToo_18 : decode cX2_needsByOthersToo 18 = .ok (.aload_n 0, 1) := by decide +kernel
theorem dX2_needsByOthersToo_19 : decode cX2_needsByOthersToo 19 = .ok (.iload_n 2, 1) := by decide +kernel
theorem dX2_needsByOthersToo_20 : decode cX2_needsByOthersToo 20 = .ok (.invokevirtual 46, 3) := by decide +kernel
theorem dX2_needsByOthersToo_23 : decode cX2_needsByOthersToo 23 = .ok (.ior, 1) := by decide +kernel
theorem dX2_needsByOthersToo_24 : decode cX2_needsByOthersToo 24 = .ok (.istore_n 2, 1) := by decide +kernel
theorem dX2_needsByOthersToo_25 : decode cX2_needsByOthersToo 25 = .ok (.iinc 3 1, 3) := by decide +kernel
theorem dX2_needsByOthersToo_28 : decode cX2_needsByOthersToo 28 = .ok (.goto (-19), 3) := by decide +kernel
theorem dX2_needsByOthersToo_31 : decode cX2_needsByOthersToo 31 = .ok (.iload_n 2, 1) := by decide +kernel
theorem dX2_needsByOthersToo_32 : decode cX2_needsByOthersToo 32 = .ok (.ireturn, 1) := by decide +kernel
theorem dX2_needsOfAll_0 : decode cX2_needsOfAll 0 = .ok (.iconst 0, 1) := by decide +kernel
theorem dX2_needsOfAll_1 : decode cX2_needsOfAll 1 = .ok (.istore_n 2, 1) := by decide +kernel
theorem dX2_needsOfAll_2 : decode cX2_needsOfAll 2 = .ok (.iconst 0, 1) := by decide +kernel
theorem dX2_needsOfAll_3 : decode cX2_needsOfAll 3 = .ok (.istore_n 3, 1) := by decide +kernel
theorem dX2_needsOfAll_4 : decode cX2_needsOfAll 4 = .ok (.iload_n 3, 1) := by decide +kernel
theorem dX2_needsOfAll_5 : decode cX2_needsOfAll 5 = .ok (.aload_n 0, 1) := by decide +kernel
theorem dX2_needsOfAll_6 : decode cX2_needsOfAll 6 = .ok (.getfield 42, 3) := by decide +kernel
theorem dX2_needsOfAll_9 : decode cX2_needsOfAll 9 = .ok (.if_icmp .ge 26, 3) := by decide +kernel
theorem dX2_needsOfAll_12 : decode cX2_needsOfAll 12 = .ok (.iload_n 1, 1) := by decide +kernel
theorem dX2_needsOfAll_13 : decode cX2_needsOfAll 13 = .ok (.iload_n 3, 1) := by decide +kernel
theorem dX2_needsOfAll_14 : decode cX2_needsOfAll 14 = .ok (.invokestatic 50, 3) := by decide +kernel
theorem dX2_needsOfAll_17 : decode cX2_needsOfAll 17 = .ok (.ifCond .eq 12, 3) := by decide +kernel
theorem dX2_needsOfAll_20 : decode cX2_needsOfAll 20 = .ok (.iload_n 2, 1) := by decide +kernel
theorem dX2_needsOfAll_21 : decode cX2_needsOfAll 21 = .ok (.aload_n 0, 1) := by decide +kernel
theorem dX2_needsOfAll_22 : decode cX2_needsOfAll 22 = .ok (.getfield 27, 3) := by decide +kernel
theorem dX2_needsOfAll_25 : decode cX2_needsOfAll 25 = .ok (.iload_n 3, 1) := by decide +kernel
theorem dX2_needsOfAll_26 : decode cX2_needsOfAll 26 = .ok (.iaload, 1) := by decide +kernel
theorem dX2_needsOfAll_27 : decode cX2_needsOfAll 27 = .ok (.ior, 1) := by decide +kernel
theorem dX2_needsOfAll_28 : decode cX2_needsOfAll 28 = .ok (.istore_n 2, 1) := by decide +kernel
theorem dX2_needsOfAll_29 : decode cX2_needsOfAll 29 = .ok (.iinc 3 1, 3) := by decide +kernel
theorem dX2_needsOfAll_32 : decode cX2_needsOfAll 32 = .ok (.goto (-28), 3) := by decide +kernel
theorem dX2_needsOfAll_35 : decode cX2_needsOfAll 35 = .ok (.iload_n 2, 1) := by decide +kernel
theorem dX2_needsOfAll_36 : decode cX2_needsOfAll 36 = .ok (.ireturn, 1) := by decide +kernel
theorem dX2_scenesAheadOfSome_0 : decode cX2_scenesAheadOfSome 0 = .ok (.iconst 0, 1) := by decide +kernel
theorem dX2_scenesAheadOfSome_1 : decode cX2_scenesAheadOfSome 1 = .ok (.istore_n 1, 1) := by decide +kernel
theorem dX2_scenesAheadOfSome_2 : decode cX2_scenesAheadOfSome 2 = .ok (.iconst 0, 1) := by decide +kernel
theorem dX2_scenesAheadOfSome_3 : decode cX2_scenesAheadOfSome 3 = .ok (.istore_n 2, 1) := by decide +kernel
theorem dX2_scenesAheadOfSome_4 : decode cX2_scenesAheadOfSome 4 = .ok (.iload_n 2, 1) := by decide +kernel
theorem dX2_scenesAheadOfSome_5 : decode cX2_scenesAheadOfSome 5 = .ok (.aload_n 0, 1) := by decide +kernel
theorem dX2_scenesAheadOfSome_6 : decode cX2_scenesAheadOfSome 6 = .ok (.getfield 42, 3) := by decide +kernel
theorem dX2_scenesAheadOfSome_9 : decode cX2_scenesAheadOfSome 9 = .ok (.if_icmp .ge 18, 3) := by decide +kernel
theorem dX2_scenesAheadOfSome_12 : decode cX2_scenesAheadOfSome 12 = .ok (.iload_n 1, 1) := by decide +kernel
theorem dX2_scenesAheadOfSome_13 : decode cX2_scenesAheadOfSome 13 = .ok (.aload_n 0, 1) := by decide +kernel
theorem dX2_scenesAheadOfSome_14 : decode cX2_scenesAheadOfSome 14 = .ok (.getfield 27, 3) := by decide +kernel
theorem dX2_scenesAheadOfSome_17 : decode cX2_scenesAheadOfSome 17 = .ok (.iload_n 2, 1) := by decide +kernel
theorem dX2_scenesAheadOfSome_18 : decode cX2_scenesAheadOfSome 18 = .ok (.iaload, 1) := by decide +kernel
theorem dX2_scenesAheadOfSome_19 : decode cX2_scenesAheadOfSome 19 = .ok (.ior, 1) := by decide +kernel
theorem dX2_scenesAheadOfSome_20 : decode cX2_scenesAheadOfSome 20 = .ok (.istore_n 1, 1) := by decide +kernel
theorem dX2_scenesAheadOfSome_21 : decode cX2_scenesAheadOfSome 21 = .ok (.iinc 2 1, 3) := by decide +kernel
theorem dX2_scenesAheadOfSome_24 : decode cX2_scenesAheadOfSome 24 = .ok (.goto (-20), 3) := by decide +kernel
theorem dX2_scenesAheadOfSome_27 : decode cX2_scenesAheadOfSome 27 = .ok (.iload_n 1, 1) := by decide +kernel
theorem dX2_scenesAheadOfSome_28 : decode cX2_scenesAheadOfSome 28 = .ok (.ireturn, 1) := by decide +kernel
theorem dX3_init_0 : decode cX3_init 0 = .ok (.aload_n 0, 1) := by decide +kernel
theorem dX3_init_1 : decode cX3_init 1 = .ok (.invokespecial 3, 3) := by decide +kernel
theorem dX3_init_4 : decode cX3_init 4 = .ok (.aload_n 0, 1) := by decide +kernel
theorem dX3_init_5 : decode cX3_init 5 = .ok (.bipush 10, 2) := by decide +kernel
theorem dX3_init_7 : decode cX3_init 7 = .ok (.anewarray 9, 3) := by decide +kernel
theorem dX3_init_10 : decode cX3_init 10 = .ok (.putfield 11, 3) := by decide +kernel
theorem dX3_init_13 : decode cX3_init 13 = .ok (.aload_n 0, 1) := by decide +kernel
theorem dX3_init_14 : decode cX3_init 14 = .ok (.bipush 8, 2) := by decide +kernel
theorem dX3_init_16 : decode cX3_init 16 = .ok (.newarray .int, 2) := by decide +kernel
theorem dX3_init_18 : decode cX3_init 18 = .ok (.putfield 17, 3) := by decide +kernel
theorem dX3_init_21 : decode cX3_init 21 = .ok (.aload_n 0, 1) := by decide +kernel
theorem dX3_init_22 : decode cX3_init 22 = .ok (.bipush 8, 2) := by decide +kernel
theorem dX3_init_24 : decode cX3_init 24 = .ok (.newarray .int, 2) := by decide +kernel
theorem dX3_init_26 : decode cX3_init 26 = .ok (.putfield 21, 3) := by decide +kernel
theorem dX3_init_29 : decode cX3_init 29 = .ok (.aload_n 0, 1) := by decide +kernel
theorem dX3_init_30 : decode cX3_init 30 = .ok (.aload_n 1, 1) := by decide +kernel
theorem dX3_init_31 : decode cX3_init 31 = .ok (.putfield 24, 3) := by decide +kernel
theorem dX3_init_34 : decode cX3_init 34 = .ok (.iconst 0, 1) := by decide +kernel
theorem dX3_init_35 : decode cX3_init 35 = .ok (.istore_n 2, 1) := by decide +kernel
theorem dX3_init_36 : decode cX3_init 36 = .ok (.iload_n 2, 1) := by decide +kernel
theorem dX3_init_37 : decode cX3_init 37 = .ok (.aload_n 0, 1) := by decide +kernel
theorem dX3_init_38 : decode cX3_init 38 = .ok (.getfield 11, 3) := by decide +kernel
theorem dX3_init_41 : decode cX3_init 41 = .ok (.arraylength, 1) := by decide +kernel
theorem dX3_init_42 : decode cX3_init 42 = .ok (.if_icmp .ge 22, 3) := by decide +kernel
theorem dX3_init_45 : decode cX3_init 45 = .ok (.aload_n 0, 1) := by decide +kernel
theorem dX3_init_46 : decode cX3_init 46 = .ok (.getfield 11, 3) := by decide +kernel
theorem dX3_init_49 : decode cX3_init 49 = .ok (.iload_n 2, 1) := by decide +kernel
theorem dX3_init_50 : decode cX3_init 50 = .ok (.new 9, 3) := by decide +kernel
theorem dX3_init_53 : decode cX3_init 53 = .ok (.dup, 1) := by decide +kernel
theorem dX3_init_54 : decode cX3_init 54 = .ok (.invokespecial 28, 3) := by decide +kernel
theorem dX3_init_57 : decode cX3_init 57 = .ok (.aastore, 1) := by decide +kernel
theorem dX3_init_58 : decode cX3_init 58 = .ok (.iinc 2 1, 3) := by decide +kernel
theorem dX3_init_61 : decode cX3_init 61 = .ok (.goto (-25), 3) := by decide +kernel
theorem dX3_init_64 : decode cX3_init 64 = .ok (.return_, 1) := by decide +kernel
theorem dX3_addDay_0 : decode cX3_addDay 0 = .ok (.aload_n 0, 1) := by decide +kernel
theorem dX3_addDay_1 : decode cX3_addDay 1 = .ok (.getfield 29, 3) := by decide +kernel
theorem dX3_addDay_4 : decode cX3_addDay 4 = .ok (.istore_n 3, 1) := by decide +kernel
theorem dX3_addDay_5 : decode cX3_addDay 5 = .ok (.iload_n 3, 1) := by decide +kernel
theorem dX3_addDay_6 : decode cX3_addDay 6 = .ok (.bipush 8, 2) := by decide +kernel
theorem dX3_addDay_8 : decode cX3_addDay 8 = .ok (.if_icmp .lt 6, 3) := by decide +kernel
theorem dX3_addDay_11 : decode cX3_addDay 11 = .ok (.bipush (-4), 2) := by decide +kernel
theorem dX3_addDay_13 : decode cX3_addDay 13 = .ok (.ireturn, 1) := by decide +kernel
theorem dX3_addDay_14 : decode cX3_addDay 14 = .ok (.aload_n 0, 1) := by decide +kernel
theorem dX3_addDay_15 : decode cX3_addDay 15 = .ok (.getfield 17, 3) := by decide +kernel
theorem dX3_addDay_18 : decode cX3_addDay 18 = .ok (.iload_n 3, 1) := by decide +kernel
theorem dX3_addDay_19 : decode cX3_addDay 19 = .ok (.iload_n 1, 1) := by decide +kernel
theorem dX3_addDay_20 : decode cX3_addDay 20 = .ok (.iastore, 1) := by decide +kernel
theorem dX3_addDay_21 : decode cX3_addDay 21 = .ok (.aload_n 0, 1) := by decide +kernel
theorem dX3_addDay_22 : decode cX3_addDay 22 = .ok (.getfield 21, 3) := by decide +kernel
theorem dX3_addDay_25 : decode cX3_addDay 25 = .ok (.iload_n 3, 1) := by decide +kernel
theorem dX3_addDay_26 : decode cX3_addDay 26 = .ok (.iload_n 2, 1) := by decide +kernel
theorem dX3_addDay_27 : decode cX3_addDay 27 = .ok (.iastore, 1) := by decide +kernel
theorem dX3_addDay_28 : decode cX3_addDay 28 = .ok (.aload_n 0, 1) := by decide +kernel
theorem dX3_addDay_29 : decode cX3_addDay 29 = .ok (.dup, 1) := by decide +kernel
theorem dX3_addDay_30 : decode cX3_addDay 30 = .ok (.getfield 29, 3) := by decide +kernel
theorem dX3_addDay_33 : decode cX3_addDay 33 = .ok (.iconst 1, 1) := by decide +kernel
theorem dX3_addDay_34 : decode cX3_addDay 34 = .ok (.iadd, 1) := by decide +kernel
theorem dX3_addDay_35 : decode cX3_addDay 35 = .ok (.putfield 29, 3) := by decide +kernel
theorem dX3_addDay_38 : decode cX3_addDay 38 = .ok (.iload_n 3, 1) := by decide +kernel
theorem dX3_addDay_39 : decode cX3_addDay 39 = .ok (.ireturn, 1) := by decide +kernel
theorem dX3_hasDay_0 : decode cX3_hasDay 0 = .ok (.iload_n 1, 1) := by decide +kernel
theorem dX3_hasDay_1 : decode cX3_hasDay 1 = .ok (.ifCond .lt 15, 3) := by decide +kernel
theorem dX3_hasDay_4 : decode cX3_hasDay 4 = .ok (.iload_n 1, 1) := by decide +kernel
theorem dX3_hasDay_5 : decode cX3_hasDay 5 = .ok (.aload_n 0, 1) := by decide +kernel
theorem dX3_hasDay_6 : decode cX3_hasDay 6 = .ok (.getfield 29, 3) := by decide +kernel
theorem dX3_hasDay_9 : decode cX3_hasDay 9 = .ok (.if_icmp .ge 7, 3) := by decide +kernel
theorem dX3_hasDay_12 : decode cX3_hasDay 12 = .ok (.iconst 1, 1) := by decide +kernel
theorem dX3_hasDay_13 : decode cX3_hasDay 13 = .ok (.goto 4, 3) := by decide +kernel
theorem dX3_hasDay_16 : decode cX3_hasDay 16 = .ok (.iconst 0, 1) := by decide +kernel
theorem dX3_hasDay_17 : decode cX3_hasDay 17 = .ok (.ireturn, 1) := by decide +kernel
theorem dX3_measureRows_0 : decode cX3_measureRows 0 = .ok (.iconst 0, 1) := by decide +kernel
theorem dX3_measureRows_1 : decode cX3_measureRows 1 = .ok (.istore_n 1, 1) := by decide +kernel
theorem dX3_measureRows_2 : decode cX3_measureRows 2 = .ok (.iload_n 1, 1) := by decide +kernel
theorem dX3_measureRows_3 : decode cX3_measureRows 3 = .ok (.aload_n 0, 1) := by decide +kernel
theorem dX3_measureRows_4 : decode cX3_measureRows 4 = .ok (.getfield 29, 3) := by decide +kernel
theorem dX3_measureRows_7 : decode cX3_measureRows 7 = .ok (.if_icmp .ge 22, 3) := by decide +kernel
theorem dX3_measureRows_10 : decode cX3_measureRows 10 = .ok (.aload_n 0, 1) := by decide +kernel
theorem dX3_measureRows_11 : decode cX3_measureRows 11 = .ok (.getfield 11, 3) := by decide +kernel
theorem dX3_measureRows_14 : decode cX3_measureRows 14 = .ok (.iload_n 1, 1) := by decide +kernel
theorem dX3_measureRows_15 : decode cX3_measureRows 15 = .ok (.aaload, 1) := by decide +kernel
theorem dX3_measureRows_16 : decode cX3_measureRows 16 = .ok (.aload_n 0, 1) := by decide +kernel
theorem dX3_measureRows_17 : decode cX3_measureRows 17 = .ok (.getfield 24, 3) := by decide +kernel
theorem dX3_measureRows_20 : decode cX3_measureRows 20 = .ok (.invokevirtual 33, 3) := by decide +kernel
theorem dX3_measureRows_23 : decode cX3_measureRows 23 = .ok (.iinc 1 1, 3) := by decide +kernel
theorem dX3_measureRows_26 : decode cX3_measureRows 26 = .ok (.goto (-24), 3) := by decide +kernel
theorem dX3_measureRows_29 : decode cX3_measureRows 29 = .ok (.return_, 1) := by decide +kernel
theorem dX3_exchange_0 : decode cX3_exchange 0 = .ok (.aload_n 0, 1) := by decide +kernel
theorem dX3_exchange_1 : decode cX3_exchange 1 = .ok (.getfield 11, 3) := by decide +kernel
theorem dX3_exchange_4 : decode cX3_exchange 4 = .ok (.iload_n 1, 1) := by decide +kernel
theorem dX3_exchange_5 : decode cX3_exchange 5 = .ok (.aaload, 1) := by decide +kernel
theorem dX3_exchange_6 : decode cX3_exchange 6 = .ok (.astore_n 3, 1) := by decide +kernel
theorem dX3_exchange_7 : decode cX3_exchange 7 = .ok (.aload_n 0, 1) := by decide +kernel
theorem dX3_exchange_8 : decode cX3_exchange 8 = .ok (.getfield 11, 3) := by decide +kernel
theorem dX3_exchange_11 : decode cX3_exchange 11 = .ok (.iload_n 1, 1) := by decide +kernel
theorem dX3_exchange_12 : decode cX3_exchange 12 = .ok (.aload_n 0, 1) := by decide +kernel
theorem dX3_exchange_13 : decode cX3_exchange 13 = .ok (.getfield 11, 3) := by decide +kernel
theorem dX3_exchange_16 : decode cX3_exchange 16 = .ok (.iload_n 2, 1) := by decide +kernel
theorem dX3_exchange_17 : decode cX3_exchange 17 = .ok (.aaload, 1) := by decide +kernel
theorem dX3_exchange_18 : decode cX3_exchange 18 = .ok (.aastore, 1) := by decide +kernel
theorem dX3_exchange_19 : decode cX3_exchange 19 = .ok (.aload_n 0, 1) := by decide +kernel
theorem dX3_exchange_20 : decode cX3_exchange 20 = .ok (.getfield 11, 3) := by decide +kernel
theorem dX3_exchange_23 : decode cX3_exchange 23 = .ok (.iload_n 2, 1) := by decide +kernel
theorem dX3_exchange_24 : decode cX3_exchange 24 = .ok (.aload_n 3, 1) := by decide +kernel
theorem dX3_exchange_25 : decode cX3_exchange 25 = .ok (.aastore, 1) := by decide +kernel
theorem dX3_exchange_26 : decode cX3_exchange 26 = .ok (.return_, 1) := by decide +kernel
theorem dX3_keeps_0 : decode cX3_keeps 0 = .ok (.iconst 0, 1) := by decide +kernel
theorem dX3_keeps_1 : decode cX3_keeps 1 = .ok (.istore_n 1, 1) := by decide +kernel
theorem dX3_keeps_2 : decode cX3_keeps 2 = .ok (.iconst 0, 1) := by decide +kernel
theorem dX3_keeps_3 : decode cX3_keeps 3 = .ok (.istore_n 2, 1) := by decide +kernel
theorem dX3_keeps_4 : decode cX3_keeps 4 = .ok (.aload_n 0, 1) := by decide +kernel
theorem dX3_keeps_5 : decode cX3_keeps 5 = .ok (.getfield 29, 3) := by decide +kernel
theorem dX3_keeps_8 : decode cX3_keeps 8 = .ok (.iconst 1, 1) := by decide +kernel
theorem dX3_keeps_9 : decode cX3_keeps 9 = .ok (.isub, 1) := by decide +kernel
theorem dX3_keeps_10 : decode cX3_keeps 10 = .ok (.istore_n 3, 1) := by decide +kernel
theorem dX3_keeps_11 : decode cX3_keeps 11 = .ok (.iload_n 3, 1) := by decide +kernel
theorem dX3_keeps_12 : decode cX3_keeps 12 = .ok (.ifCond .lt 85, 3) := by decide +kernel
theorem dX3_keeps_15 : decode cX3_keeps 15 = .ok (.aload_n 0, 1) := by decide +kernel
theorem dX3_keeps_16 : decode cX3_keeps 16 = .ok (.getfield 11, 3) := by decide +kernel
theorem dX3_keeps_19 : decode cX3_keeps 19 = .ok (.iload_n 3, 1) := by decide +kernel
theorem dX3_keeps_20 : decode cX3_keeps 20 = .ok (.aaload, 1) := by decide +kernel
theorem dX3_keeps_21 : decode cX3_keeps 21 = .ok (.astore 4, 2) := by decide +kernel
theorem dX3_keeps_23 : decode cX3_keeps 23 = .ok (.aload 4, 2) := by decide +kernel
theorem dX3_keeps_25 : decode cX3_keeps 25 = .ok (.aload_n 0, 1) := by decide +kernel
theorem dX3_keeps_26 : decode cX3_keeps 26 = .ok (.getfield 17, 3) := by decide +kernel
theorem dX3_keeps_29 : decode cX3_keeps 29 = .ok (.iload_n 3, 1) := by decide +kernel
theorem dX3_keeps_30 : decode cX3_keeps 30 = .ok (.iaload, 1) := by decide +kernel
theorem dX3_keeps_31 : decode cX3_keeps 31 = .ok (.aload_n 0, 1) := by decide +kernel
theorem dX3_keeps_32 : decode cX3_keeps 32 = .ok (.getfield 21, 3) := by decide +kernel
theorem dX3_keeps_35 : decode cX3_keeps 35 = .ok (.iload_n 3, 1) := by decide +kernel
theorem dX3_keeps_36 : decode cX3_keeps 36 = .ok (.iaload, 1) := by decide +kernel
theorem dX3_keeps_37 : decode cX3_keeps 37 = .ok (.invokevirtual 37, 3) := by decide +kernel
theorem dX3_keeps_40 : decode cX3_keeps 40 = .ok (.ifCond .eq 11, 3) := by decide +kernel
theorem dX3_keeps_43 : decode cX3_keeps 43 = .ok (.aload 4, 2) := by decide +kernel
theorem dX3_keeps_45 : decode cX3_keeps 45 = .ok (.getfield 41, 3) := by decide +kernel
theorem dX3_keeps_48 : decode cX3_keeps 48 = .ok (.ifCond .ne 5, 3) := by decide +kernel
theorem dX3_keeps_51 : decode cX3_keeps 51 = .ok (.iconst 0, 1) := by decide +kernel
theorem dX3_keeps_52 : decode cX3_keeps 52 = .ok (.ireturn, 1) := by decide +kernel
theorem dX3_keeps_53 : decode cX3_keeps 53 = .ok (.aload 4, 2) := by decide +kernel
theorem dX3_keeps_55 : decode cX3_keeps 55 = .ok (.getfield 45, 3) := by decide +kernel
theorem dX3_keeps_58 : decode cX3_keeps 58 = .ok (.ifCond .eq 7, 3) := by decide +kernel
theorem dX3_keeps_61 : decode cX3_keeps 61 = .ok (.iload_n 2, 1) := by decide +kernel
theorem dX3_keeps_62 : decode cX3_keeps 62 = .ok (.ifCond .ne 13, 3) := by decide +kernel
theorem dX3_keeps_65 : decode cX3_keeps 65 = .ok (.aload 4, 2) := by decide +kernel
theorem dX3_keeps_67 : decode cX3_keeps 67 = .ok (.getfield 48, 3) := by decide +kernel
theorem dX3_keeps_70 : decode cX3_keeps 70 = .ok (.iload_n 1, 1) := by decide +kernel
theorem dX3_keeps_71 : decode cX3_keeps 71 = .ok (.iand, 1) := by decide +kernel
theorem dX3_keeps_72 : decode cX3_keeps 72 = .ok (.ifCond .eq 5, 3) := by decide +kernel
theorem dX3_keeps_75 : decode cX3_keeps 75 = .ok (.iconst 0, 1) := by decide +kernel
theorem dX3_keeps_76 : decode cX3_keeps 76 = .ok (.ireturn, 1) := by decide +kernel
theorem dX3_keeps_77 : decode cX3_keeps 77 = .ok (.iload_n 1, 1) := by decide +kernel
theorem dX3_keeps_78 : decode cX3_keeps 78 = .ok (.aload 4, 2) := by decide +kernel
theorem dX3_keeps_80 : decode cX3_keeps 80 = .ok (.getfield 51, 3) := by decide +kernel
theorem dX3_keeps_83 : decode cX3_keeps 83 = .ok (.ior, 1) := by decide +kernel
theorem dX3_keeps_84 : decode cX3_keeps 84 = .ok (.istore_n 1, 1) := by decide +kernel
theorem dX3_keeps_85 : decode cX3_keeps 85 = .ok (.aload 4, 2) := by decide +kernel
theorem dX3_keeps_87 : decode cX3_keeps 87 = .ok (.invokevirtual 54, 3) := by decide +kernel
theorem dX3_keeps_90 : decode cX3_keeps 90 = .ok (.istore_n 2, 1) := by decide +kernel
theorem dX3_keeps_91 : decode cX3_keeps 91 = .ok (.iinc 3 (-1), 3) := by decide +kernel
theorem dX3_keeps_94 : decode cX3_keeps 94 = .ok (.goto (-83), 3) := by decide +kernel
theorem dX3_keeps_97 : decode cX3_keeps 97 = .ok (.iconst 1, 1) := by decide +kernel
theorem dX3_keeps_98 : decode cX3_keeps 98 = .ok (.ireturn, 1) := by decide +kernel
theorem dX3_scenesInRows_0 : decode cX3_scenesInRows 0 = .ok (.iconst 0, 1) := by decide +kernel
theorem dX3_scenesInRows_1 : decode cX3_scenesInRows 1 = .ok (.istore_n 1, 1) := by decide +kernel
theorem dX3_scenesInRows_2 : decode cX3_scenesInRows 2 = .ok (.iconst 0, 1) := by decide +kernel
theorem dX3_scenesInRows_3 : decode cX3_scenesInRows 3 = .ok (.istore_n 2, 1) := by decide +kernel
theorem dX3_scenesInRows_4 : decode cX3_scenesInRows 4 = .ok (.iload_n 2, 1) := by decide +kernel
theorem dX3_scenesInRows_5 : decode cX3_scenesInRows 5 = .ok (.aload_n 0, 1) := by decide +kernel
theorem dX3_scenesInRows_6 : decode cX3_scenesInRows 6 = .ok (.getfield 29, 3) := by decide +kernel
theorem dX3_scenesInRows_9 : decode cX3_scenesInRows 9 = .ok (.if_icmp .ge 21, 3) := by decide +kernel
theorem dX3_scenesInRows_12 : decode cX3_scenesInRows 12 = .ok (.iload_n 1, 1) := by decide +kernel
theorem dX3_scenesInRows_13 : decode cX3_scenesInRows 13 = .ok (.aload_n 0, 1) := by decide +kernel
theorem dX3_scenesInRows_14 : decode cX3_scenesInRows 14 = .ok (.getfield 11, 3) := by decide +kernel
theorem dX3_scenesInRows_17 : decode cX3_scenesInRows 17 = .ok (.iload_n 2, 1) := by decide +kernel
theorem dX3_scenesInRows_18 : decode cX3_scenesInRows 18 = .ok (.aaload, 1) := by decide +kernel
theorem dX3_scenesInRows_19 : decode cX3_scenesInRows 19 = .ok (.getfield 51, 3) := by decide +kernel
theorem dX3_scenesInRows_22 : decode cX3_scenesInRows 22 = .ok (.ior, 1) := by decide +kernel
theorem dX3_scenesInRows_23 : decode cX3_scenesInRows 23 = .ok (.istore_n 1, 1) := by decide +kernel
theorem dX3_scenesInRows_24 : decode cX3_scenesInRows 24 = .ok (.iinc 2 1, 3) := by decide +kernel
theorem dX3_scenesInRows_27 : decode cX3_scenesInRows 27 = .ok (.goto (-23), 3) := by decide +kernel
theorem dX3_scenesInRows_30 : decode cX3_scenesInRows 30 = .ok (.iload_n 1, 1) := by decide +kernel
theorem dX3_scenesInRows_31 : decode cX3_scenesInRows 31 = .ok (.ireturn, 1) := by decide +kernel
theorem dX3_dayWith_0 : decode cX3_dayWith 0 = .ok (.iconst 0, 1) := by decide +kernel
theorem dX3_dayWith_1 : decode cX3_dayWith 1 = .ok (.istore_n 2, 1) := by decide +kernel
theorem dX3_dayWith_2 : decode cX3_dayWith 2 = .ok (.iload_n 2, 1) := by decide +kernel
theorem dX3_dayWith_3 : decode cX3_dayWith 3 = .ok (.aload_n 0, 1) := by decide +kernel
theorem dX3_dayWith_4 : decode cX3_dayWith 4 = .ok (.getfield 29, 3) := by decide +kernel
theorem dX3_dayWith_7 : decode cX3_dayWith 7 = .ok (.if_icmp .ge 27, 3) := by decide +kernel
theorem dX3_dayWith_10 : decode cX3_dayWith 10 = .ok (.aload_n 0, 1) := by decide +kernel
theorem dX3_dayWith_11 : decode cX3_dayWith 11 = .ok (.getfield 11, 3) := by decide +kernel
theorem dX3_dayWith_14 : decode cX3_dayWith 14 = .ok (.iload_n 2, 1) := by decide +kernel
theorem dX3_dayWith_15 : decode cX3_dayWith 15 = .ok (.aaload, 1) := by decide +kernel
theorem dX3_dayWith_16 : decode cX3_dayWith 16 = .ok (.getfield 51, 3) := by decide +kernel
theorem dX3_dayWith_19 : decode cX3_dayWith 19 = .ok (.iload_n 1, 1) := by decide +kernel
theorem dX3_dayWith_20 : decode cX3_dayWith 20 = .ok (.invokestatic 58, 3) := by decide +kernel
theorem dX3_dayWith_23 : decode cX3_dayWith 23 = .ok (.ifCond .eq 5, 3) := by decide +kernel
theorem dX3_dayWith_26 : decode cX3_dayWith 26 = .ok (.iload_n 2, 1) := by decide +kernel
theorem dX3_dayWith_27 : decode cX3_dayWith 27 = .ok (.ireturn, 1) := by decide +kernel
theorem dX3_dayWith_28 : decode cX3_dayWith 28 = .ok (.iinc 2 1, 3) := by decide +kernel
theorem dX3_dayWith_31 : decode cX3_dayWith 31 = .ok (.goto (-29), 3) := by decide +kernel
theorem dX3_dayWith_34 : decode cX3_dayWith 34 = .ok (.iconst (-1), 1) := by decide +kernel
theorem dX3_dayWith_35 : decode cX3_dayWith 35 = .ok (.ireturn, 1) := by decide +kernel
theorem dX3_placeInRow_0 : decode cX3_placeInRow 0 = .ok (.aload_n 0, 1) := by decide +kernel
theorem dX3_placeInRow_1 : decode cX3_placeInRow 1 = .ok (.iload_n 1, 1) := by decide +kernel
theorem dX3_placeInRow_2 : decode cX3_placeInRow 2 = .ok (.invokevirtual 61, 3) := by decide +kernel
theorem dX3_placeInRow_5 : decode cX3_placeInRow 5 = .ok (.istore_n 2, 1) := by decide +kernel
theorem dX3_placeInRow_6 : decode cX3_placeInRow 6 = .ok (.iload_n 2, 1) := by decide +kernel
theorem dX3_placeInRow_7 : decode cX3_placeInRow 7 = .ok (.iconst (-1), 1) := by decide +kernel
theorem dX3_placeInRow_8 : decode cX3_placeInRow 8 = .ok (.if_icmp .ne 5, 3) := by decide +kernel
theorem dX3_placeInRow_11 : decode cX3_placeInRow 11 = .ok (.iconst (-1), 1) := by decide +kernel
theorem dX3_placeInRow_12 : decode cX3_placeInRow 12 = .ok (.ireturn, 1) := by decide +kernel
theorem dX3_placeInRow_13 : decode cX3_placeInRow 13 = .ok (.aload_n 0, 1) := by decide +kernel
theorem dX3_placeInRow_14 : decode cX3_placeInRow 14 = .ok (.getfield 11, 3) := by decide +kernel
theorem dX3_placeInRow_17 : decode cX3_placeInRow 17 = .ok (.iload_n 2, 1) := by decide +kernel
theorem dX3_placeInRow_18 : decode cX3_placeInRow 18 = .ok (.aaload, 1) := by decide +kernel
theorem dX3_placeInRow_19 : decode cX3_placeInRow 19 = .ok (.astore_n 3, 1) := by decide +kernel
theorem dX3_placeInRow_20 : decode cX3_placeInRow 20 = .ok (.iconst 0, 1) := by decide +kernel
theorem dX3_placeInRow_21 : decode cX3_placeInRow 21 = .ok (.istore 4, 2) := by decide +kernel
theorem dX3_placeInRow_23 : decode cX3_placeInRow 23 = .ok (.iload 4, 2) := by decide +kernel
theorem dX3_placeInRow_25 : decode cX3_placeInRow 25 = .ok (.aload_n 3, 1) := by decide +kernel
theorem dX3_placeInRow_26 : decode cX3_placeInRow 26 = .ok (.getfield 65, 3) := by decide +kernel
theorem dX3_placeInRow_29 : decode cX3_placeInRow 29 = .ok (.if_icmp .ge 23, 3) := by decide +kernel
theorem dX3_placeInRow_32 : decode cX3_placeInRow 32 = .ok (.aload_n 3, 1) := by decide +kernel
theorem dX3_placeInRow_33 : decode cX3_placeInRow 33 = .ok (.getfield 68, 3) := by decide +kernel
theorem dX3_placeInRow_36 : decode cX3_placeInRow 36 = .ok (.iload 4, 2) := by decide +kernel
theorem dX3_placeInRow_38 : decode cX3_placeInRow 38 = .ok (.iaload, 1) := by decide +kernel
theorem dX3_placeInRow_39 : decode cX3_placeInRow 39 = .ok (.iload_n 1, 1) := by decide +kernel
theorem dX3_placeInRow_40 : decode cX3_placeInRow 40 = .ok (.if_icmp .ne 6, 3) := by decide +kernel
theorem dX3_placeInRow_43 : decode cX3_placeInRow 43 = .ok (.iload 4, 2) := by decide +kernel
theorem dX3_placeInRow_45 : decode cX3_placeInRow 45 = .ok (.ireturn, 1) := by decide +kernel
theorem dX3_placeInRow_46 : decode cX3_placeInRow 46 = .ok (.iinc 4 1, 3) := by decide +kernel
theorem dX3_placeInRow_49 : decode cX3_placeInRow 49 = .ok (.goto (-26), 3) := by decide +kernel
theorem dX3_placeInRow_52 : decode cX3_placeInRow 52 = .ok (.iconst (-1), 1) := by decide +kernel
theorem dX3_placeInRow_53 : decode cX3_placeInRow 53 = .ok (.ireturn, 1) := by decide +kernel
theorem dX3_plays_0 : decode cX3_plays 0 = .ok (.aload_n 0, 1) := by decide +kernel
theorem dX3_plays_1 : decode cX3_plays 1 = .ok (.getfield 11, 3) := by decide +kernel
theorem dX3_plays_4 : decode cX3_plays 4 = .ok (.iload_n 2, 1) := by decide +kernel
theorem dX3_plays_5 : decode cX3_plays 5 = .ok (.aaload, 1) := by decide +kernel
theorem dX3_plays_6 : decode cX3_plays 6 = .ok (.getfield 71, 3) := by decide +kernel
theorem dX3_plays_9 : decode cX3_plays 9 = .ok (.iload_n 1, 1) := by decide +kernel
theorem dX3_plays_10 : decode cX3_plays 10 = .ok (.invokestatic 58, 3) := by decide +kernel
theorem dX3_plays_13 : decode cX3_plays 13 = .ok (.ireturn, 1) := by decide +kernel
theorem dX3_firstDayOf_0 : decode cX3_firstDayOf 0 = .ok (.iconst 0, 1) := by decide +kernel
theorem dX3_firstDayOf_1 : decode cX3_firstDayOf 1 = .ok (.istore_n 2, 1) := by decide +kernel
theorem dX3_firstDayOf_2 : decode cX3_firstDayOf 2 = .ok (.iload_n 2, 1) := by decide +kernel
theorem dX3_firstDayOf_3 : decode cX3_firstDayOf 3 = .ok (.aload_n 0, 1) := by decide +kernel
theorem dX3_firstDayOf_4 : decode cX3_firstDayOf 4 = .ok (.getfield 29, 3) := by decide +kernel
theorem dX3_firstDayOf_7 : decode cX3_firstDayOf 7 = .ok (.if_icmp .ge 20, 3) := by decide +kernel
theorem dX3_firstDayOf_10 : decode cX3_firstDayOf 10 = .ok (.aload_n 0, 1) := by decide +kernel
theorem dX3_firstDayOf_11 : decode cX3_firstDayOf 11 = .ok (.iload_n 1, 1) := by decide +kernel
theorem dX3_firstDayOf_12 : decode cX3_firstDayOf 12 = .ok (.iload_n 2, 1) := by decide +kernel
theorem dX3_firstDayOf_13 : decode cX3_firstDayOf 13 = .ok (.invokevirtual 74, 3) := by decide +kernel
theorem dX3_firstDayOf_16 : decode cX3_firstDayOf 16 = .ok (.ifCond .eq 5, 3) := by decide +kernel
theorem dX3_firstDayOf_19 : decode cX3_firstDayOf 19 = .ok (.iload_n 2, 1) := by decide +kernel
theorem dX3_firstDayOf_20 : decode cX3_firstDayOf 20 = .ok (.ireturn, 1) := by decide +kernel
theorem dX3_firstDayOf_21 : decode cX3_firstDayOf 21 = .ok (.iinc 2 1, 3) := by decide +kernel
theorem dX3_firstDayOf_24 : decode cX3_firstDayOf 24 = .ok (.goto (-22), 3) := by decide +kernel
theorem dX3_firstDayOf_27 : decode cX3_firstDayOf 27 = .ok (.iconst (-1), 1) := by decide +kernel
theorem dX3_firstDayOf_28 : decode cX3_firstDayOf 28 = .ok (.ireturn, 1) := by decide +kernel
theorem dX3_lastDayOf_0 : decode cX3_lastDayOf 0 = .ok (.aload_n 0, 1) := by decide +kernel
theorem dX3_lastDayOf_1 : decode cX3_lastDayOf 1 = .ok (.getfield 29, 3) := by decide +kernel
theorem dX3_lastDayOf_4 : decode cX3_lastDayOf 4 = .ok (.iconst 1, 1) := by decide +kernel
theorem dX3_lastDayOf_5 : decode cX3_lastDayOf 5 = .ok (.isub, 1) := by decide +kernel
theorem dX3_lastDayOf_6 : decode cX3_lastDayOf 6 = .ok (.istore_n 2, 1) := by decide +kernel
theorem dX3_lastDayOf_7 : decode cX3_lastDayOf 7 = .ok (.iload_n 2, 1) := by decide +kernel
theorem dX3_lastDayOf_8 : decode cX3_lastDayOf 8 = .ok (.ifCond .lt 20, 3) := by decide +kernel
theorem dX3_lastDayOf_11 : decode cX3_lastDayOf 11 = .ok (.aload_n 0, 1) := by decide +kernel
theorem dX3_lastDayOf_12 : decode cX3_lastDayOf 12 = .ok (.iload_n 1, 1) := by decide +kernel
theorem dX3_lastDayOf_13 : decode cX3_lastDayOf 13 = .ok (.iload_n 2, 1) := by decide +kernel
theorem dX3_lastDayOf_14 : decode cX3_lastDayOf 14 = .ok (.invokevirtual 74, 3) := by decide +kernel
theorem dX3_lastDayOf_17 : decode cX3_lastDayOf 17 = .ok (.ifCond .eq 5, 3) := by decide +kernel
theorem dX3_lastDayOf_20 : decode cX3_lastDayOf 20 = .ok (.iload_n 2, 1) := by decide +kernel
theorem dX3_lastDayOf_21 : decode cX3_lastDayOf 21 = .ok (.ireturn, 1) := by decide +kernel
theorem dX3_lastDayOf_22 : decode cX3_lastDayOf 22 = .ok (.iinc 2 (-1), 3) := by decide +kernel
theorem dX3_lastDayOf_25 : decode cX3_lastDayOf 25 = .ok (.goto (-18), 3) := by decide +kernel
theorem dX3_lastDayOf_28 : decode cX3_lastDayOf 28 = .ok (.iconst (-1), 1) := by decide +kernel
theorem dX3_lastDayOf_29 : decode cX3_lastDayOf 29 = .ok (.ireturn, 1) := by decide +kernel
theorem dX3_daysWith_0 : decode cX3_daysWith 0 = .ok (.iconst 0, 1) := by decide +kernel
theorem dX3_daysWith_1 : decode cX3_daysWith 1 = .ok (.istore_n 2, 1) := by decide +kernel
theorem dX3_daysWith_2 : decode cX3_daysWith 2 = .ok (.iconst 0, 1) := by decide +kernel
theorem dX3_daysWith_3 : decode cX3_daysWith 3 = .ok (.istore_n 3, 1) := by decide +kernel
theorem dX3_daysWith_4 : decode cX3_daysWith 4 = .ok (.iload_n 3, 1) := by decide +kernel
theorem dX3_daysWith_5 : decode cX3_daysWith 5 = .ok (.aload_n 0, 1) := by decide +kernel
theorem dX3_daysWith_6 : decode cX3_daysWith 6 = .ok (.getfield 29, 3) := by decide +kernel
theorem dX3_daysWith_9 : decode cX3_daysWith 9 = .ok (.if_icmp .ge 21, 3) := by decide +kernel
theorem dX3_daysWith_12 : decode cX3_daysWith 12 = .ok (.aload_n 0, 1) := by decide +kernel
theorem dX3_daysWith_13 : decode cX3_daysWith 13 = .ok (.iload_n 1, 1) := by decide +kernel
theorem dX3_daysWith_14 : decode cX3_daysWith 14 = .ok (.iload_n 3, 1) := by decide +kernel
theorem dX3_daysWith_15 : decode cX3_daysWith 15 = .ok (.invokevirtual 74, 3) := by decide +kernel
theorem dX3_daysWith_18 : decode cX3_daysWith 18 = .ok (.ifCond .eq 6, 3) := by decide +kernel
theorem dX3_daysWith_21 : decode cX3_daysWith 21 = .ok (.iinc 2 1, 3) := by decide +kernel
theorem dX3_daysWith_24 : decode cX3_daysWith 24 = .ok (.iinc 3 1, 3) := by decide +kernel
theorem dX3_daysWith_27 : decode cX3_daysWith 27 = .ok (.goto (-23), 3) := by decide +kernel
theorem dX3_daysWith_30 : decode cX3_daysWith 30 = .ok (.iload_n 2, 1) := by decide +kernel
theorem dX3_daysWith_31 : decode cX3_daysWith 31 = .ok (.ireturn, 1) := by decide +kernel
theorem dX3_greatestMost_0 : decode cX3_greatestMost 0 = .ok (.iconst 0, 1) := by decide +kernel
theorem dX3_greatestMost_1 : decode cX3_greatestMost 1 = .ok (.istore_n 1, 1) := by decide +kernel
theorem dX3_greatestMost_2 : decode cX3_greatestMost 2 = .ok (.iconst 0, 1) := by decide +kernel
theorem dX3_greatestMost_3 : decode cX3_greatestMost 3 = .ok (.istore_n 2, 1) := by decide +kernel
theorem dX3_greatestMost_4 : decode cX3_greatestMost 4 = .ok (.iload_n 2, 1) := by decide +kernel
theorem dX3_greatestMost_5 : decode cX3_greatestMost 5 = .ok (.aload_n 0, 1) := by decide +kernel
theorem dX3_greatestMost_6 : decode cX3_greatestMost 6 = .ok (.getfield 29, 3) := by decide +kernel
theorem dX3_greatestMost_9 : decode cX3_greatestMost 9 = .ok (.if_icmp .ge 20, 3) := by decide +kernel
theorem dX3_greatestMost_12 : decode cX3_greatestMost 12 = .ok (.iload_n 1, 1) := by decide +kernel
theorem dX3_greatestMost_13 : decode cX3_greatestMost 13 = .ok (.aload_n 0, 1) := by decide +kernel
theorem dX3_greatestMost_14 : decode cX3_greatestMost 14 = .ok (.getfield 17, 3) := by decide +kernel
theorem dX3_greatestMost_17 : decode cX3_greatestMost 17 = .ok (.iload_n 2, 1) := by decide +kernel
theorem dX3_greatestMost_18 : decode cX3_greatestMost 18 = .ok (.iaload, 1) := by decide +kernel
theorem dX3_greatestMost_19 : decode cX3_greatestMost 19 = .ok (.invokestatic 77, 3) := by decide +kernel
theorem dX3_greatestMost_22 : decode cX3_greatestMost 22 = .ok (.istore_n 1, 1) := by decide +kernel
theorem dX3_greatestMost_23 : decode cX3_greatestMost 23 = .ok (.iinc 2 1, 3) := by decide +kernel
theorem dX3_greatestMost_26 : decode cX3_greatestMost 26 = .ok (.goto (-22), 3) := by decide +kernel
theorem dX3_greatestMost_29 : decode cX3_greatestMost 29 = .ok (.iload_n 1, 1) := by decide +kernel
theorem dX3_greatestMost_30 : decode cX3_greatestMost 30 = .ok (.ireturn, 1) := by decide +kernel
