theorem dX7_init_0 : decode cX7_init 0 = .ok (.aload_n 0, 1) := by decide +kernel
theorem dX7_init_1 : decode cX7_init 1 = .ok (.invokespecial 1, 3) := by decide +kernel
theorem dX7_init_4 : decode cX7_init 4 = .ok (.aload_n 0, 1) := by decide +kernel
theorem dX7_init_5 : decode cX7_init 5 = .ok (.bipush 20, 2) := by decide +kernel
theorem dX7_init_7 : decode cX7_init 7 = .ok (.newarray .int, 2) := by decide +kernel
theorem dX7_init_9 : decode cX7_init 9 = .ok (.putfield 7, 3) := by decide +kernel
theorem dX7_init_12 : decode cX7_init 12 = .ok (.aload_n 0, 1) := by decide +kernel
theorem dX7_init_13 : decode cX7_init 13 = .ok (.bipush 20, 2) := by decide +kernel
theorem dX7_init_15 : decode cX7_init 15 = .ok (.newarray .int, 2) := by decide +kernel
theorem dX7_init_17 : decode cX7_init 17 = .ok (.putfield 13, 3) := by decide +kernel
theorem dX7_init_20 : decode cX7_init 20 = .ok (.aload_n 0, 1) := by decide +kernel
theorem dX7_init_21 : decode cX7_init 21 = .ok (.bipush 20, 2) := by decide +kernel
theorem dX7_init_23 : decode cX7_init 23 = .ok (.newarray .int, 2) := by decide +kernel
theorem dX7_init_25 : decode cX7_init 25 = .ok (.putfield 16, 3) := by decide +kernel
theorem dX7_init_28 : decode cX7_init 28 = .ok (.aload_n 0, 1) := by decide +kernel
theorem dX7_init_29 : decode cX7_init 29 = .ok (.bipush 20, 2) := by decide +kernel
theorem dX7_init_31 : decode cX7_init 31 = .ok (.newarray .boolean, 2) := by decide +kernel
theorem dX7_init_33 : decode cX7_init 33 = .ok (.putfield 19, 3) := by decide +kernel
theorem dX7_init_36 : decode cX7_init 36 = .ok (.aload_n 0, 1) := by decide +kernel
theorem dX7_init_37 : decode cX7_init 37 = .ok (.bipush 20, 2) := by decide +kernel
theorem dX7_init_39 : decode cX7_init 39 = .ok (.newarray .int, 2) := by decide +kernel
theorem dX7_init_41 : decode cX7_init 41 = .ok (.putfield 23, 3) := by decide +kernel
theorem dX7_init_44 : decode cX7_init 44 = .ok (.aload_n 0, 1) := by decide +kernel
theorem dX7_init_45 : decode cX7_init 45 = .ok (.bipush 20, 2) := by decide +kernel
theorem dX7_init_47 : decode cX7_init 47 = .ok (.newarray .int, 2) := by decide +kernel
theorem dX7_init_49 : decode cX7_init 49 = .ok (.putfield 26, 3) := by decide +kernel
theorem dX7_init_52 : decode cX7_init 52 = .ok (.aload_n 0, 1) := by decide +kernel
theorem dX7_init_53 : decode cX7_init 53 = .ok (.bipush 20, 2) := by decide +kernel
theorem dX7_init_55 : decode cX7_init 55 = .ok (.newarray .int, 2) := by decide +kernel
theorem dX7_init_57 : decode cX7_init 57 = .ok (.putfield 29, 3) := by decide +kernel
theorem dX7_init_60 : decode cX7_init 60 = .ok (.aload_n 0, 1) := by decide +kernel
theorem dX7_init_61 : decode cX7_init 61 = .ok (.bipush 8, 2) := by decide +kernel
theorem dX7_init_63 : decode cX7_init 63 = .ok (.newarray .int, 2) := by decide +kernel
theorem dX7_init_65 : decode cX7_init 65 = .ok (.putfield 32, 3) := by decide +kernel
theorem dX7_init_68 : decode cX7_init 68 = .ok (.aload_n 0, 1) := by decide +kernel
theorem dX7_init_69 : decode cX7_init 69 = .ok (.bipush 8, 2) := by decide +kernel
theorem dX7_init_71 : decode cX7_init 71 = .ok (.newarray .int, 2) := by decide +kernel
theorem dX7_init_73 : decode cX7_init 73 = .ok (.putfield 35, 3) := by decide +kernel
theorem dX7_init_76 : decode cX7_init 76 = .ok (.aload_n 0, 1) := by decide +kernel
theorem dX7_init_77 : decode cX7_init 77 = .ok (.bipush 8, 2) := by decide +kernel
theorem dX7_init_79 : decode cX7_init 79 = .ok (.newarray .int, 2) := by decide +kernel
theorem dX7_init_81 : decode cX7_init 81 = .ok (.putfield 38, 3) := by decide +kernel
theorem dX7_init_84 : decode cX7_init 84 = .ok (.aload_n 0, 1) := by decide +kernel
theorem dX7_init_85 : decode cX7_init 85 = .ok (.bipush 8, 2) := by decide +kernel
theorem dX7_init_87 : decode cX7_init 87 = .ok (.newarray .int, 2) := by decide +kernel
theorem dX7_init_89 : decode cX7_init 89 = .ok (.putfield 41, 3) := by decide +kernel
theorem dX7_init_92 : decode cX7_init 92 = .ok (.aload_n 0, 1) := by decide +kernel
theorem dX7_init_93 : decode cX7_init 93 = .ok (.bipush 8, 2) := by decide +kernel
theorem dX7_init_95 : decode cX7_init 95 = .ok (.newarray .int, 2) := by decide +kernel
theorem dX7_init_97 : decode cX7_init 97 = .ok (.putfield 44, 3) := by decide +kernel
theorem dX7_init_100 : decode cX7_init 100 = .ok (.aload_n 0, 1) := by decide +kernel
theorem dX7_init_101 : decode cX7_init 101 = .ok (.bipush 8, 2) := by decide +kernel
theorem dX7_init_103 : decode cX7_init 103 = .ok (.newarray .int, 2) := by decide +kernel
theorem dX7_init_105 : decode cX7_init 105 = .ok (.putfield 47, 3) := by decide +kernel
theorem dX7_init_108 : decode cX7_init 108 = .ok (.aload_n 0, 1) := by decide +kernel
theorem dX7_init_109 : decode cX7_init 109 = .ok (.bipush 8, 2) := by decide +kernel
theorem dX7_init_111 : decode cX7_init 111 = .ok (.newarray .int, 2) := by decide +kernel
theorem dX7_init_113 : decode cX7_init 113 = .ok (.putfield 50, 3) := by decide +kernel
theorem dX7_init_116 : decode cX7_init 116 = .ok (.aload_n 0, 1) := by decide +kernel
theorem dX7_init_117 : decode cX7_init 117 = .ok (.bipush 40, 2) := by decide +kernel
theorem dX7_init_119 : decode cX7_init 119 = .ok (.newarray .int, 2) := by decide +kernel
theorem dX7_init_121 : decode cX7_init 121 = .ok (.putfield 53, 3) := by decide +kernel
theorem dX7_init_124 : decode cX7_init 124 = .ok (.aload_n 0, 1) := by decide +kernel
theorem dX7_init_125 : decode cX7_init 125 = .ok (.bipush 6, 2) := by decide +kernel
theorem dX7_init_127 : decode cX7_init 127 = .ok (.newarray .int, 2) := by decide +kernel
theorem dX7_init_129 : decode cX7_init 129 = .ok (.putfield 56, 3) := by decide +kernel
theorem dX7_init_132 : decode cX7_init 132 = .ok (.aload_n 0, 1) := by decide +kernel
theorem dX7_init_133 : decode cX7_init 133 = .ok (.iconst 5, 1) := by decide +kernel
theorem dX7_init_134 : decode cX7_init 134 = .ok (.newarray .int, 2) := by decide +kernel
theorem dX7_init_136 : decode cX7_init 136 = .ok (.putfield 59, 3) := by decide +kernel
theorem dX7_init_139 : decode cX7_init 139 = .ok (.aload_n 0, 1) := by decide +kernel
theorem dX7_init_140 : decode cX7_init 140 = .ok (.iconst 5, 1) := by decide +kernel
theorem dX7_init_141 : decode cX7_init 141 = .ok (.newarray .int, 2) := by decide +kernel
theorem dX7_init_143 : decode cX7_init 143 = .ok (.putfield 62, 3) := by decide +kernel
theorem dX7_init_146 : decode cX7_init 146 = .ok (.aload_n 0, 1) := by decide +kernel
theorem dX7_init_147 : decode cX7_init 147 = .ok (.bipush 40, 2) := by decide +kernel
theorem dX7_init_149 : decode cX7_init 149 = .ok (.newarray .int, 2) := by decide +kernel
theorem dX7_init_151 : decode cX7_init 151 = .ok (.putfield 65, 3) := by decide +kernel
theorem dX7_init_154 : decode cX7_init 154 = .ok (.aload_n 0, 1) := by decide +kernel
theorem dX7_init_155 : decode cX7_init 155 = .ok (.bipush 8, 2) := by decide +kernel
theorem dX7_init_157 : decode cX7_init 157 = .ok (.newarray .int, 2) := by decide +kernel
theorem dX7_init_159 : decode cX7_init 159 = .ok (.putfield 68, 3) := by decide +kernel
theorem dX7_init_162 : decode cX7_init 162 = .ok (.aload_n 0, 1) := by decide +kernel
theorem dX7_init_163 : decode cX7_init 163 = .ok (.bipush 20, 2) := by decide +kernel
theorem dX7_init_165 : decode cX7_init 165 = .ok (.newarray .int, 2) := by decide +kernel
theorem dX7_init_167 : decode cX7_init 167 = .ok (.putfield 71, 3) := by decide +kernel
theorem dX7_init_170 : decode cX7_init 170 = .ok (.aload_n 0, 1) := by decide +kernel
theorem dX7_init_171 : decode cX7_init 171 = .ok (.bipush 6, 2) := by decide +kernel
theorem dX7_init_173 : decode cX7_init 173 = .ok (.newarray .int, 2) := by decide +kernel
theorem dX7_init_175 : decode cX7_init 175 = .ok (.putfield 74, 3) := by decide +kernel
theorem dX7_init_178 : decode cX7_init 178 = .ok (.aload_n 0, 1) := by decide +kernel
theorem dX7_init_179 : decode cX7_init 179 = .ok (.bipush 6, 2) := by decide +kernel
theorem dX7_init_181 : decode cX7_init 181 = .ok (.newarray .int, 2) := by decide +kernel
theorem dX7_init_183 : decode cX7_init 183 = .ok (.putfield 77, 3) := by decide +kernel
theorem dX7_init_186 : decode cX7_init 186 = .ok (.return_, 1) := by decide +kernel
theorem dX7_in_0 : decode cX7_in 0 = .ok (.iload_n 0, 1) := by decide +kernel
theorem dX7_in_1 : decode cX7_in 1 = .ok (.iload_n 1, 1) := by decide +kernel
theorem dX7_in_2 : decode cX7_in 2 = .ok (.if_icmp .lt 12, 3) := by decide +kernel
theorem dX7_in_5 : decode cX7_in 5 = .ok (.iload_n 0, 1) := by decide +kernel
theorem dX7_in_6 : decode cX7_in 6 = .ok (.iload_n 2, 1) := by decide +kernel
theorem dX7_in_7 : decode cX7_in 7 = .ok (.if_icmp .gt 7, 3) := by decide +kernel
theorem dX7_in_10 : decode cX7_in 10 = .ok (.iconst 1, 1) := by decide +kernel
theorem dX7_in_11 : decode cX7_in 11 = .ok (.goto 4, 3) := by decide +kernel
theorem dX7_in_14 : decode cX7_in 14 = .ok (.iconst 0, 1) := by decide +kernel
theorem dX7_in_15 : decode cX7_in 15 = .ok (.ireturn, 1) := by decide +kernel
theorem dX7_isScene_0 : decode cX7_isScene 0 = .ok (.iload_n 1, 1) := by decide +kernel
theorem dX7_isScene_1 : decode cX7_isScene 1 = .ok (.iconst 0, 1) := by decide +kernel
theorem dX7_isScene_2 : decode cX7_isScene 2 = .ok (.aload_n 0, 1) := by decide +kernel
theorem dX7_isScene_3 : decode cX7_isScene 3 = .ok (.getfield 84, 3) := by decide +kernel
theorem dX7_isScene_6 : decode cX7_isScene 6 = .ok (.iconst 1, 1) := by decide +kernel
theorem dX7_isScene_7 : decode cX7_isScene 7 = .ok (.isub, 1) := by decide +kernel
theorem dX7_isScene_8 : decode cX7_isScene 8 = .ok (.invokestatic 87, 3) := by decide +kernel
theorem dX7_isScene_11 : decode cX7_isScene 11 = .ok (.ireturn, 1) := by decide +kernel
theorem dX7_isDay_0 : decode cX7_isDay 0 = .ok (.iload_n 1, 1) := by decide +kernel
theorem dX7_isDay_1 : decode cX7_isDay 1 = .ok (.iconst 0, 1) := by decide +kernel
theorem dX7_isDay_2 : decode cX7_isDay 2 = .ok (.aload_n 0, 1) := by decide +kernel
theorem dX7_isDay_3 : decode cX7_isDay 3 = .ok (.getfield 91, 3) := by decide +kernel
theorem dX7_isDay_6 : decode cX7_isDay 6 = .ok (.iconst 1, 1) := by decide +kernel
theorem dX7_isDay_7 : decode cX7_isDay 7 = .ok (.isub, 1) := by decide +kernel
theorem dX7_isDay_8 : decode cX7_isDay 8 = .ok (.invokestatic 87, 3) := by decide +kernel
theorem dX7_isDay_11 : decode cX7_isDay 11 = .ok (.ireturn, 1) := by decide +kernel
theorem dX7_distance_0 : decode cX7_distance 0 = .ok (.iload_n 0, 1) := by decide +kernel
theorem dX7_distance_1 : decode cX7_distance 1 = .ok (.iload_n 1, 1) := by decide +kernel
theorem dX7_distance_2 : decode cX7_distance 2 = .ok (.if_icmp .ge 9, 3) := by decide +kernel
theorem dX7_distance_5 : decode cX7_distance 5 = .ok (.iload_n 1, 1) := by decide +kernel
theorem dX7_distance_6 : decode cX7_distance 6 = .ok (.iload_n 0, 1) := by decide +kernel
theorem dX7_distance_7 : decode cX7_distance 7 = .ok (.isub, 1) := by decide +kernel
theorem dX7_distance_8 : decode cX7_distance 8 = .ok (.goto 6, 3) := by decide +kernel
theorem dX7_distance_11 : decode cX7_distance 11 = .ok (.iload_n 0, 1) := by decide +kernel
theorem dX7_distance_12 : decode cX7_distance 12 = .ok (.iload_n 1, 1) := by decide +kernel
theorem dX7_distance_13 : decode cX7_distance 13 = .ok (.isub, 1) := by decide +kernel
theorem dX7_distance_14 : decode cX7_distance 14 = .ok (.ireturn, 1) := by decide +kernel
theorem dX7_scene_0 : decode cX7_scene 0 = .ok (.iload_n 1, 1) := by decide +kernel
theorem dX7_scene_1 : decode cX7_scene 1 = .ok (.iconst 5, 1) := by decide +kernel
theorem dX7_scene_2 : decode cX7_scene 2 = .ok (.sipush 300, 3) := by decide +kernel
theorem dX7_scene_5 : decode cX7_scene 5 = .ok (.invokestatic 87, 3) := by decide +kernel
theorem dX7_scene_8 : decode cX7_scene 8 = .ok (.ifCond .eq 34, 3) := by decide +kernel
theorem dX7_scene_11 : decode cX7_scene 11 = .ok (.iload_n 3, 1) := by decide +kernel
theorem dX7_scene_12 : decode cX7_scene 12 = .ok (.iconst 0, 1) := by decide +kernel
theorem dX7_scene_13 : decode cX7_scene 13 = .ok (.iconst 2, 1) := by decide +kernel
theorem dX7_scene_14 : decode cX7_scene 14 = .ok (.invokestatic 87, 3) := by decide +kernel
theorem dX7_scene_17 : decode cX7_scene 17 = .ok (.ifCond .eq 25, 3) := by decide +kernel
theorem dX7_scene_20 : decode cX7_scene 20 = .ok (.iload 4, 2) := by decide +kernel
theorem dX7_scene_22 : decode cX7_scene 22 = .ok (.iconst 0, 1) := by decide +kernel
theorem dX7_scene_23 : decode cX7_scene 23 = .ok (.iconst 1, 1) := by decide +kernel
theorem dX7_scene_24 : decode cX7_scene 24 = .ok (.invokestatic 87, 3) := by decide +kernel
theorem dX7_scene_27 : decode cX7_scene 27 = .ok (.ifCond .eq 15, 3) := by decide +kernel
theorem dX7_scene_30 : decode cX7_scene 30 = .ok (.iload 5, 2) := by decide +kernel
theorem dX7_scene_32 : decode cX7_scene 32 = .ok (.iconst 0, 1) := by decide +kernel
theorem dX7_scene_33 : decode cX7_scene 33 = .ok (.sipush 255, 3) := by decide +kernel
theorem dX7_scene_36 : decode cX7_scene 36 = .ok (.invokestatic 87, 3) := by decide +kernel
theorem dX7_scene_39 : decode cX7_scene 39 = .ok (.ifCond .ne 6, 3) := by decide +kernel
theorem dX7_scene_42 : decode cX7_scene 42 = .ok (.bipush (-2), 2) := by decide +kernel
theorem dX7_scene_44 : decode cX7_scene 44 = .ok (.ireturn, 1) := by decide +kernel
theorem dX7_scene_45 : decode cX7_scene 45 = .ok (.iload_n 2, 1) := by decide +kernel
theorem dX7_scene_46 : decode cX7_scene 46 = .ok (.iconst 0, 1) := by decide +kernel
theorem dX7_scene_47 : decode cX7_scene 47 = .ok (.bipush 7, 2) := by decide +kernel
theorem dX7_scene_49 : decode cX7_scene 49 = .ok (.invokestatic 87, 3) := by decide +kernel
theorem dX7_scene_52 : decode cX7_scene 52 = .ok (.ifCond .ne 5, 3) := by decide +kernel
theorem dX7_scene_55 : decode cX7_scene 55 = .ok (.iconst (-1), 1) := by decide +kernel
theorem dX7_scene_56 : decode cX7_scene 56 = .ok (.ireturn, 1) := by decide +kernel
theorem dX7_scene_57 : decode cX7_scene 57 = .ok (.aload_n 0, 1) := by decide +kernel
theorem dX7_scene_58 : decode cX7_scene 58 = .ok (.getfield 84, 3) := by decide +kernel
theorem dX7_scene_61 : decode cX7_scene 61 = .ok (.bipush 20, 2) := by decide +kernel
theorem dX7_scene_63 : decode cX7_scene 63 = .ok (.if_icmp .ne 6, 3) := by decide +kernel
theorem dX7_scene_66 : decode cX7_scene 66 = .ok (.bipush (-4), 2) := by decide +kernel
theorem dX7_scene_68 : decode cX7_scene 68 = .ok (.ireturn, 1) := by decide +kernel
theorem dX7_scene_69 : decode cX7_scene 69 = .ok (.aload_n 0, 1) := by decide +kernel
theorem dX7_scene_70 : decode cX7_scene 70 = .ok (.getfield 7, 3) := by decide +kernel
theorem dX7_scene_73 : decode cX7_scene 73 = .ok (.aload_n 0, 1) := by decide +kernel
theorem dX7_scene_74 : decode cX7_scene 74 = .ok (.getfield 84, 3) := by decide +kernel
theorem dX7_scene_77 : decode cX7_scene 77 = .ok (.iload_n 1, 1) := by decide +kernel
theorem dX7_scene_78 : decode cX7_scene 78 = .ok (.iastore, 1) := by decide +kernel
theorem dX7_scene_79 : decode cX7_scene 79 = .ok (.aload_n 0, 1) := by decide +kernel
theorem dX7_scene_80 : decode cX7_scene 80 = .ok (.getfield 13, 3) := by decide +kernel
theorem dX7_scene_83 : decode cX7_scene 83 = .ok (.aload_n 0, 1) := by decide +kernel
theorem dX7_scene_84 : decode cX7_scene 84 = .ok (.getfield 84, 3) := by decide +kernel
theorem dX7_scene_87 : decode cX7_scene 87 = .ok (.iload_n 2, 1) := by decide +kernel
theorem dX7_scene_88 : decode cX7_scene 88 = .ok (.iastore, 1) := by decide +kernel
theorem dX7_scene_89 : decode cX7_scene 89 = .ok (.aload_n 0, 1) := by decide +kernel
theorem dX7_scene_90 : decode cX7_scene 90 = .ok (.getfield 16, 3) := by decide +kernel
theorem dX7_scene_93 : decode cX7_scene 93 = .ok (.aload_n 0, 1) := by decide +kernel
theorem dX7_scene_94 : decode cX7_scene 94 = .ok (.getfield 84, 3) := by decide +kernel
theorem dX7_scene_97 : decode cX7_scene 97 = .ok (.iload_n 3, 1) := by decide +kernel
theorem dX7_scene_98 : decode cX7_scene 98 = .ok (.iastore, 1) := by decide +kernel
theorem dX7_scene_99 : decode cX7_scene 99 = .ok (.aload_n 0, 1) := by decide +kernel
theorem dX7_scene_100 : decode cX7_scene 100 = .ok (.getfield 19, 3) := by decide +kernel
theorem dX7_scene_103 : decode cX7_scene 103 = .ok (.aload_n 0, 1) := by decide +kernel
theorem dX7_scene_104 : decode cX7_scene 104 = .ok (.getfield 84, 3) := by decide +kernel
theorem dX7_scene_107 : decode cX7_scene 107 = .ok (.iload 4, 2) := by decide +kernel
theorem dX7_scene_109 : decode cX7_scene 109 = .ok (.iconst 1, 1) := by decide +kernel
theorem dX7_scene_110 : decode cX7_scene 110 = .ok (.if_icmp .ne 7, 3) := by decide +kernel
theorem dX7_scene_113 : decode cX7_scene 113 = .ok (.iconst 1, 1) := by decide +kernel
theorem dX7_scene_114 : decode cX7_scene 114 = .ok (.goto 4, 3) := by decide +kernel
theorem dX7_scene_117 : decode cX7_scene 117 = .ok (.iconst 0, 1) := by decide +kernel
theorem dX7_scene_118 : decode cX7_scene 118 = .ok (.bastore, 1) := by decide +kernel
theorem dX7_scene_119 : decode cX7_scene 119 = .ok (.aload_n 0, 1) := by decide +kernel
theorem dX7_scene_120 : decode cX7_scene 120 = .ok (.getfield 23, 3) := by decide +kernel
theorem dX7_scene_123 : decode cX7_scene 123 = .ok (.aload_n 0, 1) := by decide +kernel
theorem dX7_scene_124 : decode cX7_scene 124 = .ok (.getfield 84, 3) := by decide +kernel
theorem dX7_scene_127 : decode cX7_scene 127 = .ok (.iload 5, 2) := by decide +kernel
theorem dX7_scene_129 : decode cX7_scene 129 = .ok (.iastore, 1) := by decide +kernel
theorem dX7_scene_130 : decode cX7_scene 130 = .ok (.aload_n 0, 1) := by decide +kernel
theorem dX7_scene_131 : decode cX7_scene 131 = .ok (.getfield 29, 3) := by decide +kernel
theorem dX7_scene_134 : decode cX7_scene 134 = .ok (.aload_n 0, 1) := by decide +kernel
theorem dX7_scene_135 : decode cX7_scene 135 = .ok (.getfield 84, 3) := by decide +kernel
theorem dX7_scene_138 : decode cX7_scene 138 = .ok (.iconst (-1), 1) := by decide +kernel
theorem dX7_scene_139 : decode cX7_scene 139 = .ok (.iastore, 1) := by decide +kernel
theorem dX7_scene_140 : decode cX7_scene 140 = .ok (.aload_n 0, 1) := by decide +kernel
theorem dX7_scene_141 : decode cX7_scene 141 = .ok (.dup, 1) := by decide +kernel
theorem dX7_scene_142 : decode cX7_scene 142 = .ok (.getfield 84, 3) := by decide +kernel
theorem dX7_scene_145 : decode cX7_scene 145 = .ok (.iconst 1, 1) := by decide +kernel
theorem dX7_scene_146 : decode cX7_scene 146 = .ok (.iadd, 1) := by decide +kernel
theorem dX7_scene_147 : decode cX7_scene 147 = .ok (.putfield 84, 3) := by decide +kernel
theorem dX7_scene_150 : decode cX7_scene 150 = .ok (.aload_n 0, 1) := by decide +kernel
theorem dX7_scene_151 : decode cX7_scene 151 = .ok (.getfield 84, 3) := by decide +kernel
theorem dX7_scene_154 : decode cX7_scene 154 = .ok (.iconst 1, 1) := by decide +kernel
theorem dX7_scene_155 : decode cX7_scene 155 = .ok (.isub, 1) := by decide +kernel
theorem dX7_scene_156 : decode cX7_scene 156 = .ok (.ireturn, 1) := by decide +kernel
theorem dX7_player_0 : decode cX7_player 0 = .ok (.iload_n 1, 1) := by decide +kernel
theorem dX7_player_1 : decode cX7_player 1 = .ok (.iconst 0, 1) := by decide +kernel
theorem dX7_player_2 : decode cX7_player 2 = .ok (.bipush 7, 2) := by decide +kernel
theorem dX7_player_4 : decode cX7_player 4 = .ok (.invokestatic 87, 3) := by decide +kernel
theorem dX7_player_7 : decode cX7_player 7 = .ok (.ifCond .ne 5, 3) := by decide +kernel
theorem dX7_player_10 : decode cX7_player 10 = .ok (.iconst (-1), 1) := by decide +kernel
theorem dX7_player_11 : decode cX7_player 11 = .ok (.ireturn, 1) := by decide +kernel
theorem dX7_player_12 : decode cX7_player 12 = .ok (.iload_n 2, 1) := by decide +kernel
theorem dX7_player_13 : decode cX7_player 13 = .ok (.iconst 0, 1) := by decide +kernel
theorem dX7_player_14 : decode cX7_player 14 = .ok (.sipush 1000, 3) := by decide +kernel
theorem dX7_player_17 : decode cX7_player 17 = .ok (.invokestatic 87, 3) := by decide +kernel
theorem dX7_player_20 : decode cX7_player 20 = .ok (.ifCond .eq 13, 3) := by decide +kernel
theorem dX7_player_23 : decode cX7_player 23 = .ok (.iload_n 3, 1) := by decide +kernel
theorem dX7_player_24 : decode cX7_player 24 = .ok (.iconst 0, 1) := by decide +kernel
theorem dX7_player_25 : decode cX7_player 25 = .ok (.bipush 10, 2) := by decide +kernel
theorem dX7_player_27 : decode cX7_player 27 = .ok (.invokestatic 87, 3) := by decide +kernel
theorem dX7_player_30 : decode cX7_player 30 = .ok (.ifCond .ne 6, 3) := by decide +kernel
theorem dX7_player_33 : decode cX7_player 33 = .ok (.bipush (-2), 2) := by decide +kernel
theorem dX7_player_35 : decode cX7_player 35 = .ok (.ireturn, 1) := by decide +kernel
theorem dX7_player_36 : decode cX7_player 36 = .ok (.aload_n 0, 1) := by decide +kernel
theorem dX7_player_37 : decode cX7_player 37 = .ok (.getfield 32, 3) := by decide +kernel
theorem dX7_player_40 : decode cX7_player 40 = .ok (.iload_n 1, 1) := by decide +kernel
theorem dX7_player_41 : decode cX7_player 41 = .ok (.iload_n 2, 1) := by decide +kernel
theorem dX7_player_42 : decode cX7_player 42 = .ok (.iastore, 1) := by decide +kernel
theorem dX7_player_43 : decode cX7_player 43 = .ok (.aload_n 0, 1) := by decide +kernel
theorem dX7_player_44 : decode cX7_player 44 = .ok (.getfield 35, 3) := by decide +kernel
theorem dX7_player_47 : decode cX7_player 47 = .ok (.iload_n 1, 1) := by decide +kernel
theorem dX7_player_48 : decode cX7_player 48 = .ok (.iload_n 3, 1) := by decide +kernel
theorem dX7_player_49 : decode cX7_player 49 = .ok (.iastore, 1) := by decide +kernel
theorem dX7_player_50 : decode cX7_player 50 = .ok (.iconst 0, 1) := by decide +kernel
theorem dX7_player_51 : decode cX7_player 51 = .ok (.ireturn, 1) := by decide +kernel
theorem dX7_rent_0 : decode cX7_rent 0 = .ok (.iload_n 1, 1) := by decide +kernel
theorem dX7_rent_1 : decode cX7_rent 1 = .ok (.iconst 0, 1) := by decide +kernel
theorem dX7_rent_2 : decode cX7_rent 2 = .ok (.bipush 7, 2) := by decide +kernel
theorem dX7_rent_4 : decode cX7_rent 4 = .ok (.invokestatic 87, 3) := by decide +kernel
theorem dX7_rent_7 : decode cX7_rent 7 = .ok (.ifCond .ne 5, 3) := by decide +kernel
theorem dX7_rent_10 : decode cX7_rent 10 = .ok (.iconst (-1), 1) := by decide +kernel
theorem dX7_rent_11 : decode cX7_rent 11 = .ok (.ireturn, 1) := by decide +kernel
theorem dX7_rent_12 : decode cX7_rent 12 = .ok (.iload_n 2, 1) := by decide +kernel
theorem dX7_rent_13 : decode cX7_rent 13 = .ok (.iconst 0, 1) := by decide +kernel
theorem dX7_rent_14 : decode cX7_rent 14 = .ok (.sipush 1000, 3) := by decide +kernel
theorem dX7_rent_17 : decode cX7_rent 17 = .ok (.invokestatic 87, 3) := by decide +kernel
theorem dX7_rent_20 : decode cX7_rent 20 = .ok (.ifCond .ne 6, 3) := by decide +kernel
theorem dX7_rent_23 : decode cX7_rent 23 = .ok (.bipush (-2), 2) := by decide +kernel
theorem dX7_rent_25 : decode cX7_rent 25 = .ok (.ireturn, 1) := by decide +kernel
theorem dX7_rent_26 : decode cX7_rent 26 = .ok (.aload_n 0, 1) := by decide +kernel
theorem dX7_rent_27 : decode cX7_rent 27 = .ok (.getfield 38, 3) := by decide +kernel
theorem dX7_rent_30 : decode cX7_rent 30 = .ok (.iload_n 1, 1) := by decide +kernel
theorem dX7_rent_31 : decode cX7_rent 31 = .ok (.iaload, 1) := by decide +kernel
theorem dX7_rent_32 : decode cX7_rent 32 = .ok (.istore_n 3, 1) := by decide +kernel
theorem dX7_rent_33 : decode cX7_rent 33 = .ok (.aload_n 0, 1) := by decide +kernel
theorem dX7_rent_34 : decode cX7_rent 34 = .ok (.getfield 38, 3) := by decide +kernel
theorem dX7_rent_37 : decode cX7_rent 37 = .ok (.iload_n 1, 1) := by decide +kernel
theorem dX7_rent_38 : decode cX7_rent 38 = .ok (.iload_n 2, 1) := by decide +kernel
theorem dX7_rent_39 : decode cX7_rent 39 = .ok (.iastore, 1) := by decide +kernel
theorem dX7_rent_40 : decode cX7_rent 40 = .ok (.iload_n 3, 1) := by decide +kernel
theorem dX7_rent_41 : decode cX7_rent 41 = .ok (.ireturn, 1) := by decide +kernel
theorem dX7_spot_0 : decode cX7_spot 0 = .ok (.iload_n 1, 1) := by decide +kernel
theorem dX7_spot_1 : decode cX7_spot 1 = .ok (.iconst 0, 1) := by decide +kernel
theorem dX7_spot_2 : decode cX7_spot 2 = .ok (.bipush 7, 2) := by decide +kernel
theorem dX7_spot_4 : decode cX7_spot 4 = .ok (.invokestatic 87, 3) := by decide +kernel
theorem dX7_spot_7 : decode cX7_spot 7 = .ok (.ifCond .ne 5, 3) := by decide +kernel
theorem dX7_spot_10 : decode cX7_spot 10 = .ok (.iconst (-1), 1) := by decide +kernel
theorem dX7_spot_11 : decode cX7_spot 11 = .ok (.ireturn, 1) := by decide +kernel
theorem dX7_spot_12 : decode cX7_spot 12 = .ok (.iload_n 2, 1) := by decide +kernel
theorem dX7_spot_13 : decode cX7_spot 13 = .ok (.iconst 0, 1) := by decide +kernel
theorem dX7_spot_14 : decode cX7_spot 14 = .ok (.bipush 120, 2) := by decide +kernel
theorem dX7_spot_16 : decode cX7_spot 16 = .ok (.invokestatic 87, 3) := by decide +kernel
theorem dX7_spot_19 : decode cX7_spot 19 = .ok (.ifCond .ne 6, 3) := by decide +kernel
theorem dX7_spot_22 : decode cX7_spot 22 = .ok (.bipush (-2), 2) := by decide +kernel
theorem dX7_spot_24 : decode cX7_spot 24 = .ok (.ireturn, 1) := by decide +kernel
theorem dX7_spot_25 : decode cX7_spot 25 = .ok (.aload_n 0, 1) := by decide +kernel
theorem dX7_spot_26 : decode cX7_spot 26 = .ok (.getfield 41, 3) := by decide +kernel
theorem dX7_spot_29 : decode cX7_spot 29 = .ok (.iload_n 1, 1) := by decide +kernel
theorem dX7_spot_30 : decode cX7_spot 30 = .ok (.iaload, 1) := by decide +kernel
theorem dX7_spot_31 : decode cX7_spot 31 = .ok (.istore_n 3, 1) := by decide +kernel
theorem dX7_spot_32 : decode cX7_spot 32 = .ok (.aload_n 0, 1) := by decide +kernel
theorem dX7_spot_33 : decode cX7_spot 33 = .ok (.getfield 41, 3) := by decide +kernel
theorem dX7_spot_36 : decode cX7_spot 36 = .ok (.iload_n 1, 1) := by decide +kernel
theorem dX7_spot_37 : decode cX7_spot 37 = .ok (.iload_n 2, 1) := by decide +kernel
theorem dX7_spot_38 : decode cX7_spot 38 = .ok (.iastore, 1) := by decide +kernel
theorem dX7_spot_39 : decode cX7_spot 39 = .ok (.aload_n 0, 1) := by decide +kernel
theorem dX7_spot_40 : decode cX7_spot 40 = .ok (.invokevirtual 94, 3) := by decide +kernel
theorem dX7_spot_43 : decode cX7_spot 43 = .ok (.ifCond .eq 5, 3) := by decide +kernel
theorem dX7_spot_46 : decode cX7_spot 46 = .ok (.iload_n 3, 1) := by decide +kernel
theorem dX7_spot_47 : decode cX7_spot 47 = .ok (.ireturn, 1) := by decide +kernel
theorem dX7_spot_48 : decode cX7_spot 48 = .ok (.aload_n 0, 1) := by decide +kernel
theorem dX7_spot_49 : decode cX7_spot 49 = .ok (.getfield 41, 3) := by decide +kernel
theorem dX7_spot_52 : decode cX7_spot 52 = .ok (.iload_n 1, 1) := by decide +kernel
theorem dX7_spot_53 : decode cX7_spot 53 = .ok (.iload_n 3, 1) := by decide +kernel
theorem dX7_spot_54 : decode cX7_spot 54 = .ok (.iastore, 1) := by decide +kernel
theorem dX7_spot_55 : decode cX7_spot 55 = .ok (.bipush (-3), 2) := by decide +kernel
theorem dX7_spot_57 : decode cX7_spot 57 = .ok (.ireturn, 1) := by decide +kernel
theorem dX7_mustBe_0 : decode cX7_mustBe 0 = .ok (.aload_n 0, 1) := by decide +kernel
theorem dX7_mustBe_1 : decode cX7_mustBe 1 = .ok (.getfield 26, 3) := by decide +kernel
theorem dX7_mustBe_4 : decode cX7_mustBe 4 = .ok (.iload_n 2, 1) := by decide +kernel
theorem dX7_mustBe_5 : decode cX7_mustBe 5 = .ok (.iaload, 1) := by decide +kernel
theorem dX7_mustBe_6 : decode cX7_mustBe 6 = .ok (.istore_n 3, 1) := by decide +kernel
theorem dX7_mustBe_7 : decode cX7_mustBe 7 = .ok (.iconst 0, 1) := by decide +kernel
theorem dX7_mustBe_8 : decode cX7_mustBe 8 = .ok (.istore 4, 2) := by decide +kernel
theorem dX7_mustBe_10 : decode cX7_mustBe 10 = .ok (.iload 4, 2) := by decide +kernel
theorem dX7_mustBe_12 : decode cX7_mustBe 12 = .ok (.aload_n 0, 1) := by decide +kernel
theorem dX7_mustBe_13 : decode cX7_mustBe 13 = .ok (.getfield 84, 3) := by decide +kernel
theorem dX7_mustBe_16 : decode cX7_mustBe 16 = .ok (.if_icmp .ge 47, 3) := by decide +kernel
theorem dX7_mustBe_19 : decode cX7_mustBe 19 = .ok (.iconst 0, 1) := by decide +kernel
theorem dX7_mustBe_20 : decode cX7_mustBe 20 = .ok (.istore 5, 2) := by decide +kernel
theorem dX7_mustBe_22 : decode cX7_mustBe 22 = .ok (.iload 5, 2) := by decide +kernel
theorem dX7_mustBe_24 : decode cX7_mustBe 24 = .ok (.aload_n 0, 1) := by decide +kernel
theorem dX7_mustBe_25 : decode cX7_mustBe 25 = .ok (.getfield 84, 3) := by decide +kernel
theorem dX7_mustBe_28 : decode cX7_mustBe 28 = .ok (.if_icmp .ge 29, 3) := by decide +kernel
theorem dX7_mustBe_31 : decode cX7_mustBe 31 = .ok (.iload_n 3, 1) := by decide +kernel
theorem dX7_mustBe_32 : decode cX7_mustBe 32 = .ok (.iload 5, 2) := by decide +kernel
theorem dX7_mustBe_34 : decode cX7_mustBe 34 = .ok (.ishr, 1) := by decide +kernel
theorem dX7_mustBe_35 : decode cX7_mustBe 35 = .ok (.iconst 1, 1) := by decide +kernel
theorem dX7_mustBe_36 : decode cX7_mustBe 36 = .ok (.iand, 1) := by decide +kernel
theorem dX7_mustBe_37 : decode cX7_mustBe 37 = .ok (.iconst 1, 1) := by decide +kernel
theorem dX7_mustBe_38 : decode cX7_mustBe 38 = .ok (.if_icmp .ne 13, 3) := by decide +kernel
theorem dX7_mustBe_41 : decode cX7_mustBe 41 = .ok (.iload_n 3, 1) := by decide +kernel
theorem dX7_mustBe_42 : decode cX7_mustBe 42 = .ok (.aload_n 0, 1) := by decide +kernel
theorem dX7_mustBe_43 : decode cX7_mustBe 43 = .ok (.getfield 26, 3) := by decide +kernel
theorem dX7_mustBe_46 : decode cX7_mustBe 46 = .ok (.iload 5, 2) := by decide +kernel
theorem dX7_mustBe_48 : decode cX7_mustBe 48 = .ok (.iaload, 1) := by decide +kernel
theorem dX7_mustBe_49 : decode cX7_mustBe 49 = .ok (.ior, 1) := by decide +kernel
theorem dX7_mustBe_50 : decode cX7_mustBe 50 = .ok (.istore_n 3, 1) := by decide +kernel
theorem dX7_mustBe_51 : decode cX7_mustBe 51 = .ok (.iinc 5 1, 3) := by decide +kernel
theorem dX7_mustBe_54 : decode cX7_mustBe 54 = .ok (.goto (-32), 3) := by decide +kernel
theorem dX7_mustBe_57 : decode cX7_mustBe 57 = .ok (.iinc 4 1, 3) := by decide +kernel
theorem dX7_mustBe_60 : decode cX7_mustBe 60 = .ok (.goto (-50), 3) := by decide +kernel
theorem dX7_mustBe_63 : decode cX7_mustBe 63 = .ok (.iload_n 3, 1) := by decide +kernel
theorem dX7_mustBe_64 : decode cX7_mustBe 64 = .ok (.iload_n 1, 1) := by decide +kernel
theorem dX7_mustBe_65 : decode cX7_mustBe 65 = .ok (.ishr, 1) := by decide +kernel
theorem dX7_mustBe_66 : decode cX7_mustBe 66 = .ok (.iconst 1, 1) := by decide +kernel
theorem dX7_mustBe_67 : decode cX7_mustBe 67 = .ok (.iand, 1) := by decide +kernel
theorem dX7_mustBe_68 : decode cX7_mustBe 68 = .ok (.iconst 1, 1) := by decide +kernel
theorem dX7_mustBe_69 : decode cX7_mustBe 69 = .ok (.if_icmp .ne 7, 3) := by decide +kernel
theorem dX7_mustBe_72 : decode cX7_mustBe 72 = .ok (.iconst 1, 1) := by decide +kernel
theorem dX7_mustBe_73 : decode cX7_mustBe 73 = .ok (.goto 4, 3) := by decide +kernel
theorem dX7_mustBe_76 : decode cX7_mustBe 76 = .ok (.iconst 0, 1) := by decide +kernel
theorem dX7_mustBe_77 : decode cX7_mustBe 77 = .ok (.ireturn, 1) := by decide +kernel
theorem dX7_ahead_0 : decode cX7_ahead 0 = .ok (.aload_n 0, 1) := by decide +kernel
theorem dX7_ahead_1 : decode cX7_ahead 1 = .ok (.iload_n 1, 1) := by decide +kernel
theorem dX7_ahead_2 : decode cX7_ahead 2 = .ok (.invokevirtual 98, 3) := by decide +kernel
theorem dX7_ahead_5 : decode cX7_ahead 5 = .ok (.ifCond .eq 11, 3) := by decide +kernel
theorem dX7_ahead_8 : decode cX7_ahead 8 = .ok (.aload_n 0, 1) := by decide +kernel
theorem dX7_ahead_9 : decode cX7_ahead 9 = .ok (.iload_n 2, 1) := by decide +kernel
theorem dX7_ahead_10 : decode cX7_ahead 10 = .ok (.invokevirtual 98, 3) := by decide +kernel
theorem dX7_ahead_13 : decode cX7_ahead 13 = .ok (.ifCond .ne 5, 3) := by decide +kernel
theorem dX7_ahead_16 : decode cX7_ahead 16 = .ok (.iconst (-1), 1) := by decide +kernel
theorem dX7_ahead_17 : decode cX7_ahead 17 = .ok (.ireturn, 1) := by decide +kernel
theorem dX7_ahead_18 : decode cX7_ahead 18 = .ok (.iload_n 1, 1) := by decide +kernel
theorem dX7_ahead_19 : decode cX7_ahead 19 = .ok (.iload_n 2, 1) := by decide +kernel
theorem dX7_ahead_20 : decode cX7_ahead 20 = .ok (.if_icmp .eq 12, 3) := by decide +kernel
theorem dX7_ahead_23 : decode cX7_ahead 23 = .ok (.aload_n 0, 1) := by decide +kernel
theorem dX7_ahead_24 : decode cX7_ahead 24 = .ok (.iload_n 2, 1) := by decide +kernel
theorem dX7_ahead_25 : decode cX7_ahead 25 = .ok (.iload_n 1, 1) := by decide +kernel
theorem dX7_ahead_26 : decode cX7_ahead 26 = .ok (.invokevirtual 102, 3) := by decide +kernel
theorem dX7_ahead_29 : decode cX7_ahead 29 = .ok (.ifCond .eq 6, 3) := by decide +kernel
theorem dX7_ahead_32 : decode cX7_ahead 32 = .ok (.bipush (-2), 2) := by decide +kernel
theorem dX7_ahead_34 : decode cX7_ahead 34 = .ok (.ireturn, 1) := by decide +kernel
theorem dX7_ahead_35 : decode cX7_ahead 35 = .ok (.aload_n 0, 1) := by decide +kernel
theorem dX7_ahead_36 : decode cX7_ahead 36 = .ok (.getfield 26, 3) := by decide +kernel
theorem dX7_ahead_39 : decode cX7_ahead 39 = .ok (.iload_n 2, 1) := by decide +kernel
theorem dX7_ahead_40 : decode cX7_ahead 40 = .ok (.iaload, 1) := by decide +kernel
theorem dX7_ahead_41 : decode cX7_ahead 41 = .ok (.iload_n 1, 1) := by decide +kernel
theorem dX7_ahead_42 : decode cX7_ahead 42 = .ok (.ishr, 1) := by decide +kernel
theorem dX7_ahead_43 : decode cX7_ahead 43 = .ok (.iconst 1, 1) := by decide +kernel
theorem dX7_ahead_44 : decode cX7_ahead 44 = .ok (.iand, 1) := by decide +kernel
theorem dX7_ahead_45 : decode cX7_ahead 45 = .ok (.iconst 1, 1) := by decide +kernel
theorem dX7_ahead_46 : decode cX7_ahead 46 = .ok (.if_icmp .ne 5, 3) := by decide +kernel
theorem dX7_ahead_49 : decode cX7_ahead 49 = .ok (.iconst 0, 1) := by decide +kernel
theorem dX7_ahead_50 : decode cX7_ahead 50 = .ok (.ireturn, 1) := by decide +kernel
theorem dX7_ahead_51 : decode cX7_ahead 51 = .ok (.aload_n 0, 1) := by decide +kernel
theorem dX7_ahead_52 : decode cX7_ahead 52 = .ok (.getfield 26, 3) := by decide +kernel
theorem dX7_ahead_55 : decode cX7_ahead 55 = .ok (.iload_n 2, 1) := by decide +kernel
theorem dX7_ahead_56 : decode cX7_ahead 56 = .ok (.dup2, 1) := by decide +kernel
theorem dX7_ahead_57 : decode cX7_ahead 57 = .ok (.iaload, 1) := by decide +kernel
theorem dX7_ahead_58 : decode cX7_ahead 58 = .ok (.iconst 1, 1) := by decide +kernel
theorem dX7_ahead_59 : decode cX7_ahead 59 = .ok (.iload_n 1, 1) := by decide +kernel
theorem dX7_ahead_60 : decode cX7_ahead 60 = .ok (.ishl, 1) := by decide +kernel
theorem dX7_ahead_61 : decode cX7_ahead 61 = .ok (.ior, 1) := by decide +kernel
theorem dX7_ahead_62 : decode cX7_ahead 62 = .ok (.iastore, 1) := by decide +kernel
theorem dX7_ahead_63 : decode cX7_ahead 63 = .ok (.aload_n 0, 1) := by decide +kernel
theorem dX7_ahead_64 : decode cX7_ahead 64 = .ok (.invokevirtual 94, 3) := by decide +kernel
theorem dX7_ahead_67 : decode cX7_ahead 67 = .ok (.ifCond .eq 5, 3) := by decide +kernel
theorem dX7_ahead_70 : decode cX7_ahead 70 = .ok (.iconst 1, 1) := by decide +kernel
theorem dX7_ahead_71 : decode cX7_ahead 71 = .ok (.ireturn, 1) := by decide +kernel
theorem dX7_ahead_72 : decode cX7_ahead 72 = .ok (.aload_n 0, 1) := by decide +kernel
theorem dX7_ahead_73 : decode cX7_ahead 73 = .ok (.getfield 26, 3) := by decide +kernel
theorem dX7_ahead_76 : decode cX7_ahead 76 = .ok (.iload_n 2, 1) := by decide +kernel
theorem dX7_ahead_77 : decode cX7_ahead 77 = .ok (.dup2, 1) := by decide +kernel
theorem dX7_ahead_78 : decode cX7_ahead 78 = .ok (.iaload, 1) := by decide +kernel
theorem dX7_ahead_79 : decode cX7_ahead 79 = .ok (.iconst 1, 1) := by decide +kernel
theorem dX7_ahead_80 : decode cX7_ahead 80 = .ok (.iload_n 1, 1) := by decide +kernel
theorem dX7_ahead_81 : decode cX7_ahead 81 = .ok (.ishl, 1) := by decide +kernel
theorem dX7_ahead_82 : decode cX7_ahead 82 = .ok (.iconst (-1), 1) := by decide +kernel
theorem dX7_ahead_83 : decode cX7_ahead 83 = .ok (.ixor, 1) := by decide +kernel
theorem dX7_ahead_84 : decode cX7_ahead 84 = .ok (.iand, 1) := by decide +kernel
theorem dX7_ahead_85 : decode cX7_ahead 85 = .ok (.iastore, 1) := by decide +kernel
theorem dX7_ahead_86 : decode cX7_ahead 86 = .ok (.bipush (-3), 2) := by decide +kernel
theorem dX7_ahead_88 : decode cX7_ahead 88 = .ok (.ireturn, 1) := by decide +kernel
theorem dX7_day_0 : decode cX7_day 0 = .ok (.iload_n 1, 1) := by decide +kernel
theorem dX7_day_1 : decode cX7_day 1 = .ok (.bipush 60, 2) := by decide +kernel
theorem dX7_day_3 : decode cX7_day 3 = .ok (.sipush 900, 3) := by decide +kernel
theorem dX7_day_6 : decode cX7_day 6 = .ok (.invokestatic 87, 3) := by decide +kernel
theorem dX7_day_9 : decode cX7_day 9 = .ok (.ifCond .eq 14, 3) := by decide +kernel
theorem dX7_day_12 : decode cX7_day 12 = .ok (.iload_n 2, 1) := by decide +kernel
theorem dX7_day_13 : decode cX7_day 13 = .ok (.iconst 0, 1) := by decide +kernel
theorem dX7_day_14 : decode cX7_day 14 = .ok (.sipush 900, 3) := by decide +kernel
theorem dX7_day_17 : decode cX7_day 17 = .ok (.invokestatic 87, 3) := by decide +kernel
theorem dX7_day_20 : decode cX7_day 20 = .ok (.ifCond .ne 6, 3) := by decide +kernel
theorem dX7_day_23 : decode cX7_day 23 = .ok (.bipush (-2), 2) := by decide +kernel
theorem dX7_day_25 : decode cX7_day 25 = .ok (.ireturn, 1) := by decide +kernel
theorem dX7_day_26 : decode cX7_day 26 = .ok (.aload_n 0, 1) := by decide +kernel
theorem dX7_day_27 : decode cX7_day 27 = .ok (.getfield 91, 3) := by decide +kernel
theorem dX7_day_30 : decode cX7_day 30 = .ok (.bipush 8, 2) := by decide +kernel
theorem dX7_day_32 : decode cX7_day 32 = .ok (.if_icmp .ne 6, 3) := by decide +kernel
theorem dX7_day_35 : decode cX7_day 35 = .ok (.bipush (-4), 2) := by decide +kernel
theorem dX7_day_37 : decode cX7_day 37 = .ok (.ireturn, 1) := by decide +kernel
theorem dX7_day_38 : decode cX7_day 38 = .ok (.aload_n 0, 1) := by decide +kernel
theorem dX7_day_39 : decode cX7_day 39 = .ok (.getfield 44, 3) := by decide +kernel
theorem dX7_day_42 : decode cX7_day 42 = .ok (.aload_n 0, 1) := by decide +kernel
theorem dX7_day_43 : decode cX7_day 43 = .ok (.getfield 91, 3) := by decide +kernel
theorem dX7_day_46 : decode cX7_day 46 = .ok (.iload_n 1, 1) := by decide +kernel
theorem dX7_day_47 : decode cX7_day 47 = .ok (.iastore, 1) := by decide +kernel
theorem dX7_day_48 : decode cX7_day 48 = .ok (.aload_n 0, 1) := by decide +kernel
theorem dX7_day_49 : decode cX7_day 49 = .ok (.getfield 47, 3) := by decide +kernel
theorem dX7_day_52 : decode cX7_day 52 = .ok (.aload_n 0, 1) := by decide +kernel
theorem dX7_day_53 : decode cX7_day 53 = .ok (.getfield 91, 3) := by decide +kernel
theorem dX7_day_56 : decode cX7_day 56 = .ok (.iload_n 2, 1) := by decide +kernel
theorem dX7_day_57 : decode cX7_day 57 = .ok (.iastore, 1) := by decide +kernel
theorem dX7_day_58 : decode cX7_day 58 = .ok (.aload_n 0, 1) := by decide +kernel
theorem dX7_day_59 : decode cX7_day 59 = .ok (.getfield 50, 3) := by decide +kernel
theorem dX7_day_62 : decode cX7_day 62 = .ok (.aload_n 0, 1) := by decide +kernel
theorem dX7_day_63 : decode cX7_day 63 = .ok (.getfield 91, 3) := by decide +kernel
theorem dX7_day_66 : decode cX7_day 66 = .ok (.iconst 0, 1) := by decide +kernel
theorem dX7_day_67 : decode cX7_day 67 = .ok (.iastore, 1) := by decide +kernel
theorem dX7_day_68 : decode cX7_day 68 = .ok (.aload_n 0, 1) := by decide +kernel
theorem dX7_day_69 : decode cX7_day 69 = .ok (.dup, 1) := by decide +kernel
theorem dX7_day_70 : decode cX7_day 70 = .ok (.getfield 91, 3) := by decide +kernel
theorem dX7_day_73 : decode cX7_day 73 = .ok (.iconst 1, 1) := by decide +kernel
theorem dX7_day_74 : decode cX7_day 74 = .ok (.iadd, 1) := by decide +kernel
theorem dX7_day_75 : decode cX7_day 75 = .ok (.putfield 91, 3) := by decide +kernel
theorem dX7_day_78 : decode cX7_day 78 = .ok (.aload_n 0, 1) := by decide +kernel
theorem dX7_day_79 : decode cX7_day 79 = .ok (.getfield 91, 3) := by decide +kernel
theorem dX7_day_82 : decode cX7_day 82 = .ok (.iconst 1, 1) := by decide +kernel
theorem dX7_day_83 : decode cX7_day 83 = .ok (.isub, 1) := by decide +kernel
theorem dX7_day_84 : decode cX7_day 84 = .ok (.ireturn, 1) := by decide +kernel
theorem dX7_change_0 : decode cX7_change 0 = .ok (.aload_n 0, 1) := by decide +kernel
theorem dX7_change_1 : decode cX7_change 1 = .ok (.iload_n 1, 1) := by decide +kernel
theorem dX7_change_2 : decode cX7_change 2 = .ok (.invokevirtual 106, 3) := by decide +kernel
theorem dX7_change_5 : decode cX7_change 5 = .ok (.ifCond .ne 5, 3) := by decide +kernel
theorem dX7_change_8 : decode cX7_change 8 = .ok (.iconst (-1), 1) := by decide +kernel
theorem dX7_change_9 : decode cX7_change 9 = .ok (.ireturn, 1) := by decide +kernel
theorem dX7_change_10 : decode cX7_change 10 = .ok (.iload_n 2, 1) := by decide +kernel
theorem dX7_change_11 : decode cX7_change 11 = .ok (.bipush 60, 2) := by decide +kernel
theorem dX7_change_13 : decode cX7_change 13 = .ok (.sipush 900, 3) := by decide +kernel
theorem dX7_change_16 : decode cX7_change 16 = .ok (.invokestatic 87, 3) := by decide +kernel
theorem dX7_change_19 : decode cX7_change 19 = .ok (.ifCond .eq 14, 3) := by decide +kernel
theorem dX7_change_22 : decode cX7_change 22 = .ok (.iload_n 3, 1) := by decide +kernel
theorem dX7_change_23 : decode cX7_change 23 = .ok (.iconst 0, 1) := by decide +kernel
theorem dX7_change_24 : decode cX7_change 24 = .ok (.sipush 900, 3) := by decide +kernel
theorem dX7_change_27 : decode cX7_change 27 = .ok (.invokestatic 87, 3) := by decide +kernel
theorem dX7_change_30 : decode cX7_change 30 = .ok (.ifCond .ne 6, 3) := by decide +kernel
theorem dX7_change_33 : decode cX7_change 33 = .ok (.bipush (-2), 2) := by decide +kernel
theorem dX7_change_35 : decode cX7_change 35 = .ok (.ireturn, 1) := by decide +kernel
theorem dX7_change_36 : decode cX7_change 36 = .ok (.aload_n 0, 1) := by decide +kernel
theorem dX7_change_37 : decode cX7_change 37 = .ok (.getfield 44, 3) := by decide +kernel
theorem dX7_change_40 : decode cX7_change 40 = .ok (.iload_n 1, 1) := by decide +kernel
theorem dX7_change_41 : decode cX7_change 41 = .ok (.iaload, 1) := by decide +kernel
theorem dX7_change_42 : decode cX7_change 42 = .ok (.istore 4, 2) := by decide +kernel
theorem dX7_change_44 : decode cX7_change 44 = .ok (.aload_n 0, 1) := by decide +kernel
theorem dX7_change_45 : decode cX7_change 45 = .ok (.getfield 47, 3) := by decide +kernel
theorem dX7_change_48 : decode cX7_change 48 = .ok (.iload_n 1, 1) := by decide +kernel
theorem dX7_change_49 : decode cX7_change 49 = .ok (.iaload, 1) := by decide +kernel
theorem dX7_change_50 : decode cX7_change 50 = .ok (.istore 5, 2) := by decide +kernel
theorem dX7_change_52 : decode cX7_change 52 = .ok (.aload_n 0, 1) := by decide +kernel
theorem dX7_change_53 : decode cX7_change 53 = .ok (.getfield 44, 3) := by decide +kernel
theorem dX7_change_56 : decode cX7_change 56 = .ok (.iload_n 1, 1) := by decide +kernel
theorem dX7_change_57 : decode cX7_change 57 = .ok (.iload_n 2, 1) := by decide +kernel
theorem dX7_change_58 : decode cX7_change 58 = .ok (.iastore, 1) := by decide +kernel
theorem dX7_change_59 : decode cX7_change 59 = .ok (.aload_n 0, 1) := by decide +kernel
theorem dX7_change_60 : decode cX7_change 60 = .ok (.getfield 47, 3) := by decide +kernel
theorem dX7_change_63 : decode cX7_change 63 = .ok (.iload_n 1, 1) := by decide +kernel
theorem dX7_change_64 : decode cX7_change 64 = .ok (.iload_n 3, 1) := by decide +kernel
theorem dX7_change_65 : decode cX7_change 65 = .ok (.iastore, 1) := by decide +kernel
theorem dX7_change_66 : decode cX7_change 66 = .ok (.aload_n 0, 1) := by decide +kernel
theorem dX7_change_67 : decode cX7_change 67 = .ok (.invokevirtual 94, 3) := by decide +kernel
theorem dX7_change_70 : decode cX7_change 70 = .ok (.ifCond .eq 5, 3) := by decide +kernel
theorem dX7_change_73 : decode cX7_change 73 = .ok (.iconst 0, 1) := by decide +kernel
theorem dX7_change_74 : decode cX7_change 74 = .ok (.ireturn, 1) := by decide +kernel
theorem dX7_change_75 : decode cX7_change 75 = .ok (.aload_n 0, 1) := by decide +kernel
theorem dX7_change_76 : decode cX7_change 76 = .ok (.getfield 44, 3) := by decide +kernel
theorem dX7_change_79 : decode cX7_change 79 = .ok (.iload_n 1, 1) := by decide +kernel
theorem dX7_change_80 : decode cX7_change 80 = .ok (.iload 4, 2) := by decide +kernel
theorem dX7_change_82 : decode cX7_change 82 = .ok (.iastore, 1) := by decide +kernel
theorem dX7_change_83 : decode cX7_change 83 = .ok (.aload_n 0, 1) := by decide +kernel
theorem dX7_change_84 : decode cX7_change 84 = .ok (.getfield 47, 3) := by decide +kernel
theorem dX7_change_87 : decode cX7_change 87 = .ok (.iload_n 1, 1) := by decide +kernel
theorem dX7_change_88 : decode cX7_change 88 = .ok (.iload 5, 2) := by decide +kernel
theorem dX7_change_90 : decode cX7_change 90 = .ok (.iastore, 1) := by decide +kernel
theorem dX7_change_91 : decode cX7_change 91 = .ok (.bipush (-3), 2) := by decide +kernel
theorem dX7_change_93 : decode cX7_change 93 = .ok (.ireturn, 1) := by decide +kernel
theorem dX7_minutesOf_0 : decode cX7_minutesOf 0 = .ok (.iconst 0, 1) := by decide +kernel
theorem dX7_minutesOf_1 : decode cX7_minutesOf 1 = .ok (.istore_n 2, 1) := by decide +kernel
theorem dX7_minutesOf_2 : decode cX7_minutesOf 2 = .ok (.iconst 0, 1) := by decide +kernel
theorem dX7_minutesOf_3 : decode cX7_minutesOf 3 = .ok (.istore_n 3, 1) := by decide +kernel
theorem dX7_minutesOf_4 : decode cX7_minutesOf 4 = .ok (.iload_n 3, 1) := by decide +kernel
theorem dX7_minutesOf_5 : decode cX7_minutesOf 5 = .ok (.aload_n 0, 1) := by decide +kernel
theorem dX7_minutesOf_6 : decode cX7_minutesOf 6 = .ok (.getfield 50, 3) := by decide +kernel
theorem dX7_minutesOf_9 : decode cX7_minutesOf 9 = .ok (.iload_n 1, 1) := by decide +kernel
theorem dX7_minutesOf_10 : decode cX7_minutesOf 10 = .ok (.iaload, 1) := by decide +kernel
theorem dX7_minutesOf_11 : decode cX7_minutesOf 11 = .ok (.if_icmp .ge 77, 3) := by decide +kernel
theorem dX7_minutesOf_14 : decode cX7_minutesOf 14 = .ok (.aload_n 0, 1) := by decide +kernel
theorem dX7_minutesOf_15 : decode cX7_minutesOf 15 = .ok (.getfield 53, 3) := by decide +kernel
theorem dX7_minutesOf_18 : decode cX7_minutesOf 18 = .ok (.iconst 5, 1) := by decide +kernel
theorem dX7_minutesOf_19 : decode cX7_minutesOf 19 = .ok (.iload_n 1, 1) := by decide +kernel
theorem dX7_minutesOf_20 : decode cX7_minutesOf 20 = .ok (.imul, 1) := by decide +kernel
theorem dX7_minutesOf_21 : decode cX7_minutesOf 21 = .ok (.iload_n 3, 1) := by decide +kernel
theorem dX7_minutesOf_22 : decode cX7_minutesOf 22 = .ok (.iadd, 1) := by decide +kernel
theorem dX7_minutesOf_23 : decode cX7_minutesOf 23 = .ok (.iaload, 1) := by decide +kernel
theorem dX7_minutesOf_24 : decode cX7_minutesOf 24 = .ok (.istore 4, 2) := by decide +kernel
theorem dX7_minutesOf_26 : decode cX7_minutesOf 26 = .ok (.iload_n 2, 1) := by decide +kernel
theorem dX7_minutesOf_27 : decode cX7_minutesOf 27 = .ok (.aload_n 0, 1) := by decide +kernel
theorem dX7_minutesOf_28 : decode cX7_minutesOf 28 = .ok (.getfield 7, 3) := by decide +kernel
theorem dX7_minutesOf_31 : decode cX7_minutesOf 31 = .ok (.iload 4, 2) := by decide +kernel
theorem dX7_minutesOf_33 : decode cX7_minutesOf 33 = .ok (.iaload, 1) := by decide +kernel
theorem dX7_minutesOf_34 : decode cX7_minutesOf 34 = .ok (.iload_n 3, 1) := by decide +kernel
theorem dX7_minutesOf_35 : decode cX7_minutesOf 35 = .ok (.ifCond .le 43, 3) := by decide +kernel
theorem dX7_minutesOf_38 : decode cX7_minutesOf 38 = .ok (.aload_n 0, 1) := by decide +kernel
theorem dX7_minutesOf_39 : decode cX7_minutesOf 39 = .ok (.getfield 41, 3) := by decide +kernel
theorem dX7_minutesOf_42 : decode cX7_minutesOf 42 = .ok (.aload_n 0, 1) := by decide +kernel
theorem dX7_minutesOf_43 : decode cX7_minutesOf 43 = .ok (.getfield 13, 3) := by decide +kernel
theorem dX7_minutesOf_46 : decode cX7_minutesOf 46 = .ok (.iload 4, 2) := by decide +kernel
theorem dX7_minutesOf_48 : decode cX7_minutesOf 48 = .ok (.iaload, 1) := by decide +kernel
theorem dX7_minutesOf_49 : decode cX7_minutesOf 49 = .ok (.iaload, 1) := by decide +kernel
theorem dX7_minutesOf_50 : decode cX7_minutesOf 50 = .ok (.aload_n 0, 1) := by decide +kernel
theorem dX7_minutesOf_51 : decode cX7_minutesOf 51 = .ok (.getfield 41, 3) := by decide +kernel
theorem dX7_minutesOf_54 : decode cX7_minutesOf 54 = .ok (.aload_n 0, 1) := by decide +kernel
theorem dX7_minutesOf_55 : decode cX7_minutesOf 55 = .ok (.getfield 13, 3) := by decide +kernel
theorem dX7_minutesOf_58 : decode cX7_minutesOf 58 = .ok (.aload_n 0, 1) := by decide +kernel
theorem dX7_minutesOf_59 : decode cX7_minutesOf 59 = .ok (.getfield 53, 3) := by decide +kernel
theorem dX7_minutesOf_62 : decode cX7_minutesOf 62 = .ok (.iconst 5, 1) := by decide +kernel
theorem dX7_minutesOf_63 : decode cX7_minutesOf 63 = .ok (.iload_n 1, 1) := by decide +kernel
theorem dX7_minutesOf_64 : decode cX7_minutesOf 64 = .ok (.imul, 1) := by decide +kernel
theorem dX7_minutesOf_65 : decode cX7_minutesOf 65 = .ok (.iload_n 3, 1) := by decide +kernel
theorem dX7_minutesOf_66 : decode cX7_minutesOf 66 = .ok (.iadd, 1) := by decide +kernel
theorem dX7_minutesOf_67 : decode cX7_minutesOf 67 = .ok (.iconst 1, 1) := by decide +kernel
theorem dX7_minutesOf_68 : decode cX7_minutesOf 68 = .ok (.isub, 1) := by decide +kernel
theorem dX7_minutesOf_69 : decode cX7_minutesOf 69 = .ok (.iaload, 1) := by decide +kernel
theorem dX7_minutesOf_70 : decode cX7_minutesOf 70 = .ok (.iaload, 1) := by decide +kernel
theorem dX7_minutesOf_71 : decode cX7_minutesOf 71 = .ok (.iaload, 1) := by decide +kernel
theorem dX7_minutesOf_72 : decode cX7_minutesOf 72 = .ok (.invokestatic 109, 3) := by decide +kernel
theorem dX7_minutesOf_75 : decode cX7_minutesOf 75 = .ok (.goto 4, 3) := by decide +kernel
theorem dX7_minutesOf_78 : decode cX7_minutesOf 78 = .ok (.iconst 0, 1) := by decide +kernel
theorem dX7_minutesOf_79 : decode cX7_minutesOf 79 = .ok (.iadd, 1) := by decide +kernel
theorem dX7_minutesOf_80 : decode cX7_minutesOf 80 = .ok (.iadd, 1) := by decide +kernel
theorem dX7_minutesOf_81 : decode cX7_minutesOf 81 = .ok (.istore_n 2, 1) := by decide +kernel
theorem dX7_minutesOf_82 : decode cX7_minutesOf 82 = .ok (.iinc 3 1, 3) := by decide +kernel
theorem dX7_minutesOf_85 : decode cX7_minutesOf 85 = .ok (.goto (-81), 3) := by decide +kernel
theorem dX7_minutesOf_88 : decode cX7_minutesOf 88 = .ok (.iload_n 2, 1) := by decide +kernel
theorem dX7_minutesOf_89 : decode cX7_minutesOf 89 = .ok (.ireturn, 1) := by decide +kernel
theorem dX7_lightOf_0 : decode cX7_lightOf 0 = .ok (.iconst 0, 1) := by decide +kernel
theorem dX7_lightOf_1 : decode cX7_lightOf 1 = .ok (.istore_n 2, 1) := by decide +kernel
theorem dX7_lightOf_2 : decode cX7_lightOf 2 = .ok (.iconst 0, 1) := by decide +kernel
theorem dX7_lightOf_3 : decode cX7_lightOf 3 = .ok (.istore_n 3, 1) := by decide +kernel
theorem dX7_lightOf_4 : decode cX7_lightOf 4 = .ok (.iload_n 3, 1) := by decide +kernel
theorem dX7_lightOf_5 : decode cX7_lightOf 5 = .ok (.aload_n 0, 1) := by decide +kernel
theorem dX7_lightOf_6 : decode cX7_lightOf 6 = .ok (.getfield 50, 3) := by decide +kernel
theorem dX7_lightOf_9 : decode cX7_lightOf 9 = .ok (.iload_n 1, 1) := by decide +kernel
theorem dX7_lightOf_10 : decode cX7_lightOf 10 = .ok (.iaload, 1) := by decide +kernel
theorem dX7_lightOf_11 : decode cX7_lightOf 11 = .ok (.if_icmp .ge 50, 3) := by decide +kernel
theorem dX7_lightOf_14 : decode cX7_lightOf 14 = .ok (.iload_n 2, 1) := by decide +kernel
theorem dX7_lightOf_15 : decode cX7_lightOf 15 = .ok (.aload_n 0, 1) := by decide +kernel
theorem dX7_lightOf_16 : decode cX7_lightOf 16 = .ok (.getfield 16, 3) := by decide +kernel
theorem dX7_lightOf_19 : decode cX7_lightOf 19 = .ok (.aload_n 0, 1) := by decide +kernel
theorem dX7_lightOf_20 : decode cX7_lightOf 20 = .ok (.getfield 53, 3) := by decide +kernel
theorem dX7_lightOf_23 : decode cX7_lightOf 23 = .ok (.iconst 5, 1) := by decide +kernel
theorem dX7_lightOf_24 : decode cX7_lightOf 24 = .ok (.iload_n 1, 1) := by decide +kernel
theorem dX7_lightOf_25 : decode cX7_lightOf 25 = .ok (.imul, 1) := by decide +kernel
theorem dX7_lightOf_26 : decode cX7_lightOf 26 = .ok (.iload_n 3, 1) := by decide +kernel
theorem dX7_lightOf_27 : decode cX7_lightOf 27 = .ok (.iadd, 1) := by decide +kernel
theorem dX7_lightOf_28 : decode cX7_lightOf 28 = .ok (.iaload, 1) := by decide +kernel
theorem dX7_lightOf_29 : decode cX7_lightOf 29 = .ok (.iaload, 1) := by decide +kernel
theorem dX7_lightOf_30 : decode cX7_lightOf 30 = .ok (.iconst 1, 1) := by decide +kernel
theorem dX7_lightOf_31 : decode cX7_lightOf 31 = .ok (.if_icmp .ne 21, 3) := by decide +kernel
theorem dX7_lightOf_34 : decode cX7_lightOf 34 = .ok (.aload_n 0, 1) := by decide +kernel
theorem dX7_lightOf_35 : decode cX7_lightOf 35 = .ok (.getfield 7, 3) := by decide +kernel
theorem dX7_lightOf_38 : decode cX7_lightOf 38 = .ok (.aload_n 0, 1) := by decide +kernel
theorem dX7_lightOf_39 : decode cX7_lightOf 39 = .ok (.getfield 53, 3) := by decide +kernel
theorem dX7_lightOf_42 : decode cX7_lightOf 42 = .ok (.iconst 5, 1) := by decide +kernel
theorem dX7_lightOf_43 : decode cX7_lightOf 43 = .ok (.iload_n 1, 1) := by decide +kernel
theorem dX7_lightOf_44 : decode cX7_lightOf 44 = .ok (.imul, 1) := by decide +kernel
theorem dX7_lightOf_45 : decode cX7_lightOf 45 = .ok (.iload_n 3, 1) := by decide +kernel
theorem dX7_lightOf_46 : decode cX7_lightOf 46 = .ok (.iadd, 1) := by decide +kernel
theorem dX7_lightOf_47 : decode cX7_lightOf 47 = .ok (.iaload, 1) := by decide +kernel
theorem dX7_lightOf_48 : decode cX7_lightOf 48 = .ok (.iaload, 1) := by decide +kernel
theorem dX7_lightOf_49 : decode cX7_lightOf 49 = .ok (.goto 4, 3) := by decide +kernel
theorem dX7_lightOf_52 : decode cX7_lightOf 52 = .ok (.iconst 0, 1) := by decide +kernel
theorem dX7_lightOf_53 : decode cX7_lightOf 53 = .ok (.iadd, 1) := by decide +kernel
theorem dX7_lightOf_54 : decode cX7_lightOf 54 = .ok (.istore_n 2, 1) := by decide +kernel
theorem dX7_lightOf_55 : decode cX7_lightOf 55 = .ok (.iinc 3 1, 3) := by decide +kernel
theorem dX7_lightOf_58 : decode cX7_lightOf 58 = .ok (.goto (-54), 3) := by decide +kernel
theorem dX7_lightOf_61 : decode cX7_lightOf 61 = .ok (.iload_n 2, 1) := by decide +kernel
theorem dX7_lightOf_62 : decode cX7_lightOf 62 = .ok (.ireturn, 1) := by decide +kernel
theorem dX7_has_0 : decode cX7_has 0 = .ok (.iconst 0, 1) := by decide +kernel
theorem dX7_has_1 : decode cX7_has 1 = .ok (.istore_n 3, 1) := by decide +kernel
theorem dX7_has_2 : decode cX7_has 2 = .ok (.iload_n 3, 1) := by decide +kernel
theorem dX7_has_3 : decode cX7_has 3 = .ok (.aload_n 0, 1) := by decide +kernel
theorem dX7_has_4 : decode cX7_has 4 = .ok (.getfield 50, 3) := by decide +kernel
theorem dX7_has_7 : decode cX7_has 7 = .ok (.iload_n 1, 1) := by decide +kernel
theorem dX7_has_8 : decode cX7_has 8 = .ok (.iaload, 1) := by decide +kernel
theorem dX7_has_9 : decode cX7_has 9 = .ok (.if_icmp .ge 30, 3) := by decide +kernel
theorem dX7_has_12 : decode cX7_has 12 = .ok (.aload_n 0, 1) := by decide +kernel
theorem dX7_has_13 : decode cX7_has 13 = .ok (.getfield 16, 3) := by decide +kernel
theorem dX7_has_16 : decode cX7_has 16 = .ok (.aload_n 0, 1) := by decide +kernel
theorem dX7_has_17 : decode cX7_has 17 = .ok (.getfield 53, 3) := by decide +kernel
theorem dX7_has_20 : decode cX7_has 20 = .ok (.iconst 5, 1) := by decide +kernel
theorem dX7_has_21 : decode cX7_has 21 = .ok (.iload_n 1, 1) := by decide +kernel
theorem dX7_has_22 : decode cX7_has 22 = .ok (.imul, 1) := by decide +kernel
theorem dX7_has_23 : decode cX7_has 23 = .ok (.iload_n 3, 1) := by decide +kernel
theorem dX7_has_24 : decode cX7_has 24 = .ok (.iadd, 1) := by decide +kernel
theorem dX7_has_25 : decode cX7_has 25 = .ok (.iaload, 1) := by decide +kernel
theorem dX7_has_26 : decode cX7_has 26 = .ok (.iaload, 1) := by decide +kernel
theorem dX7_has_27 : decode cX7_has 27 = .ok (.iload_n 2, 1) := by decide +kernel
theorem dX7_has_28 : decode cX7_has 28 = .ok (.if_icmp .ne 5, 3) := by decide +kernel
theorem dX7_has_31 : decode cX7_has 31 = .ok (.iconst 1, 1) := by decide +kernel
theorem dX7_has_32 : decode cX7_has 32 = .ok (.ireturn, 1) := by decide +kernel
theorem dX7_has_33 : decode cX7_has 33 = .ok (.iinc 3 1, 3) := by decide +kernel
theorem dX7_has_36 : decode cX7_has 36 = .ok (.goto (-34), 3) := by decide +kernel
theorem dX7_has_39 : decode cX7_has 39 = .ok (.iconst 0, 1) := by decide +kernel
theorem dX7_has_40 : decode cX7_has 40 = .ok (.ireturn, 1) := by decide +kernel
theorem dX7_placeIn_0 : decode cX7_placeIn 0 = .ok (.aload_n 0, 1) := by decide +kernel
theorem dX7_placeIn_1 : decode cX7_placeIn 1 = .ok (.getfield 29, 3) := by decide +kernel
theorem dX7_placeIn_4 : decode cX7_placeIn 4 = .ok (.iload_n 1, 1) := by decide +kernel
theorem dX7_placeIn_5 : decode cX7_placeIn 5 = .ok (.iaload, 1) := by decide +kernel
theorem dX7_placeIn_6 : decode cX7_placeIn 6 = .ok (.istore_n 2, 1) := by decide +kernel
theorem dX7_placeIn_7 : decode cX7_placeIn 7 = .ok (.iconst 0, 1) := by decide +kernel
theorem dX7_placeIn_8 : decode cX7_placeIn 8 = .ok (.istore_n 3, 1) := by decide +kernel
theorem dX7_placeIn_9 : decode cX7_placeIn 9 = .ok (.iload_n 2, 1) := by decide +kernel
theorem dX7_placeIn_10 : decode cX7_placeIn 10 = .ok (.iconst (-1), 1) := by decide +kernel
theorem dX7_placeIn_11 : decode cX7_placeIn 11 = .ok (.if_icmp .eq 35, 3) := by decide +kernel
theorem dX7_placeIn_14 : decode cX7_placeIn 14 = .ok (.iload_n 3, 1) := by decide +kernel
theorem dX7_placeIn_15 : decode cX7_placeIn 15 = .ok (.aload_n 0, 1) := by decide +kernel
theorem dX7_placeIn_16 : decode cX7_placeIn 16 = .ok (.getfield 50, 3) := by decide +kernel
theorem dX7_placeIn_19 : decode cX7_placeIn 19 = .ok (.iload_n 2, 1) := by decide +kernel
theorem dX7_placeIn_20 : decode cX7_placeIn 20 = .ok (.iaload, 1) := by decide +kernel
theorem dX7_placeIn_21 : decode cX7_placeIn 21 = .ok (.if_icmp .ge 25, 3) := by decide +kernel
theorem dX7_placeIn_24 : decode cX7_placeIn 24 = .ok (.aload_n 0, 1) := by decide +kernel
theorem dX7_placeIn_25 : decode cX7_placeIn 25 = .ok (.getfield 53, 3) := by decide +kernel
theorem dX7_placeIn_28 : decode cX7_placeIn 28 = .ok (.iconst 5, 1) := by decide +kernel
theorem dX7_placeIn_29 : decode cX7_placeIn 29 = .ok (.iload_n 2, 1) := by decide +kernel
theorem dX7_placeIn_30 : decode cX7_placeIn 30 = .ok (.imul, 1) := by decide +kernel
theorem dX7_placeIn_31 : decode cX7_placeIn 31 = .ok (.iload_n 3, 1) := by decide +kernel
theorem dX7_placeIn_32 : decode cX7_placeIn 32 = .ok (.iadd, 1) := by decide +kernel
theorem dX7_placeIn_33 : decode cX7_placeIn 33 = .ok (.iaload, 1) := by decide +kernel
theorem dX7_placeIn_34 : decode cX7_placeIn 34 = .ok (.iload_n 1, 1) := by decide +kernel
theorem dX7_placeIn_35 : decode cX7_placeIn 35 = .ok (.if_icmp .ne 5, 3) := by decide +kernel
theorem dX7_placeIn_38 : decode cX7_placeIn 38 = .ok (.iload_n 3, 1) := by decide +kernel
theorem dX7_placeIn_39 : decode cX7_placeIn 39 = .ok (.ireturn, 1) := by decide +kernel
theorem dX7_placeIn_40 : decode cX7_placeIn 40 = .ok (.iinc 3 1, 3) := by decide +kernel
theorem dX7_placeIn_43 : decode cX7_placeIn 43 = .ok (.goto (-34), 3) := by decide +kernel
theorem dX7_placeIn_46 : decode cX7_placeIn 46 = .ok (.iconst (-1), 1) := by decide +kernel
theorem dX7_placeIn_47 : decode cX7_placeIn 47 = .ok (.ireturn, 1) := by decide +kernel
theorem dX7_isOrdered_0 : decode cX7_isOrdered 0 = .ok (.iconst 0, 1) := by decide +kernel
theorem dX7_isOrdered_1 : decode cX7_isOrdered 1 = .ok (.istore_n 2, 1) := by decide +kernel
theorem dX7_isOrdered_2 : decode cX7_isOrdered 2 = .ok (.iload_n 2, 1) := by decide +kernel
theorem dX7_isOrdered_3 : decode cX7_isOrdered 3 = .ok (.aload_n 0, 1) := by decide +kernel
theorem dX7_isOrdered_4 : decode cX7_isOrdered 4 = .ok (.getfield 84, 3) := by decide +kernel
theorem dX7_isOrdered_7 : decode cX7_isOrdered 7 = .ok (.if_icmp .ge 80, 3) := by decide +kernel
theorem dX7_isOrdered_10 : decode cX7_isOrdered 10 = .ok (.aload_n 0, 1) := by decide +kernel
theorem dX7_isOrdered_11 : decode cX7_isOrdered 11 = .ok (.getfield 26, 3) := by decide +kernel
theorem dX7_isOrdered_14 : decode cX7_isOrdered 14 = .ok (.iload_n 1, 1) := by decide +kernel
theorem dX7_isOrdered_15 : decode cX7_isOrdered 15 = .ok (.iaload, 1) := by decide +kernel
theorem dX7_isOrdered_16 : decode cX7_isOrdered 16 = .ok (.iload_n 2, 1) := by decide +kernel
theorem dX7_isOrdered_17 : decode cX7_isOrdered 17 = .ok (.ishr, 1) := by decide +kernel
theorem dX7_isOrdered_18 : decode cX7_isOrdered 18 = .ok (.iconst 1, 1) := by decide +kernel
theorem dX7_isOrdered_19 : decode cX7_isOrdered 19 = .ok (.iand, 1) := by decide +kernel
theorem dX7_isOrdered_20 : decode cX7_isOrdered 20 = .ok (.ifCond .eq 61, 3) := by decide +kernel
theorem dX7_isOrdered_23 : decode cX7_isOrdered 23 = .ok (.aload_n 0, 1) := by decide +kernel
theorem dX7_isOrdered_24 : decode cX7_isOrdered 24 = .ok (.getfield 29, 3) := by decide +kernel
theorem dX7_isOrdered_27 : decode cX7_isOrdered 27 = .ok (.iload_n 2, 1) := by decide +kernel
theorem dX7_isOrdered_28 : decode cX7_isOrdered 28 = .ok (.iaload, 1) := by decide +kernel
theorem dX7_isOrdered_29 : decode cX7_isOrdered 29 = .ok (.iconst (-1), 1) := by decide +kernel
theorem dX7_isOrdered_30 : decode cX7_isOrdered 30 = .ok (.if_icmp .ne 6, 3) := by decide +kernel
theorem dX7_isOrdered_33 : decode cX7_isOrdered 33 = .ok (.goto 48, 3) := by decide +kernel
theorem dX7_isOrdered_36 : decode cX7_isOrdered 36 = .ok (.aload_n 0, 1) := by decide +kernel
theorem dX7_isOrdered_37 : decode cX7_isOrdered 37 = .ok (.getfield 29, 3) := by decide +kernel
theorem dX7_isOrdered_40 : decode cX7_isOrdered 40 = .ok (.iload_n 2, 1) := by decide +kernel
theorem dX7_isOrdered_41 : decode cX7_isOrdered 41 = .ok (.iaload, 1) := by decide +kernel
theorem dX7_isOrdered_42 : decode cX7_isOrdered 42 = .ok (.aload_n 0, 1) := by decide +kernel
theorem dX7_isOrdered_43 : decode cX7_isOrdered 43 = .ok (.getfield 29, 3) := by decide +kernel
theorem dX7_isOrdered_46 : decode cX7_isOrdered 46 = .ok (.iload_n 1, 1) := by decide +kernel
theorem dX7_isOrdered_47 : decode cX7_isOrdered 47 = .ok (.iaload, 1) := by decide +kernel
theorem dX7_isOrdered_48 : decode cX7_isOrdered 48 = .ok (.if_icmp .gt 31, 3) := by decide +kernel
theorem dX7_isOrdered_51 : decode cX7_isOrdered 51 = .ok (.aload_n 0, 1) := by decide +kernel
theorem dX7_isOrdered_52 : decode cX7_isOrdered 52 = .ok (.getfield 29, 3) := by decide +kernel
theorem dX7_isOrdered_55 : decode cX7_isOrdered 55 = .ok (.iload_n 2, 1) := by decide +kernel
theorem dX7_isOrdered_56 : decode cX7_isOrdered 56 = .ok (.iaload, 1) := by decide +kernel
theorem dX7_isOrdered_57 : decode cX7_isOrdered 57 = .ok (.aload_n 0, 1) := by decide +kernel
theorem dX7_isOrdered_58 : decode cX7_isOrdered 58 = .ok (.getfield 29, 3) := by decide +kernel
theorem dX7_isOrdered_61 : decode cX7_isOrdered 61 = .ok (.iload_n 1, 1) := by decide +kernel
theorem dX7_isOrdered_62 : decode cX7_isOrdered 62 = .ok (.iaload, 1) := by decide +kernel
theorem dX7_isOrdered_63 : decode cX7_isOrdered 63 = .ok (.if_icmp .ne 18, 3) := by decide +kernel
theorem dX7_isOrdered_66 : decode cX7_isOrdered 66 = .ok (.aload_n 0, 1) := by decide +kernel
theorem dX7_isOrdered_67 : decode cX7_isOrdered 67 = .ok (.iload_n 2, 1) := by decide +kernel
theorem dX7_isOrdered_68 : decode cX7_isOrdered 68 = .ok (.invokevirtual 113, 3) := by decide +kernel
theorem dX7_isOrdered_71 : decode cX7_isOrdered 71 = .ok (.aload_n 0, 1) := by decide +kernel
theorem dX7_isOrdered_72 : decode cX7_isOrdered 72 = .ok (.iload_n 1, 1) := by decide +kernel
theorem dX7_isOrdered_73 : decode cX7_isOrdered 73 = .ok (.invokevirtual 113, 3) := by decide +kernel
theorem dX7_isOrdered_76 : decode cX7_isOrdered 76 = .ok (.if_icmp .le 5, 3) := by decide +kernel
theorem dX7_isOrdered_79 : decode cX7_isOrdered 79 = .ok (.iconst 0, 1) := by decide +kernel
theorem dX7_isOrdered_80 : decode cX7_isOrdered 80 = .ok (.ireturn, 1) := by decide +kernel
theorem dX7_isOrdered_81 : decode cX7_isOrdered 81 = .ok (.iinc 2 1, 3) := by decide +kernel
theorem dX7_isOrdered_84 : decode cX7_isOrdered 84 = .ok (.goto (-82), 3) := by decide +kernel
theorem dX7_isOrdered_87 : decode cX7_isOrdered 87 = .ok (.iconst 1, 1) := by decide +kernel
theorem dX7_isOrdered_88 : decode cX7_isOrdered 88 = .ok (.ireturn, 1) := by decide +kernel
theorem dX7_keeps_0 : decode cX7_keeps 0 = .ok (.iconst 0, 1) := by decide +kernel
theorem dX7_keeps_1 : decode cX7_keeps 1 = .ok (.istore_n 1, 1) := by decide +kernel
theorem dX7_keeps_2 : decode cX7_keeps 2 = .ok (.iload_n 1, 1) := by decide +kernel
theorem dX7_keeps_3 : decode cX7_keeps 3 = .ok (.aload_n 0, 1) := by decide +kernel
theorem dX7_keeps_4 : decode cX7_keeps 4 = .ok (.getfield 91, 3) := by decide +kernel
theorem dX7_keeps_7 : decode cX7_keeps 7 = .ok (.if_icmp .ge 71, 3) := by decide +kernel
theorem dX7_keeps_10 : decode cX7_keeps 10 = .ok (.aload_n 0, 1) := by decide +kernel
theorem dX7_keeps_11 : decode cX7_keeps 11 = .ok (.iload_n 1, 1) := by decide +kernel
theorem dX7_keeps_12 : decode cX7_keeps 12 = .ok (.invokevirtual 117, 3) := by decide +kernel
theorem dX7_keeps_15 : decode cX7_keeps 15 = .ok (.aload_n 0, 1) := by decide +kernel
theorem dX7_keeps_16 : decode cX7_keeps 16 = .ok (.getfield 44, 3) := by decide +kernel
theorem dX7_keeps_19 : decode cX7_keeps 19 = .ok (.iload_n 1, 1) := by decide +kernel
theorem dX7_keeps_20 : decode cX7_keeps 20 = .ok (.iaload, 1) := by decide +kernel
theorem dX7_keeps_21 : decode cX7_keeps 21 = .ok (.if_icmp .gt 17, 3) := by decide +kernel
theorem dX7_keeps_24 : decode cX7_keeps 24 = .ok (.aload_n 0, 1) := by decide +kernel
theorem dX7_keeps_25 : decode cX7_keeps 25 = .ok (.iload_n 1, 1) := by decide +kernel
theorem dX7_keeps_26 : decode cX7_keeps 26 = .ok (.invokevirtual 120, 3) := by decide +kernel
theorem dX7_keeps_29 : decode cX7_keeps 29 = .ok (.aload_n 0, 1) := by decide +kernel
theorem dX7_keeps_30 : decode cX7_keeps 30 = .ok (.getfield 47, 3) := by decide +kernel
theorem dX7_keeps_33 : decode cX7_keeps 33 = .ok (.iload_n 1, 1) := by decide +kernel
theorem dX7_keeps_34 : decode cX7_keeps 34 = .ok (.iaload, 1) := by decide +kernel
theorem dX7_keeps_35 : decode cX7_keeps 35 = .ok (.if_icmp .le 5, 3) := by decide +kernel
theorem dX7_keeps_38 : decode cX7_keeps 38 = .ok (.iconst 0, 1) := by decide +kernel
theorem dX7_keeps_39 : decode cX7_keeps 39 = .ok (.ireturn, 1) := by decide +kernel
theorem dX7_keeps_40 : decode cX7_keeps 40 = .ok (.iload_n 1, 1) := by decide +kernel
theorem dX7_keeps_41 : decode cX7_keeps 41 = .ok (.iconst 1, 1) := by decide +kernel
theorem dX7_keeps_42 : decode cX7_keeps 42 = .ok (.iadd, 1) := by decide +kernel
theorem dX7_keeps_43 : decode cX7_keeps 43 = .ok (.aload_n 0, 1) := by decide +kernel
theorem dX7_keeps_44 : decode cX7_keeps 44 = .ok (.getfield 91, 3) := by decide +kernel
theorem dX7_keeps_47 : decode cX7_keeps 47 = .ok (.if_icmp .ge 25, 3) := by decide +kernel
theorem dX7_keeps_50 : decode cX7_keeps 50 = .ok (.aload_n 0, 1) := by decide +kernel
theorem dX7_keeps_51 : decode cX7_keeps 51 = .ok (.iload_n 1, 1) := by decide +kernel
theorem dX7_keeps_52 : decode cX7_keeps 52 = .ok (.iconst 2, 1) := by decide +kernel
theorem dX7_keeps_53 : decode cX7_keeps 53 = .ok (.invokevirtual 123, 3) := by decide +kernel
theorem dX7_keeps_56 : decode cX7_keeps 56 = .ok (.ifCond .eq 16, 3) := by decide +kernel
theorem dX7_keeps_59 : decode cX7_keeps 59 = .ok (.aload_n 0, 1) := by decide +kernel
theorem dX7_keeps_60 : decode cX7_keeps 60 = .ok (.iload_n 1, 1) := by decide +kernel
theorem dX7_keeps_61 : decode cX7_keeps 61 = .ok (.iconst 1, 1) := by decide +kernel
theorem dX7_keeps_62 : decode cX7_keeps 62 = .ok (.iadd, 1) := by decide +kernel
theorem dX7_keeps_63 : decode cX7_keeps 63 = .ok (.iconst 1, 1) := by decide +kernel
theorem dX7_keeps_64 : decode cX7_keeps 64 = .ok (.invokevirtual 123, 3) := by decide +kernel
theorem dX7_keeps_67 : decode cX7_keeps 67 = .ok (.ifCond .eq 5, 3) := by decide +kernel
theorem dX7_keeps_70 : decode cX7_keeps 70 = .ok (.iconst 0, 1) := by decide +kernel
theorem dX7_keeps_71 : decode cX7_keeps 71 = .ok (.ireturn, 1) := by decide +kernel
theorem dX7_keeps_72 : decode cX7_keeps 72 = .ok (.iinc 1 1, 3) := by decide +kernel
theorem dX7_keeps_75 : decode cX7_keeps 75 = .ok (.goto (-73), 3) := by decide +kernel
theorem dX7_keeps_78 : decode cX7_keeps 78 = .ok (.iconst 0, 1) := by decide +kernel
theorem dX7_keeps_79 : decode cX7_keeps 79 = .ok (.istore_n 1, 1) := by decide +kernel
theorem dX7_keeps_80 : decode cX7_keeps 80 = .ok (.iload_n 1, 1) := by decide +kernel
theorem dX7_keeps_81 : decode cX7_keeps 81 = .ok (.aload_n 0, 1) := by decide +kernel
theorem dX7_keeps_82 : decode cX7_keeps 82 = .ok (.getfield 84, 3) := by decide +kernel
theorem dX7_keeps_85 : decode cX7_keeps 85 = .ok (.if_icmp .ge 29, 3) := by decide +kernel
theorem dX7_keeps_88 : decode cX7_keeps 88 = .ok (.aload_n 0, 1) := by decide +kernel
theorem dX7_keeps_89 : decode cX7_keeps 89 = .ok (.getfield 29, 3) := by decide +kernel
theorem dX7_keeps_92 : decode cX7_keeps 92 = .ok (.iload_n 1, 1) := by decide +kernel
theorem dX7_keeps_93 : decode cX7_keeps 93 = .ok (.iaload, 1) := by decide +kernel
theorem dX7_keeps_94 : decode cX7_keeps 94 = .ok (.iconst (-1), 1) := by decide +kernel
theorem dX7_keeps_95 : decode cX7_keeps 95 = .ok (.if_icmp .eq 13, 3) := by decide +kernel
theorem dX7_keeps_98 : decode cX7_keeps 98 = .ok (.aload_n 0, 1) := by decide +kernel
theorem dX7_keeps_99 : decode cX7_keeps 99 = .ok (.iload_n 1, 1) := by decide +kernel
theorem dX7_keeps_100 : decode cX7_keeps 100 = .ok (.invokevirtual 126, 3) := by decide +kernel
theorem dX7_keeps_103 : decode cX7_keeps 103 = .ok (.ifCond .ne 5, 3) := by decide +kernel
theorem dX7_keeps_106 : decode cX7_keeps 106 = .ok (.iconst 0, 1) := by decide +kernel
theorem dX7_keeps_107 : decode cX7_keeps 107 = .ok (.ireturn, 1) := by decide +kernel
theorem dX7_keeps_108 : decode cX7_keeps 108 = .ok (.iinc 1 1, 3) := by decide +kernel
theorem dX7_keeps_111 : decode cX7_keeps 111 = .ok (.goto (-31), 3) := by decide +kernel
theorem dX7_keeps_114 : decode cX7_keeps 114 = .ok (.iconst 1, 1) := by decide +kernel
theorem dX7_keeps_115 : decode cX7_keeps 115 = .ok (.ireturn, 1) := by decide +kernel
theorem dX7_tries_0 : decode cX7_tries 0 = .ok (.iload_n 2, 1) := by decide +kernel
theorem dX7_tries_1 : decode cX7_tries 1 = .ok (.aload_n 0, 1) := by decide +kernel
theorem dX7_tries_2 : decode cX7_tries 2 = .ok (.getfield 50, 3) := by decide +kernel
theorem dX7_tries_5 : decode cX7_tries 5 = .ok (.iload_n 1, 1) := by decide +kernel
theorem dX7_tries_6 : decode cX7_tries 6 = .ok (.iaload, 1) := by decide +kernel
theorem dX7_tries_7 : decode cX7_tries 7 = .ok (.if_icmp .ne 66, 3) := by decide +kernel
theorem dX7_tries_10 : decode cX7_tries 10 = .ok (.aload_n 0, 1) := by decide +kernel
theorem dX7_tries_11 : decode cX7_tries 11 = .ok (.iload_n 1, 1) := by decide +kernel
theorem dX7_tries_12 : decode cX7_tries 12 = .ok (.invokevirtual 117, 3) := by decide +kernel
theorem dX7_tries_15 : decode cX7_tries 15 = .ok (.istore 4, 2) := by decide +kernel
theorem dX7_tries_17 : decode cX7_tries 17 = .ok (.iload 4, 2) := by decide +kernel
theorem dX7_tries_19 : decode cX7_tries 19 = .ok (.aload_n 0, 1) := by decide +kernel
theorem dX7_tries_20 : decode cX7_tries 20 = .ok (.getfield 129, 3) := by decide +kernel
theorem dX7_tries_23 : decode cX7_tries 23 = .ok (.if_icmp .ge 49, 3) := by decide +kernel
theorem dX7_tries_26 : decode cX7_tries 26 = .ok (.aload_n 0, 1) := by decide +kernel
theorem dX7_tries_27 : decode cX7_tries 27 = .ok (.invokevirtual 94, 3) := by decide +kernel
theorem dX7_tries_30 : decode cX7_tries 30 = .ok (.ifCond .eq 42, 3) := by decide +kernel
theorem dX7_tries_33 : decode cX7_tries 33 = .ok (.aload_n 0, 1) := by decide +kernel
theorem dX7_tries_34 : decode cX7_tries 34 = .ok (.iload 4, 2) := by decide +kernel
theorem dX7_tries_36 : decode cX7_tries 36 = .ok (.putfield 129, 3) := by decide +kernel
theorem dX7_tries_39 : decode cX7_tries 39 = .ok (.iconst 0, 1) := by decide +kernel
theorem dX7_tries_40 : decode cX7_tries 40 = .ok (.istore 5, 2) := by decide +kernel
theorem dX7_tries_42 : decode cX7_tries 42 = .ok (.iload 5, 2) := by decide +kernel
theorem dX7_tries_44 : decode cX7_tries 44 = .ok (.iload_n 2, 1) := by decide +kernel
theorem dX7_tries_45 : decode cX7_tries 45 = .ok (.if_icmp .ge 27, 3) := by decide +kernel
theorem dX7_tries_48 : decode cX7_tries 48 = .ok (.aload_n 0, 1) := by decide +kernel
theorem dX7_tries_49 : decode cX7_tries 49 = .ok (.getfield 59, 3) := by decide +kernel
theorem dX7_tries_52 : decode cX7_tries 52 = .ok (.iload 5, 2) := by decide +kernel
theorem dX7_tries_54 : decode cX7_tries 54 = .ok (.aload_n 0, 1) := by decide +kernel
theorem dX7_tries_55 : decode cX7_tries 55 = .ok (.getfield 53, 3) := by decide +kernel
theorem dX7_tries_58 : decode cX7_tries 58 = .ok (.iconst 5, 1) := by decide +kernel
theorem dX7_tries_59 : decode cX7_tries 59 = .ok (.iload_n 1, 1) := by decide +kernel
theorem dX7_tries_60 : decode cX7_tries 60 = .ok (.imul, 1) := by decide +kernel
theorem dX7_tries_61 : decode cX7_tries 61 = .ok (.iload 5, 2) := by decide +kernel
theorem dX7_tries_63 : decode cX7_tries 63 = .ok (.iadd, 1) := by decide +kernel
theorem dX7_tries_64 : decode cX7_tries 64 = .ok (.iaload, 1) := by decide +kernel
theorem dX7_tries_65 : decode cX7_tries 65 = .ok (.iastore, 1) := by decide +kernel
theorem dX7_tries_66 : decode cX7_tries 66 = .ok (.iinc 5 1, 3) := by decide +kernel
theorem dX7_tries_69 : decode cX7_tries 69 = .ok (.goto (-27), 3) := by decide +kernel
theorem dX7_tries_72 : decode cX7_tries 72 = .ok (.return_, 1) := by decide +kernel
theorem dX7_tries_73 : decode cX7_tries 73 = .ok (.iconst 0, 1) := by decide +kernel
theorem dX7_tries_74 : decode cX7_tries 74 = .ok (.istore 4, 2) := by decide +kernel
theorem dX7_tries_76 : decode cX7_tries 76 = .ok (.iload 4, 2) := by decide +kernel
theorem dX7_tries_78 : decode cX7_tries 78 = .ok (.aload_n 0, 1) := by decide +kernel
theorem dX7_tries_79 : decode cX7_tries 79 = .ok (.getfield 50, 3) := by decide +kernel
theorem dX7_tries_82 : decode cX7_tries 82 = .ok (.iload_n 1, 1) := by decide +kernel
theorem dX7_tries_83 : decode cX7_tries 83 = .ok (.iaload, 1) := by decide +kernel
theorem dX7_tries_84 : decode cX7_tries 84 = .ok (.if_icmp .ge 53, 3) := by decide +kernel
theorem dX7_tries_87 : decode cX7_tries 87 = .ok (.iload_n 3, 1) := by decide +kernel
theorem dX7_tries_88 : decode cX7_tries 88 = .ok (.iload 4, 2) := by decide +kernel
theorem dX7_tries_90 : decode cX7_tries 90 = .ok (.ishr, 1) := by decide +kernel
theorem dX7_tries_91 : decode cX7_tries 91 = .ok (.iconst 1, 1) := by decide +kernel
theorem dX7_tries_92 : decode cX7_tries 92 = .ok (.iand, 1) := by decide +kernel
theorem dX7_tries_93 : decode cX7_tries 93 = .ok (.iconst 1, 1) := by decide +kernel
theorem dX7_tries_94 : decode cX7_tries 94 = .ok (.if_icmp .ne 6, 3) := by decide +kernel
theorem dX7_tries_97 : decode cX7_tries 97 = .ok (.goto 34, 3) := by decide +kernel
theorem dX7_tries_100 : decode cX7_tries 100 = .ok (.aload_n 0, 1) := by decide +kernel
theorem dX7_tries_101 : decode cX7_tries 101 = .ok (.getfield 53, 3) := by decide +kernel
theorem dX7_tries_104 : decode cX7_tries 104 = .ok (.iconst 5, 1) := by decide +kernel
theorem dX7_tries_105 : decode cX7_tries 105 = .ok (.iload_n 1, 1) := by decide +kernel
theorem dX7_tries_106 : decode cX7_tries 106 = .ok (.imul, 1) := by decide +kernel
theorem dX7_tries_107 : decode cX7_tries 107 = .ok (.iload_n 2, 1) := by decide +kernel
theorem dX7_tries_108 : decode cX7_tries 108 = .ok (.iadd, 1) := by decide +kernel
theorem dX7_tries_109 : decode cX7_tries 109 = .ok (.aload_n 0, 1) := by decide +kernel
theorem dX7_tries_110 : decode cX7_tries 110 = .ok (.getfield 56, 3) := by decide +kernel
theorem dX7_tries_113 : decode cX7_tries 113 = .ok (.iload 4, 2) := by decide +kernel
theorem dX7_tries_115 : decode cX7_tries 115 = .ok (.iaload, 1) := by decide +kernel
theorem dX7_tries_116 : decode cX7_tries 116 = .ok (.iastore, 1) := by decide +kernel
theorem dX7_tries_117 : decode cX7_tries 117 = .ok (.aload_n 0, 1) := by decide +kernel
theorem dX7_tries_118 : decode cX7_tries 118 = .ok (.iload_n 1, 1) := by decide +kernel
theorem dX7_tries_119 : decode cX7_tries 119 = .ok (.iload_n 2, 1) := by decide +kernel
theorem dX7_tries_120 : decode cX7_tries 120 = .ok (.iconst 1, 1) := by decide +kernel
theorem dX7_tries_121 : decode cX7_tries 121 = .ok (.iadd, 1) := by decide +kernel
theorem dX7_tries_122 : decode cX7_tries 122 = .ok (.iload_n 3, 1) := by decide +kernel
theorem dX7_tries_123 : decode cX7_tries 123 = .ok (.iconst 1, 1) := by decide +kernel
theorem dX7_tries_124 : decode cX7_tries 124 = .ok (.iload 4, 2) := by decide +kernel
theorem dX7_tries_126 : decode cX7_tries 126 = .ok (.ishl, 1) := by decide +kernel
theorem dX7_tries_127 : decode cX7_tries 127 = .ok (.ior, 1) := by decide +kernel
theorem dX7_tries_128 : decode cX7_tries 128 = .ok (.invokevirtual 132, 3) := by decide +kernel
theorem dX7_tries_131 : decode cX7_tries 131 = .ok (.iinc 4 1, 3) := by decide +kernel
theorem dX7_tries_134 : decode cX7_tries 134 = .ok (.goto (-58), 3) := by decide +kernel
theorem dX7_tries_137 : decode cX7_tries 137 = .ok (.return_, 1) := by decide +kernel
theorem dX7_arranges_0 : decode cX7_arranges 0 = .ok (.iconst 0, 1) := by decide +kernel
theorem dX7_arranges_1 : decode cX7_arranges 1 = .ok (.istore_n 2, 1) := by decide +kernel
theorem dX7_arranges_2 : decode cX7_arranges 2 = .ok (.iconst 0, 1) := by decide +kernel
theorem dX7_arranges_3 : decode cX7_arranges 3 = .ok (.istore_n 3, 1) := by decide +kernel
theorem dX7_arranges_4 : decode cX7_arranges 4 = .ok (.iload_n 3, 1) := by decide +kernel
theorem dX7_arranges_5 : decode cX7_arranges 5 = .ok (.aload_n 0, 1) := by decide +kernel
theorem dX7_arranges_6 : decode cX7_arranges 6 = .ok (.getfield 84, 3) := by decide +kernel
theorem dX7_arranges_9 : decode cX7_arranges 9 = .ok (.if_icmp .ge 29, 3) := by decide +kernel
theorem dX7_arranges_12 : decode cX7_arranges 12 = .ok (.aload_n 0, 1) := by decide +kernel
theorem dX7_arranges_13 : decode cX7_arranges 13 = .ok (.getfield 29, 3) := by decide +kernel
theorem dX7_arranges_16 : decode cX7_arranges 16 = .ok (.iload_n 3, 1) := by decide +kernel
theorem dX7_arranges_17 : decode cX7_arranges 17 = .ok (.iaload, 1) := by decide +kernel
theorem dX7_arranges_18 : decode cX7_arranges 18 = .ok (.iload_n 1, 1) := by decide +kernel
theorem dX7_arranges_19 : decode cX7_arranges 19 = .ok (.if_icmp .ne 13, 3) := by decide +kernel
theorem dX7_arranges_22 : decode cX7_arranges 22 = .ok (.aload_n 0, 1) := by decide +kernel
theorem dX7_arranges_23 : decode cX7_arranges 23 = .ok (.getfield 56, 3) := by decide +kernel
theorem dX7_arranges_26 : decode cX7_arranges 26 = .ok (.iload_n 2, 1) := by decide +kernel
theorem dX7_arranges_27 : decode cX7_arranges 27 = .ok (.iload_n 3, 1) := by decide +kernel
theorem dX7_arranges_28 : decode cX7_arranges 28 = .ok (.iastore, 1) := by decide +kernel
theorem dX7_arranges_29 : decode cX7_arranges 29 = .ok (.iinc 2 1, 3) := by decide +kernel
theorem dX7_arranges_32 : decode cX7_arranges 32 = .ok (.iinc 3 1, 3) := by decide +kernel
theorem dX7_arranges_35 : decode cX7_arranges 35 = .ok (.goto (-31), 3) := by decide +kernel
theorem dX7_arranges_38 : decode cX7_arranges 38 = .ok (.aload_n 0, 1) := by decide +kernel
theorem dX7_arranges_39 : decode cX7_arranges 39 = .ok (.ldc 136, 2) := by decide +kernel
theorem dX7_arranges_41 : decode cX7_arranges 41 = .ok (.putfield 129, 3) := by decide +kernel
theorem dX7_arranges_44 : decode cX7_arranges 44 = .ok (.aload_n 0, 1) := by decide +kernel
theorem dX7_arranges_45 : decode cX7_arranges 45 = .ok (.iload_n 1, 1) := by decide +kernel
theorem dX7_arranges_46 : decode cX7_arranges 46 = .ok (.iconst 0, 1) := by decide +kernel
theorem dX7_arranges_47 : decode cX7_arranges 47 = .ok (.iconst 0, 1) := by decide +kernel
theorem dX7_arranges_48 : decode cX7_arranges 48 = .ok (.invokevirtual 132, 3) := by decide +kernel
theorem dX7_arranges_51 : decode cX7_arranges 51 = .ok (.iconst 0, 1) := by decide +kernel
theorem dX7_arranges_52 : decode cX7_arranges 52 = .ok (.istore_n 3, 1) := by decide +kernel
theorem dX7_arranges_53 : decode cX7_arranges 53 = .ok (.iload_n 3, 1) := by decide +kernel
theorem dX7_arranges_54 : decode cX7_arranges 54 = .ok (.aload_n 0, 1) := by decide +kernel
theorem dX7_arranges_55 : decode cX7_arranges 55 = .ok (.getfield 50, 3) := by decide +kernel
theorem dX7_arranges_58 : decode cX7_arranges 58 = .ok (.iload_n 1, 1) := by decide +kernel
theorem dX7_arranges_59 : decode cX7_arranges 59 = .ok (.iaload, 1) := by decide +kernel
theorem dX7_arranges_60 : decode cX7_arranges 60 = .ok (.if_icmp .ge 34, 3) := by decide +kernel
theorem dX7_arranges_63 : decode cX7_arranges 63 = .ok (.aload_n 0, 1) := by decide +kernel
theorem dX7_arranges_64 : decode cX7_arranges 64 = .ok (.getfield 129, 3) := by decide +kernel
theorem dX7_arranges_67 : decode cX7_arranges 67 = .ok (.ldc 136, 2) := by decide +kernel
theorem dX7_arranges_69 : decode cX7_arranges 69 = .ok (.if_icmp .ge 25, 3) := by decide +kernel
theorem dX7_arranges_72 : decode cX7_arranges 72 = .ok (.aload_n 0, 1) := by decide +kernel
theorem dX7_arranges_73 : decode cX7_arranges 73 = .ok (.getfield 53, 3) := by decide +kernel
theorem dX7_arranges_76 : decode cX7_arranges 76 = .ok (.iconst 5, 1) := by decide +kernel
theorem dX7_arranges_77 : decode cX7_arranges 77 = .ok (.iload_n 1, 1) := by decide +kernel
theorem dX7_arranges_78 : decode cX7_arranges 78 = .ok (.imul, 1) := by decide +kernel
theorem dX7_arranges_79 : decode cX7_arranges 79 = .ok (.iload_n 3, 1) := by decide +kernel
theorem dX7_arranges_80 : decode cX7_arranges 80 = .ok (.iadd, 1) := by decide +kernel
theorem dX7_arranges_81 : decode cX7_arranges 81 = .ok (.aload_n 0, 1) := by decide +kernel
theorem dX7_arranges_82 : decode cX7_arranges 82 = .ok (.getfield 59, 3) := by decide +kernel
theorem dX7_arranges_85 : decode cX7_arranges 85 = .ok (.iload_n 3, 1) := by decide +kernel
theorem dX7_arranges_86 : decode cX7_arranges 86 = .ok (.iaload, 1) := by decide +kernel
theorem dX7_arranges_87 : decode cX7_arranges 87 = .ok (.iastore, 1) := by decide +kernel
theorem dX7_arranges_88 : decode cX7_arranges 88 = .ok (.iinc 3 1, 3) := by decide +kernel
theorem dX7_arranges_91 : decode cX7_arranges 91 = .ok (.goto (-38), 3) := by decide +kernel
theorem dX7_arranges_94 : decode cX7_arranges 94 = .ok (.aload_n 0, 1) := by decide +kernel
theorem dX7_arranges_95 : decode cX7_arranges 95 = .ok (.getfield 129, 3) := by decide +kernel
theorem dX7_arranges_98 : decode cX7_arranges 98 = .ok (.ldc 136, 2) := by decide +kernel
theorem dX7_arranges_100 : decode cX7_arranges 100 = .ok (.if_icmp .ge 7, 3) := by decide +kernel
theorem dX7_arranges_103 : decode cX7_arranges 103 = .ok (.iconst 1, 1) := by decide +kernel
theorem dX7_arranges_104 : decode cX7_arranges 104 = .ok (.goto 4, 3) := by decide +kernel
theorem dX7_arranges_107 : decode cX7_arranges 107 = .ok (.iconst 0, 1) := by decide +kernel
theorem dX7_arranges_108 : decode cX7_arranges 108 = .ok (.ireturn, 1) := by decide +kernel
theorem dX7_puts_0 : decode cX7_puts 0 = .ok (.aload_n 0, 1) := by decide +kernel
theorem dX7_puts_1 : decode cX7_puts 1 = .ok (.getfield 50, 3) := by decide +kernel
theorem dX7_puts_4 : decode cX7_puts 4 = .ok (.iload_n 2, 1) := by decide +kernel
theorem dX7_puts_5 : decode cX7_puts 5 = .ok (.iaload, 1) := by decide +kernel
theorem dX7_puts_6 : decode cX7_puts 6 = .ok (.iconst 5, 1) := by decide +kernel
theorem dX7_puts_7 : decode cX7_puts 7 = .ok (.if_icmp .ne 5, 3) := by decide +kernel
theorem dX7_puts_10 : decode cX7_puts 10 = .ok (.iconst 0, 1) := by decide +kernel
theorem dX7_puts_11 : decode cX7_puts 11 = .ok (.ireturn, 1) := by decide +kernel
theorem dX7_puts_12 : decode cX7_puts 12 = .ok (.iconst 0, 1) := by decide +kernel
theorem dX7_puts_13 : decode cX7_puts 13 = .ok (.istore_n 3, 1) := by decide +kernel
theorem dX7_puts_14 : decode cX7_puts 14 = .ok (.iload_n 3, 1) := by decide +kernel
theorem dX7_puts_15 : decode cX7_puts 15 = .ok (.iconst 5, 1) := by decide +kernel
theorem dX7_puts_16 : decode cX7_puts 16 = .ok (.if_icmp .ge 25, 3) := by decide +kernel
theorem dX7_puts_19 : decode cX7_puts 19 = .ok (.aload_n 0, 1) := by decide +kernel
theorem dX7_puts_20 : decode cX7_puts 20 = .ok (.getfield 62, 3) := by decide +kernel
theorem dX7_puts_23 : decode cX7_puts 23 = .ok (.iload_n 3, 1) := by decide +kernel
theorem dX7_puts_24 : decode cX7_puts 24 = .ok (.aload_n 0, 1) := by decide +kernel
theorem dX7_puts_25 : decode cX7_puts 25 = .ok (.getfield 53, 3) := by decide +kernel
theorem dX7_puts_28 : decode cX7_puts 28 = .ok (.iconst 5, 1) := by decide +kernel
theorem dX7_puts_29 : decode cX7_puts 29 = .ok (.iload_n 2, 1) := by decide +kernel
theorem dX7_puts_30 : decode cX7_puts 30 = .ok (.imul, 1) := by decide +kernel
theorem dX7_puts_31 : decode cX7_puts 31 = .ok (.iload_n 3, 1) := by decide +kernel
theorem dX7_puts_32 : decode cX7_puts 32 = .ok (.iadd, 1) := by decide +kernel
theorem dX7_puts_33 : decode cX7_puts 33 = .ok (.iaload, 1) := by decide +kernel
theorem dX7_puts_34 : decode cX7_puts 34 = .ok (.iastore, 1) := by decide +kernel
theorem dX7_puts_35 : decode cX7_puts 35 = .ok (.iinc 3 1, 3) := by decide +kernel
theorem dX7_puts_38 : decode cX7_puts 38 = .ok (.goto (-24), 3) := by decide +kernel
theorem dX7_puts_41 : decode cX7_puts 41 = .ok (.aload_n 0, 1) := by decide +kernel
theorem dX7_puts_42 : decode cX7_puts 42 = .ok (.getfield 29, 3) := by decide +kernel
theorem dX7_puts_45 : decode cX7_puts 45 = .ok (.iload_n 1, 1) := by decide +kernel
theorem dX7_puts_46 : decode cX7_puts 46 = .ok (.iload_n 2, 1) := by decide +kernel
theorem dX7_puts_47 : decode cX7_puts 47 = .ok (.iastore, 1) := by decide +kernel
theorem dX7_puts_48 : decode cX7_puts 48 = .ok (.aload_n 0, 1) := by decide +kernel
theorem dX7_puts_49 : decode cX7_puts 49 = .ok (.getfield 53, 3) := by decide +kernel
theorem dX7_puts_52 : decode cX7_puts 52 = .ok (.iconst 5, 1) := by decide +kernel
theorem dX7_puts_53 : decode cX7_puts 53 = .ok (.iload_n 2, 1) := by decide +kernel
theorem dX7_puts_54 : decode cX7_puts 54 = .ok (.imul, 1) := by decide +kernel
theorem dX7_puts_55 : decode cX7_puts 55 = .ok (.aload_n 0, 1) := by decide +kernel
theorem dX7_puts_56 : decode cX7_puts 56 = .ok (.getfield 50, 3) := by decide +kernel
theorem dX7_puts_59 : decode cX7_puts 59 = .ok (.iload_n 2, 1) := by decide +kernel
theorem dX7_puts_60 : decode cX7_puts 60 = .ok (.iaload, 1) := by decide +kernel
theorem dX7_puts_61 : decode cX7_puts 61 = .ok (.iadd, 1) := by decide +kernel
theorem dX7_puts_62 : decode cX7_puts 62 = .ok (.iload_n 1, 1) := by decide +kernel
theorem dX7_puts_63 : decode cX7_puts 63 = .ok (.iastore, 1) := by decide +kernel
theorem dX7_puts_64 : decode cX7_puts 64 = .ok (.aload_n 0, 1) := by decide +kernel
theorem dX7_puts_65 : decode cX7_puts 65 = .ok (.getfield 50, 3) := by decide +kernel
theorem dX7_puts_68 : decode cX7_puts 68 = .ok (.iload_n 2, 1) := by decide +kernel
theorem dX7_puts_69 : decode cX7_puts 69 = .ok (.dup2, 1) := by decide +kernel
theorem dX7_puts_70 : decode cX7_puts 70 = .ok (.iaload, 1) := by decide +kernel
theorem dX7_puts_71 : decode cX7_puts 71 = .ok (.iconst 1, 1) := by decide +kernel
theorem dX7_puts_72 : decode cX7_puts 72 = .ok (.iadd, 1) := by decide +kernel
theorem dX7_puts_73 : decode cX7_puts 73 = .ok (.iastore, 1) := by decide +kernel
theorem dX7_puts_74 : decode cX7_puts 74 = .ok (.aload_n 0, 1) := by decide +kernel
theorem dX7_puts_75 : decode cX7_puts 75 = .ok (.iload_n 2, 1) := by decide +kernel
theorem dX7_puts_76 : decode cX7_puts 76 = .ok (.invokevirtual 137, 3) := by decide +kernel
theorem dX7_puts_79 : decode cX7_puts 79 = .ok (.ifCond .eq 5, 3) := by decide +kernel
theorem dX7_puts_82 : decode cX7_puts 82 = .ok (.iconst 1, 1) := by decide +kernel
theorem dX7_puts_83 : decode cX7_puts 83 = .ok (.ireturn, 1) := by decide +kernel
theorem dX7_puts_84 : decode cX7_puts 84 = .ok (.aload_n 0, 1) := by decide +kernel
theorem dX7_puts_85 : decode cX7_puts 85 = .ok (.getfield 29, 3) := by decide +kernel
theorem dX7_puts_88 : decode cX7_puts 88 = .ok (.iload_n 1, 1) := by decide +kernel
theorem dX7_puts_89 : decode cX7_puts 89 = .ok (.iconst (-1), 1) := by decide +kernel
theorem dX7_puts_90 : decode cX7_puts 90 = .ok (.iastore, 1) := by decide +kernel
theorem dX7_puts_91 : decode cX7_puts 91 = .ok (.aload_n 0, 1) := by decide +kernel
theorem dX7_puts_92 : decode cX7_puts 92 = .ok (.getfield 50, 3) := by decide +kernel
theorem dX7_puts_95 : decode cX7_puts 95 = .ok (.iload_n 2, 1) := by decide +kernel
theorem dX7_puts_96 : decode cX7_puts 96 = .ok (.dup2, 1) := by decide +kernel
theorem dX7_puts_97 : decode cX7_puts 97 = .ok (.iaload, 1) := by decide +kernel
theorem dX7_puts_98 : decode cX7_puts 98 = .ok (.iconst 1, 1) := by decide +kernel
theorem dX7_puts_99 : decode cX7_puts 99 = .ok (.isub, 1) := by decide +kernel
theorem dX7_puts_100 : decode cX7_puts 100 = .ok (.iastore, 1) := by decide +kernel
theorem dX7_puts_101 : decode cX7_puts 101 = .ok (.iconst 0, 1) := by decide +kernel
theorem dX7_puts_102 : decode cX7_puts 102 = .ok (.istore_n 3, 1) := by decide +kernel
theorem dX7_puts_103 : decode cX7_puts 103 = .ok (.iload_n 3, 1) := by decide +kernel
theorem dX7_puts_104 : decode cX7_puts 104 = .ok (.iconst 5, 1) := by decide +kernel
theorem dX7_puts_105 : decode cX7_puts 105 = .ok (.if_icmp .ge 25, 3) := by decide +kernel
theorem dX7_puts_108 : decode cX7_puts 108 = .ok (.aload_n 0, 1) := by decide +kernel
theorem dX7_puts_109 : decode cX7_puts 109 = .ok (.getfield 53, 3) := by decide +kernel
theorem dX7_puts_112 : decode cX7_puts 112 = .ok (.iconst 5, 1) := by decide +kernel
theorem dX7_puts_113 : decode cX7_puts 113 = .ok (.iload_n 2, 1) := by decide +kernel
theorem dX7_puts_114 : decode cX7_puts 114 = .ok (.imul, 1) := by decide +kernel
theorem dX7_puts_115 : decode cX7_puts 115 = .ok (.iload_n 3, 1) := by decide +kernel
theorem dX7_puts_116 : decode cX7_puts 116 = .ok (.iadd, 1) := by decide +kernel
theorem dX7_puts_117 : decode cX7_puts 117 = .ok (.aload_n 0, 1) := by decide +kernel
theorem dX7_puts_118 : decode cX7_puts 118 = .ok (.getfield 62, 3) := by decide +kernel
theorem dX7_puts_121 : decode cX7_puts 121 = .ok (.iload_n 3, 1) := by decide +kernel
theorem dX7_puts_122 : decode cX7_puts 122 = .ok (.iaload, 1) := by decide +kernel
theorem dX7_puts_123 : decode cX7_puts 123 = .ok (.iastore, 1) := by decide +kernel
theorem dX7_puts_124 : decode cX7_puts 124 = .ok (.iinc 3 1, 3) := by decide +kernel
theorem dX7_puts_127 : decode cX7_puts 127 = .ok (.goto (-24), 3) := by decide +kernel
theorem dX7_puts_130 : decode cX7_puts 130 = .ok (.iconst 0, 1) := by decide +kernel
theorem dX7_puts_131 : decode cX7_puts 131 = .ok (.ireturn, 1) := by decide +kernel
theorem dX7_takes_0 : decode cX7_takes 0 = .ok (.aload_n 0, 1) := by decide +kernel
theorem dX7_takes_1 : decode cX7_takes 1 = .ok (.getfield 29, 3) := by decide +kernel
theorem dX7_takes_4 : decode cX7_takes 4 = .ok (.iload_n 1, 1) := by decide +kernel
theorem dX7_takes_5 : decode cX7_takes 5 = .ok (.iaload, 1) := by decide +kernel
theorem dX7_takes_6 : decode cX7_takes 6 = .ok (.istore_n 2, 1) := by decide +kernel
theorem dX7_takes_7 : decode cX7_takes 7 = .ok (.aload_n 0, 1) := by decide +kernel
theorem dX7_takes_8 : decode cX7_takes 8 = .ok (.iload_n 1, 1) := by decide +kernel
theorem dX7_takes_9 : decode cX7_takes 9 = .ok (.invokevirtual 113, 3) := by decide +kernel
theorem dX7_takes_12 : decode cX7_takes 12 = .ok (.istore_n 3, 1) := by decide +kernel
theorem dX7_takes_13 : decode cX7_takes 13 = .ok (.aload_n 0, 1) := by decide +kernel
theorem dX7_takes_14 : decode cX7_takes 14 = .ok (.getfield 50, 3) := by decide +kernel
theorem dX7_takes_17 : decode cX7_takes 17 = .ok (.iload_n 2, 1) := by decide +kernel
theorem dX7_takes_18 : decode cX7_takes 18 = .ok (.dup2, 1) := by decide +kernel
theorem dX7_takes_19 : decode cX7_takes 19 = .ok (.iaload, 1) := by decide +kernel
theorem dX7_takes_20 : decode cX7_takes 20 = .ok (.iconst 1, 1) := by decide +kernel
theorem dX7_takes_21 : decode cX7_takes 21 = .ok (.isub, 1) := by decide +kernel
theorem dX7_takes_22 : decode cX7_takes 22 = .ok (.iastore, 1) := by decide +kernel
theorem dX7_takes_23 : decode cX7_takes 23 = .ok (.iload_n 3, 1) := by decide +kernel
theorem dX7_takes_24 : decode cX7_takes 24 = .ok (.istore 4, 2) := by decide +kernel
theorem dX7_takes_26 : decode cX7_takes 26 = .ok (.iload 4, 2) := by decide +kernel
theorem dX7_takes_28 : decode cX7_takes 28 = .ok (.aload_n 0, 1) := by decide +kernel
theorem dX7_takes_29 : decode cX7_takes 29 = .ok (.getfield 50, 3) := by decide +kernel
theorem dX7_takes_32 : decode cX7_takes 32 = .ok (.iload_n 2, 1) := by decide +kernel
theorem dX7_takes_33 : decode cX7_takes 33 = .ok (.iaload, 1) := by decide +kernel
theorem dX7_takes_34 : decode cX7_takes 34 = .ok (.if_icmp .ge 33, 3) := by decide +kernel
theorem dX7_takes_37 : decode cX7_takes 37 = .ok (.aload_n 0, 1) := by decide +kernel
theorem dX7_takes_38 : decode cX7_takes 38 = .ok (.getfield 53, 3) := by decide +kernel
theorem dX7_takes_41 : decode cX7_takes 41 = .ok (.iconst 5, 1) := by decide +kernel
theorem dX7_takes_42 : decode cX7_takes 42 = .ok (.iload_n 2, 1) := by decide +kernel
theorem dX7_takes_43 : decode cX7_takes 43 = .ok (.imul, 1) := by decide +kernel
theorem dX7_takes_44 : decode cX7_takes 44 = .ok (.iload 4, 2) := by decide +kernel
theorem dX7_takes_46 : decode cX7_takes 46 = .ok (.iadd, 1) := by decide +kernel
theorem dX7_takes_47 : decode cX7_takes 47 = .ok (.aload_n 0, 1) := by decide +kernel
theorem dX7_takes_48 : decode cX7_takes 48 = .ok (.getfield 53, 3) := by decide +kernel
theorem dX7_takes_51 : decode cX7_takes 51 = .ok (.iconst 5, 1) := by decide +kernel
theorem dX7_takes_52 : decode cX7_takes 52 = .ok (.iload_n 2, 1) := by decide +kernel
theorem dX7_takes_53 : decode cX7_takes 53 = .ok (.imul, 1) := by decide +kernel
theorem dX7_takes_54 : decode cX7_takes 54 = .ok (.iload 4, 2) := by decide +kernel
theorem dX7_takes_56 : decode cX7_takes 56 = .ok (.iadd, 1) := by decide +kernel
theorem dX7_takes_57 : decode cX7_takes 57 = .ok (.iconst 1, 1) := by decide +kernel
theorem dX7_takes_58 : decode cX7_takes 58 = .ok (.iadd, 1) := by decide +kernel
theorem dX7_takes_59 : decode cX7_takes 59 = .ok (.iaload, 1) := by decide +kernel
theorem dX7_takes_60 : decode cX7_takes 60 = .ok (.iastore, 1) := by decide +kernel
theorem dX7_takes_61 : decode cX7_takes 61 = .ok (.iinc 4 1, 3) := by decide +kernel
theorem dX7_takes_64 : decode cX7_takes 64 = .ok (.goto (-38), 3) := by decide +kernel
theorem dX7_takes_67 : decode cX7_takes 67 = .ok (.aload_n 0, 1) := by decide +kernel
theorem dX7_takes_68 : decode cX7_takes 68 = .ok (.getfield 29, 3) := by decide +kernel
theorem dX7_takes_71 : decode cX7_takes 71 = .ok (.iload_n 1, 1) := by decide +kernel
theorem dX7_takes_72 : decode cX7_takes 72 = .ok (.iconst (-1), 1) := by decide +kernel
theorem dX7_takes_73 : decode cX7_takes 73 = .ok (.iastore, 1) := by decide +kernel
theorem dX7_takes_74 : decode cX7_takes 74 = .ok (.return_, 1) := by decide +kernel
theorem dX7_keepAll_0 : decode cX7_keepAll 0 = .ok (.iconst 0, 1) := by decide +kernel
theorem dX7_keepAll_1 : decode cX7_keepAll 1 = .ok (.istore_n 1, 1) := by decide +kernel
theorem dX7_keepAll_2 : decode cX7_keepAll 2 = .ok (.iload_n 1, 1) := by decide +kernel
theorem dX7_keepAll_3 : decode cX7_keepAll 3 = .ok (.bipush 40, 2) := by decide +kernel
theorem dX7_keepAll_5 : decode cX7_keepAll 5 = .ok (.if_icmp .ge 21, 3) := by decide +kernel
theorem dX7_keepAll_8 : decode cX7_keepAll 8 = .ok (.aload_n 0, 1) := by decide +kernel
theorem dX7_keepAll_9 : decode cX7_keepAll 9 = .ok (.getfield 65, 3) := by decide +kernel
theorem dX7_keepAll_12 : decode cX7_keepAll 12 = .ok (.iload_n 1, 1) := by decide +kernel
theorem dX7_keepAll_13 : decode cX7_keepAll 13 = .ok (.aload_n 0, 1) := by decide +kernel
theorem dX7_keepAll_14 : decode cX7_keepAll 14 = .ok (.getfield 53, 3) := by decide +kernel
theorem dX7_keepAll_17 : decode cX7_keepAll 17 = .ok (.iload_n 1, 1) := by decide +kernel
theorem dX7_keepAll_18 : decode cX7_keepAll 18 = .ok (.iaload, 1) := by decide +kernel
theorem dX7_keepAll_19 : decode cX7_keepAll 19 = .ok (.iastore, 1) := by decide +kernel
theorem dX7_keepAll_20 : decode cX7_keepAll 20 = .ok (.iinc 1 1, 3) := by decide +kernel
theorem dX7_keepAll_23 : decode cX7_keepAll 23 = .ok (.goto (-21), 3) := by decide +kernel
theorem dX7_keepAll_26 : decode cX7_keepAll 26 = .ok (.iconst 0, 1) := by decide +kernel
theorem dX7_keepAll_27 : decode cX7_keepAll 27 = .ok (.istore_n 1, 1) := by decide +kernel
theorem dX7_keepAll_28 : decode cX7_keepAll 28 = .ok (.iload_n 1, 1) := by decide +kernel
theorem dX7_keepAll_29 : decode cX7_keepAll 29 = .ok (.bipush 8, 2) := by decide +kernel
theorem dX7_keepAll_31 : decode cX7_keepAll 31 = .ok (.if_icmp .ge 21, 3) := by decide +kernel
theorem dX7_keepAll_34 : decode cX7_keepAll 34 = .ok (.aload_n 0, 1) := by decide +kernel
theorem dX7_keepAll_35 : decode cX7_keepAll 35 = .ok (.getfield 68, 3) := by decide +kernel
theorem dX7_keepAll_38 : decode cX7_keepAll 38 = .ok (.iload_n 1, 1) := by decide +kernel
theorem dX7_keepAll_39 : decode cX7_keepAll 39 = .ok (.aload_n 0, 1) := by decide +kernel
theorem dX7_keepAll_40 : decode cX7_keepAll 40 = .ok (.getfield 50, 3) := by decide +kernel
theorem dX7_keepAll_43 : decode cX7_keepAll 43 = .ok (.iload_n 1, 1) := by decide +kernel
theorem dX7_keepAll_44 : decode cX7_keepAll 44 = .ok (.iaload, 1) := by decide +kernel
theorem dX7_keepAll_45 : decode cX7_keepAll 45 = .ok (.iastore, 1) := by decide +kernel
theorem dX7_keepAll_46 : decode cX7_keepAll 46 = .ok (.iinc 1 1, 3) := by decide +kernel
theorem dX7_keepAll_49 : decode cX7_keepAll 49 = .ok (.goto (-21), 3) := by decide +kernel
theorem dX7_keepAll_52 : decode cX7_keepAll 52 = .ok (.iconst 0, 1) := by decide +kernel
theorem dX7_keepAll_53 : decode cX7_keepAll 53 = .ok (.istore_n 1, 1) := by decide +kernel
theorem dX7_keepAll_54 : decode cX7_keepAll 54 = .ok (.iload_n 1, 1) := by decide +kernel
theorem dX7_keepAll_55 : decode cX7_keepAll 55 = .ok (.bipush 20, 2) := by decide +kernel
theorem dX7_keepAll_57 : decode cX7_keepAll 57 = .ok (.if_icmp .ge 21, 3) := by decide +kernel
theorem dX7_keepAll_60 : decode cX7_keepAll 60 = .ok (.aload_n 0, 1) := by decide +kernel
theorem dX7_keepAll_61 : decode cX7_keepAll 61 = .ok (.getfield 71, 3) := by decide +kernel
theorem dX7_keepAll_64 : decode cX7_keepAll 64 = .ok (.iload_n 1, 1) := by decide +kernel
theorem dX7_keepAll_65 : decode cX7_keepAll 65 = .ok (.aload_n 0, 1) := by decide +kernel
theorem dX7_keepAll_66 : decode cX7_keepAll 66 = .ok (.getfield 29, 3) := by decide +kernel
theorem dX7_keepAll_69 : decode cX7_keepAll 69 = .ok (.iload_n 1, 1) := by decide +kernel
theorem dX7_keepAll_70 : decode cX7_keepAll 70 = .ok (.iaload, 1) := by decide +kernel
theorem dX7_keepAll_71 : decode cX7_keepAll 71 = .ok (.iastore, 1) := by decide +kernel
theorem dX7_keepAll_72 : decode cX7_keepAll 72 = .ok (.iinc 1 1, 3) := by decide +kernel
theorem dX7_keepAll_75 : decode cX7_keepAll 75 = .ok (.goto (-21), 3) := by decide +kernel
theorem dX7_keepAll_78 : decode cX7_keepAll 78 = .ok (.return_, 1) := by decide +kernel
theorem dX7_backAll_0 : decode cX7_backAll 0 = .ok (.iconst 0, 1) := by decide +kernel
theorem dX7_backAll_1 : decode cX7_backAll 1 = .ok (.istore_n 1, 1) := by decide +kernel
theorem dX7_backAll_2 : decode cX7_backAll 2 = .ok (.iload_n 1, 1) := by decide +kernel
theorem dX7_backAll_3 : decode cX7_backAll 3 = .ok (.bipush 40, 2) := by decide +kernel
theorem dX7_backAll_5 : decode cX7_backAll 5 = .ok (.if_icmp .ge 21, 3) := by decide +kernel
theorem dX7_backAll_8 : decode cX7_backAll 8 = .ok (.aload_n 0, 1) := by decide +kernel
theorem dX7_backAll_9 : decode cX7_backAll 9 = .ok (.getfield 53, 3) := by decide +kernel
theorem dX7_backAll_12 : decode cX7_backAll 12 = .ok (.iload_n 1, 1) := by decide +kernel
theorem dX7_backAll_13 : decode cX7_backAll 13 = .ok (.aload_n 0, 1) := by decide +kernel
theorem dX7_backAll_14 : decode cX7_backAll 14 = .ok (.getfield 65, 3) := by decide +kernel
theorem dX7_backAll_17 : decode cX7_backAll 17 = .ok (.iload_n 1, 1) := by decide +kernel
theorem dX7_backAll_18 : decode cX7_backAll 18 = .ok (.iaload, 1) := by decide +kernel
theorem dX7_backAll_19 : decode cX7_backAll 19 = .ok (.iastore, 1) := by decide +kernel
theorem dX7_backAll_20 : decode cX7_backAll 20 = .ok (.iinc 1 1, 3) := by decide +kernel
theorem dX7_backAll_23 : decode cX7_backAll 23 = .ok (.goto (-21), 3) := by decide +kernel
theorem dX7_backAll_26 : decode cX7_backAll 26 = .ok (.iconst 0, 1) := by decide +kernel
theorem dX7_backAll_27 : decode cX7_backAll 27 = .ok (.istore_n 1, 1) := by decide +kernel
theorem dX7_backAll_28 : decode cX7_backAll 28 = .ok (.iload_n 1, 1) := by decide +kernel
theorem dX7_backAll_29 : decode cX7_backAll 29 = .ok (.bipush 8, 2) := by decide +kernel
theorem dX7_backAll_31 : decode cX7_backAll 31 = .ok (.if_icmp .ge 21, 3) := by decide +kernel
theorem dX7_backAll_34 : decode cX7_backAll 34 = .ok (.aload_n 0, 1) := by decide +kernel
theorem dX7_backAll_35 : decode cX7_backAll 35 = .ok (.getfield 50, 3) := by decide +kernel
theorem dX7_backAll_38 : decode cX7_backAll 38 = .ok (.iload_n 1, 1) := by decide +kernel
theorem dX7_backAll_39 : decode cX7_backAll 39 = .ok (.aload_n 0, 1) := by decide +kernel
theorem dX7_backAll_40 : decode cX7_backAll 40 = .ok (.getfield 68, 3) := by decide +kernel
theorem dX7_backAll_43 : decode cX7_backAll 43 = .ok (.iload_n 1, 1) := by decide +kernel
theorem dX7_backAll_44 : decode cX7_backAll 44 = .ok (.iaload, 1) := by decide +kernel
theorem dX7_backAll_45 : decode cX7_backAll 45 = .ok (.iastore, 1) := by decide +kernel
theorem dX7_backAll_46 : decode cX7_backAll 46 = .ok (.iinc 1 1, 3) := by decide +kernel
theorem dX7_backAll_49 : decode cX7_backAll 49 = .ok (.goto (-21), 3) := by decide +kernel
theorem dX7_backAll_52 : decode cX7_backAll 52 = .ok (.iconst 0, 1) := by decide +kernel
theorem dX7_backAll_53 : decode cX7_backAll 53 = .ok (.istore_n 1, 1) := by decide +kernel
theorem dX7_backAll_54 : decode cX7_backAll 54 = .ok (.iload_n 1, 1) := by decide +kernel
theorem dX7_backAll_55 : decode cX7_backAll 55 = .ok (.bipush 20, 2) := by decide +kernel
theorem dX7_backAll_57 : decode cX7_backAll 57 = .ok (.if_icmp .ge 21, 3) := by decide +kernel
theorem dX7_backAll_60 : decode cX7_backAll 60 = .ok (.aload_n 0, 1) := by decide +kernel
theorem dX7_backAll_61 : decode cX7_backAll 61 = .ok (.getfield 29, 3) := by decide +kernel
theorem dX7_backAll_64 : decode cX7_backAll 64 = .ok (.iload_n 1, 1) := by decide +kernel
theorem dX7_backAll_65 : decode cX7_backAll 65 = .ok (.aload_n 0, 1) := by decide +kernel
theorem dX7_backAll_66 : decode cX7_backAll 66 = .ok (.getfield 71, 3) := by decide +kernel
theorem dX7_backAll_69 : decode cX7_backAll 69 = .ok (.iload_n 1, 1) := by decide +kernel
theorem dX7_backAll_70 : decode cX7_backAll 70 = .ok (.iaload, 1) := by decide +kernel
theorem dX7_backAll_71 : decode cX7_backAll 71 = .ok (.iastore, 1) := by decide +kernel
theorem dX7_backAll_72 : decode cX7_backAll 72 = .ok (.iinc 1 1, 3) := by decide +kernel
theorem dX7_backAll_75 : decode cX7_backAll 75 = .ok (.goto (-21), 3) := by decide +kernel
theorem dX7_backAll_78 : decode cX7_backAll 78 = .ok (.return_, 1) := by decide +kernel
theorem dX7_may_0 : decode cX7_may 0 = .ok (.aload_n 0, 1) := by decide +kernel
theorem dX7_may_1 : decode cX7_may 1 = .ok (.iload_n 1, 1) := by decide +kernel
theorem dX7_may_2 : decode cX7_may 2 = .ok (.invokevirtual 98, 3) := by decide +kernel
theorem dX7_may_5 : decode cX7_may 5 = .ok (.ifCond .eq 11, 3) := by decide +kernel
theorem dX7_may_8 : decode cX7_may 8 = .ok (.aload_n 0, 1) := by decide +kernel
theorem dX7_may_9 : decode cX7_may 9 = .ok (.iload_n 2, 1) := by decide +kernel
theorem dX7_may_10 : decode cX7_may 10 = .ok (.invokevirtual 106, 3) := by decide +kernel
theorem dX7_may_13 : decode cX7_may 13 = .ok (.ifCond .ne 5, 3) := by decide +kernel
theorem dX7_may_16 : decode cX7_may 16 = .ok (.iconst (-1), 1) := by decide +kernel
theorem dX7_may_17 : decode cX7_may 17 = .ok (.ireturn, 1) := by decide +kernel
theorem dX7_may_18 : decode cX7_may 18 = .ok (.aload_n 0, 1) := by decide +kernel
theorem dX7_may_19 : decode cX7_may 19 = .ok (.getfield 29, 3) := by decide +kernel
theorem dX7_may_22 : decode cX7_may 22 = .ok (.iload_n 1, 1) := by decide +kernel
theorem dX7_may_23 : decode cX7_may 23 = .ok (.iaload, 1) := by decide +kernel
theorem dX7_may_24 : decode cX7_may 24 = .ok (.iconst (-1), 1) := by decide +kernel
theorem dX7_may_25 : decode cX7_may 25 = .ok (.if_icmp .eq 6, 3) := by decide +kernel
theorem dX7_may_28 : decode cX7_may 28 = .ok (.bipush (-3), 2) := by decide +kernel
theorem dX7_may_30 : decode cX7_may 30 = .ok (.ireturn, 1) := by decide +kernel
theorem dX7_may_31 : decode cX7_may 31 = .ok (.aload_n 0, 1) := by decide +kernel
theorem dX7_may_32 : decode cX7_may 32 = .ok (.getfield 50, 3) := by decide +kernel
theorem dX7_may_35 : decode cX7_may 35 = .ok (.iload_n 2, 1) := by decide +kernel
theorem dX7_may_36 : decode cX7_may 36 = .ok (.iaload, 1) := by decide +kernel
theorem dX7_may_37 : decode cX7_may 37 = .ok (.iconst 5, 1) := by decide +kernel
theorem dX7_may_38 : decode cX7_may 38 = .ok (.if_icmp .ne 5, 3) := by decide +kernel
theorem dX7_may_41 : decode cX7_may 41 = .ok (.iconst 2, 1) := by decide +kernel
theorem dX7_may_42 : decode cX7_may 42 = .ok (.ireturn, 1) := by decide +kernel
theorem dX7_may_43 : decode cX7_may 43 = .ok (.aload_n 0, 1) := by decide +kernel
theorem dX7_may_44 : decode cX7_may 44 = .ok (.invokevirtual 140, 3) := by decide +kernel
theorem dX7_may_47 : decode cX7_may 47 = .ok (.aload_n 0, 1) := by decide +kernel
theorem dX7_may_48 : decode cX7_may 48 = .ok (.iload_n 1, 1) := by decide +kernel
theorem dX7_may_49 : decode cX7_may 49 = .ok (.iload_n 2, 1) := by decide +kernel
theorem dX7_may_50 : decode cX7_may 50 = .ok (.invokevirtual 143, 3) := by decide +kernel
theorem dX7_may_53 : decode cX7_may 53 = .ok (.istore_n 3, 1) := by decide +kernel
theorem dX7_may_54 : decode cX7_may 54 = .ok (.aload_n 0, 1) := by decide +kernel
theorem dX7_may_55 : decode cX7_may 55 = .ok (.invokevirtual 146, 3) := by decide +kernel
theorem dX7_may_58 : decode cX7_may 58 = .ok (.iload_n 3, 1) := by decide +kernel
theorem dX7_may_59 : decode cX7_may 59 = .ok (.ifCond .eq 7, 3) := by decide +kernel
theorem dX7_may_62 : decode cX7_may 62 = .ok (.iconst 0, 1) := by decide +kernel
theorem dX7_may_63 : decode cX7_may 63 = .ok (.goto 4, 3) := by decide +kernel
theorem dX7_may_66 : decode cX7_may 66 = .ok (.iconst 1, 1) := by decide +kernel
theorem dX7_may_67 : decode cX7_may 67 = .ok (.ireturn, 1) := by decide +kernel
theorem dX7_put_0 : decode cX7_put 0 = .ok (.aload_n 0, 1) := by decide +kernel
theorem dX7_put_1 : decode cX7_put 1 = .ok (.iload_n 1, 1) := by decide +kernel
theorem dX7_put_2 : decode cX7_put 2 = .ok (.iload_n 2, 1) := by decide +kernel
theorem dX7_put_3 : decode cX7_put 3 = .ok (.invokevirtual 149, 3) := by decide +kernel
theorem dX7_put_6 : decode cX7_put 6 = .ok (.istore_n 3, 1) := by decide +kernel
theorem dX7_put_7 : decode cX7_put 7 = .ok (.iload_n 3, 1) := by decide +kernel
theorem dX7_put_8 : decode cX7_put 8 = .ok (.ifCond .ne 16, 3) := by decide +kernel
theorem dX7_put_11 : decode cX7_put 11 = .ok (.aload_n 0, 1) := by decide +kernel
theorem dX7_put_12 : decode cX7_put 12 = .ok (.iload_n 1, 1) := by decide +kernel
theorem dX7_put_13 : decode cX7_put 13 = .ok (.iload_n 2, 1) := by decide +kernel
theorem dX7_put_14 : decode cX7_put 14 = .ok (.invokevirtual 143, 3) := by decide +kernel
theorem dX7_put_17 : decode cX7_put 17 = .ok (.ifCond .eq 7, 3) := by decide +kernel
theorem dX7_put_20 : decode cX7_put 20 = .ok (.iconst 1, 1) := by decide +kernel
theorem dX7_put_21 : decode cX7_put 21 = .ok (.goto 4, 3) := by decide +kernel
theorem dX7_put_24 : decode cX7_put 24 = .ok (.iconst 0, 1) := by decide +kernel
theorem dX7_put_25 : decode cX7_put 25 = .ok (.istore 4, 2) := by decide +kernel
theorem dX7_put_27 : decode cX7_put 27 = .ok (.iload_n 3, 1) := by decide +kernel
theorem dX7_put_28 : decode cX7_put 28 = .ok (.ireturn, 1) := by decide +kernel
theorem dX7_take_0 : decode cX7_take 0 = .ok (.aload_n 0, 1) := by decide +kernel
theorem dX7_take_1 : decode cX7_take 1 = .ok (.iload_n 1, 1) := by decide +kernel
theorem dX7_take_2 : decode cX7_take 2 = .ok (.invokevirtual 98, 3) := by decide +kernel
theorem dX7_take_5 : decode cX7_take 5 = .ok (.ifCond .ne 5, 3) := by decide +kernel
theorem dX7_take_8 : decode cX7_take 8 = .ok (.iconst (-1), 1) := by decide +kernel
theorem dX7_take_9 : decode cX7_take 9 = .ok (.ireturn, 1) := by decide +kernel
theorem dX7_take_10 : decode cX7_take 10 = .ok (.aload_n 0, 1) := by decide +kernel
theorem dX7_take_11 : decode cX7_take 11 = .ok (.getfield 29, 3) := by decide +kernel
theorem dX7_take_14 : decode cX7_take 14 = .ok (.iload_n 1, 1) := by decide +kernel
theorem dX7_take_15 : decode cX7_take 15 = .ok (.iaload, 1) := by decide +kernel
theorem dX7_take_16 : decode cX7_take 16 = .ok (.istore_n 2, 1) := by decide +kernel
theorem dX7_take_17 : decode cX7_take 17 = .ok (.iload_n 2, 1) := by decide +kernel
theorem dX7_take_18 : decode cX7_take 18 = .ok (.iconst (-1), 1) := by decide +kernel
theorem dX7_take_19 : decode cX7_take 19 = .ok (.if_icmp .ne 6, 3) := by decide +kernel
theorem dX7_take_22 : decode cX7_take 22 = .ok (.bipush (-3), 2) := by decide +kernel
theorem dX7_take_24 : decode cX7_take 24 = .ok (.ireturn, 1) := by decide +kernel
theorem dX7_take_25 : decode cX7_take 25 = .ok (.aload_n 0, 1) := by decide +kernel
theorem dX7_take_26 : decode cX7_take 26 = .ok (.iload_n 1, 1) := by decide +kernel
theorem dX7_take_27 : decode cX7_take 27 = .ok (.invokevirtual 152, 3) := by decide +kernel
theorem dX7_take_30 : decode cX7_take 30 = .ok (.iload_n 2, 1) := by decide +kernel
theorem dX7_take_31 : decode cX7_take 31 = .ok (.ireturn, 1) := by decide +kernel
theorem dX7_tidy_0 : decode cX7_tidy 0 = .ok (.aload_n 0, 1) := by decide +kernel
theorem dX7_tidy_1 : decode cX7_tidy 1 = .ok (.iload_n 1, 1) := by decide +kernel
theorem dX7_tidy_2 : decode cX7_tidy 2 = .ok (.invokevirtual 106, 3) := by decide +kernel
theorem dX7_tidy_5 : decode cX7_tidy 5 = .ok (.ifCond .ne 5, 3) := by decide +kernel
theorem dX7_tidy_8 : decode cX7_tidy 8 = .ok (.iconst (-1), 1) := by decide +kernel
theorem dX7_tidy_9 : decode cX7_tidy 9 = .ok (.ireturn, 1) := by decide +kernel
theorem dX7_tidy_10 : decode cX7_tidy 10 = .ok (.aload_n 0, 1) := by decide +kernel
theorem dX7_tidy_11 : decode cX7_tidy 11 = .ok (.iload_n 1, 1) := by decide +kernel
theorem dX7_tidy_12 : decode cX7_tidy 12 = .ok (.invokevirtual 137, 3) := by decide +kernel
theorem dX7_tidy_15 : decode cX7_tidy 15 = .ok (.istore_n 2, 1) := by decide +kernel
theorem dX7_tidy_16 : decode cX7_tidy 16 = .ok (.aload_n 0, 1) := by decide +kernel
theorem dX7_tidy_17 : decode cX7_tidy 17 = .ok (.iload_n 1, 1) := by decide +kernel
theorem dX7_tidy_18 : decode cX7_tidy 18 = .ok (.invokevirtual 117, 3) := by decide +kernel
theorem dX7_tidy_21 : decode cX7_tidy 21 = .ok (.ireturn, 1) := by decide +kernel
theorem dX7_trades_0 : decode cX7_trades 0 = .ok (.iconst 0, 1) := by decide +kernel
theorem dX7_trades_1 : decode cX7_trades 1 = .ok (.istore_n 3, 1) := by decide +kernel
theorem dX7_trades_2 : decode cX7_trades 2 = .ok (.iload_n 3, 1) := by decide +kernel
theorem dX7_trades_3 : decode cX7_trades 3 = .ok (.iconst 5, 1) := by decide +kernel
theorem dX7_trades_4 : decode cX7_trades 4 = .ok (.if_icmp .ge 53, 3) := by decide +kernel
theorem dX7_trades_7 : decode cX7_trades 7 = .ok (.aload_n 0, 1) := by decide +kernel
theorem dX7_trades_8 : decode cX7_trades 8 = .ok (.getfield 53, 3) := by decide +kernel
theorem dX7_trades_11 : decode cX7_trades 11 = .ok (.iconst 5, 1) := by decide +kernel
theorem dX7_trades_12 : decode cX7_trades 12 = .ok (.iload_n 1, 1) := by decide +kernel
theorem dX7_trades_13 : decode cX7_trades 13 = .ok (.imul, 1) := by decide +kernel
theorem dX7_trades_14 : decode cX7_trades 14 = .ok (.iload_n 3, 1) := by decide +kernel
theorem dX7_trades_15 : decode cX7_trades 15 = .ok (.iadd, 1) := by decide +kernel
theorem dX7_trades_16 : decode cX7_trades 16 = .ok (.iaload, 1) := by decide +kernel
theorem dX7_trades_17 : decode cX7_trades 17 = .ok (.istore 4, 2) := by decide +kernel
theorem dX7_trades_19 : decode cX7_trades 19 = .ok (.aload_n 0, 1) := by decide +kernel
theorem dX7_trades_20 : decode cX7_trades 20 = .ok (.getfield 53, 3) := by decide +kernel
theorem dX7_trades_23 : decode cX7_trades 23 = .ok (.iconst 5, 1) := by decide +kernel
theorem dX7_trades_24 : decode cX7_trades 24 = .ok (.iload_n 1, 1) := by decide +kernel
theorem dX7_trades_25 : decode cX7_trades 25 = .ok (.imul, 1) := by decide +kernel
theorem dX7_trades_26 : decode cX7_trades 26 = .ok (.iload_n 3, 1) := by decide +kernel
theorem dX7_trades_27 : decode cX7_trades 27 = .ok (.iadd, 1) := by decide +kernel
theorem dX7_trades_28 : decode cX7_trades 28 = .ok (.aload_n 0, 1) := by decide +kernel
theorem dX7_trades_29 : decode cX7_trades 29 = .ok (.getfield 53, 3) := by decide +kernel
theorem dX7_trades_32 : decode cX7_trades 32 = .ok (.iconst 5, 1) := by decide +kernel
theorem dX7_trades_33 : decode cX7_trades 33 = .ok (.iload_n 2, 1) := by decide +kernel
theorem dX7_trades_34 : decode cX7_trades 34 = .ok (.imul, 1) := by decide +kernel
theorem dX7_trades_35 : decode cX7_trades 35 = .ok (.iload_n 3, 1) := by decide +kernel
theorem dX7_trades_36 : decode cX7_trades 36 = .ok (.iadd, 1) := by decide +kernel
theorem dX7_trades_37 : decode cX7_trades 37 = .ok (.iaload, 1) := by decide +kernel
theorem dX7_trades_38 : decode cX7_trades 38 = .ok (.iastore, 1) := by decide +kernel
theorem dX7_trades_39 : decode cX7_trades 39 = .ok (.aload_n 0, 1) := by decide +kernel
theorem dX7_trades_40 : decode cX7_trades 40 = .ok (.getfield 53, 3) := by decide +kernel
theorem dX7_trades_43 : decode cX7_trades 43 = .ok (.iconst 5, 1) := by decide +kernel
theorem dX7_trades_44 : decode cX7_trades 44 = .ok (.iload_n 2, 1) := by decide +kernel
theorem dX7_trades_45 : decode cX7_trades 45 = .ok (.imul, 1) := by decide +kernel
theorem dX7_trades_46 : decode cX7_trades 46 = .ok (.iload_n 3, 1) := by decide +kernel
theorem dX7_trades_47 : decode cX7_trades 47 = .ok (.iadd, 1) := by decide +kernel
theorem dX7_trades_48 : decode cX7_trades 48 = .ok (.iload 4, 2) := by decide +kernel
theorem dX7_trades_50 : decode cX7_trades 50 = .ok (.iastore, 1) := by decide +kernel
theorem dX7_trades_51 : decode cX7_trades 51 = .ok (.iinc 3 1, 3) := by decide +kernel
theorem dX7_trades_54 : decode cX7_trades 54 = .ok (.goto (-52), 3) := by decide +kernel
theorem dX7_trades_57 : decode cX7_trades 57 = .ok (.aload_n 0, 1) := by decide +kernel
theorem dX7_trades_58 : decode cX7_trades 58 = .ok (.getfield 50, 3) := by decide +kernel
theorem dX7_trades_61 : decode cX7_trades 61 = .ok (.iload_n 1, 1) := by decide +kernel
theorem dX7_trades_62 : decode cX7_trades 62 = .ok (.iaload, 1) := by decide +kernel
theorem dX7_trades_63 : decode cX7_trades 63 = .ok (.istore_n 3, 1) := by decide +kernel
theorem dX7_trades_64 : decode cX7_trades 64 = .ok (.aload_n 0, 1) := by decide +kernel
theorem dX7_trades_65 : decode cX7_trades 65 = .ok (.getfield 50, 3) := by decide +kernel
theorem dX7_trades_68 : decode cX7_trades 68 = .ok (.iload_n 1, 1) := by decide +kernel
theorem dX7_trades_69 : decode cX7_trades 69 = .ok (.aload_n 0, 1) := by decide +kernel
theorem dX7_trades_70 : decode cX7_trades 70 = .ok (.getfield 50, 3) := by decide +kernel
theorem dX7_trades_73 : decode cX7_trades 73 = .ok (.iload_n 2, 1) := by decide +kernel
theorem dX7_trades_74 : decode cX7_trades 74 = .ok (.iaload, 1) := by decide +kernel
theorem dX7_trades_75 : decode cX7_trades 75 = .ok (.iastore, 1) := by decide +kernel
theorem dX7_trades_76 : decode cX7_trades 76 = .ok (.aload_n 0, 1) := by decide +kernel
theorem dX7_trades_77 : decode cX7_trades 77 = .ok (.getfield 50, 3) := by decide +kernel
theorem dX7_trades_80 : decode cX7_trades 80 = .ok (.iload_n 2, 1) := by decide +kernel
theorem dX7_trades_81 : decode cX7_trades 81 = .ok (.iload_n 3, 1) := by decide +kernel
theorem dX7_trades_82 : decode cX7_trades 82 = .ok (.iastore, 1) := by decide +kernel
theorem dX7_trades_83 : decode cX7_trades 83 = .ok (.iconst 0, 1) := by decide +kernel
theorem dX7_trades_84 : decode cX7_trades 84 = .ok (.istore 4, 2) := by decide +kernel
theorem dX7_trades_86 : decode cX7_trades 86 = .ok (.iload 4, 2) := by decide +kernel
theorem dX7_trades_88 : decode cX7_trades 88 = .ok (.aload_n 0, 1) := by decide +kernel
theorem dX7_trades_89 : decode cX7_trades 89 = .ok (.getfield 84, 3) := by decide +kernel
theorem dX7_trades_92 : decode cX7_trades 92 = .ok (.if_icmp .ge 53, 3) := by decide +kernel
theorem dX7_trades_95 : decode cX7_trades 95 = .ok (.aload_n 0, 1) := by decide +kernel
theorem dX7_trades_96 : decode cX7_trades 96 = .ok (.getfield 29, 3) := by decide +kernel
theorem dX7_trades_99 : decode cX7_trades 99 = .ok (.iload 4, 2) := by decide +kernel
theorem dX7_trades_101 : decode cX7_trades 101 = .ok (.aload_n 0, 1) := by decide +kernel
theorem dX7_trades_102 : decode cX7_trades 102 = .ok (.getfield 29, 3) := by decide +kernel
theorem dX7_trades_105 : decode cX7_trades 105 = .ok (.iload 4, 2) := by decide +kernel
theorem dX7_trades_107 : decode cX7_trades 107 = .ok (.iaload, 1) := by decide +kernel
theorem dX7_trades_108 : decode cX7_trades 108 = .ok (.iload_n 1, 1) := by decide +kernel
theorem dX7_trades_109 : decode cX7_trades 109 = .ok (.if_icmp .ne 7, 3) := by decide +kernel
theorem dX7_trades_112 : decode cX7_trades 112 = .ok (.iload_n 2, 1) := by decide +kernel
theorem dX7_trades_113 : decode cX7_trades 113 = .ok (.goto 25, 3) := by decide +kernel
theorem dX7_trades_116 : decode cX7_trades 116 = .ok (.aload_n 0, 1) := by decide +kernel
theorem dX7_trades_117 : decode cX7_trades 117 = .ok (.getfield 29, 3) := by decide +kernel
theorem dX7_trades_120 : decode cX7_trades 120 = .ok (.iload 4, 2) := by decide +kernel
theorem dX7_trades_122 : decode cX7_trades 122 = .ok (.iaload, 1) := by decide +kernel
theorem dX7_trades_123 : decode cX7_trades 123 = .ok (.iload_n 2, 1) := by decide +kernel
theorem dX7_trades_124 : decode cX7_trades 124 = .ok (.if_icmp .ne 7, 3) := by decide +kernel
theorem dX7_trades_127 : decode cX7_trades 127 = .ok (.iload_n 1, 1) := by decide +kernel
theorem dX7_trades_128 : decode cX7_trades 128 = .ok (.goto 10, 3) := by decide +kernel
theorem dX7_trades_131 : decode cX7_trades 131 = .ok (.aload_n 0, 1) := by decide +kernel
theorem dX7_trades_132 : decode cX7_trades 132 = .ok (.getfield 29, 3) := by decide +kernel
theorem dX7_trades_135 : decode cX7_trades 135 = .ok (.iload 4, 2) := by decide +kernel
theorem dX7_trades_137 : decode cX7_trades 137 = .ok (.iaload, 1) := by decide +kernel
theorem dX7_trades_138 : decode cX7_trades 138 = .ok (.iastore, 1) := by decide +kernel
theorem dX7_trades_139 : decode cX7_trades 139 = .ok (.iinc 4 1, 3) := by decide +kernel
theorem dX7_trades_142 : decode cX7_trades 142 = .ok (.goto (-56), 3) := by decide +kernel
theorem dX7_trades_145 : decode cX7_trades 145 = .ok (.return_, 1) := by decide +kernel
theorem dX7_trade_0 : decode cX7_trade 0 = .ok (.aload_n 0, 1) := by decide +kernel
theorem dX7_trade_1 : decode cX7_trade 1 = .ok (.iload_n 1, 1) := by decide +kernel
theorem dX7_trade_2 : decode cX7_trade 2 = .ok (.invokevirtual 106, 3) := by decide +kernel
theorem dX7_trade_5 : decode cX7_trade 5 = .ok (.ifCond .eq 11, 3) := by decide +kernel
theorem dX7_trade_8 : decode cX7_trade 8 = .ok (.aload_n 0, 1) := by decide +kernel
theorem dX7_trade_9 : decode cX7_trade 9 = .ok (.iload_n 2, 1) := by decide +kernel
theorem dX7_trade_10 : decode cX7_trade 10 = .ok (.invokevirtual 106, 3) := by decide +kernel
theorem dX7_trade_13 : decode cX7_trade 13 = .ok (.ifCond .ne 5, 3) := by decide +kernel
theorem dX7_trade_16 : decode cX7_trade 16 = .ok (.iconst (-1), 1) := by decide +kernel
theorem dX7_trade_17 : decode cX7_trade 17 = .ok (.ireturn, 1) := by decide +kernel
theorem dX7_trade_18 : decode cX7_trade 18 = .ok (.iload_n 1, 1) := by decide +kernel
theorem dX7_trade_19 : decode cX7_trade 19 = .ok (.iload_n 2, 1) := by decide +kernel
theorem dX7_trade_20 : decode cX7_trade 20 = .ok (.if_icmp .ne 6, 3) := by decide +kernel
theorem dX7_trade_23 : decode cX7_trade 23 = .ok (.bipush (-2), 2) := by decide +kernel
theorem dX7_trade_25 : decode cX7_trade 25 = .ok (.ireturn, 1) := by decide +kernel
theorem dX7_trade_26 : decode cX7_trade 26 = .ok (.aload_n 0, 1) := by decide +kernel
theorem dX7_trade_27 : decode cX7_trade 27 = .ok (.iload_n 1, 1) := by decide +kernel
theorem dX7_trade_28 : decode cX7_trade 28 = .ok (.iload_n 2, 1) := by decide +kernel
theorem dX7_trade_29 : decode cX7_trade 29 = .ok (.invokevirtual 156, 3) := by decide +kernel
theorem dX7_trade_32 : decode cX7_trade 32 = .ok (.aload_n 0, 1) := by decide +kernel
theorem dX7_trade_33 : decode cX7_trade 33 = .ok (.invokevirtual 94, 3) := by decide +kernel
theorem dX7_trade_36 : decode cX7_trade 36 = .ok (.ifCond .eq 8, 3) := by decide +kernel
theorem dX7_trade_39 : decode cX7_trade 39 = .ok (.aload_n 0, 1) := by decide +kernel
theorem dX7_trade_40 : decode cX7_trade 40 = .ok (.invokevirtual 160, 3) := by decide +kernel
theorem dX7_trade_43 : decode cX7_trade 43 = .ok (.ireturn, 1) := by decide +kernel
theorem dX7_trade_44 : decode cX7_trade 44 = .ok (.aload_n 0, 1) := by decide +kernel
theorem dX7_trade_45 : decode cX7_trade 45 = .ok (.iload_n 1, 1) := by decide +kernel
theorem dX7_trade_46 : decode cX7_trade 46 = .ok (.iload_n 2, 1) := by decide +kernel
theorem dX7_trade_47 : decode cX7_trade 47 = .ok (.invokevirtual 156, 3) := by decide +kernel
theorem dX7_trade_50 : decode cX7_trade 50 = .ok (.bipush (-3), 2) := by decide +kernel
theorem dX7_trade_52 : decode cX7_trade 52 = .ok (.ireturn, 1) := by decide +kernel
theorem dX7_plays_0 : decode cX7_plays 0 = .ok (.iconst 0, 1) := by decide +kernel
theorem dX7_plays_1 : decode cX7_plays 1 = .ok (.istore_n 3, 1) := by decide +kernel
theorem dX7_plays_2 : decode cX7_plays 2 = .ok (.iload_n 3, 1) := by decide +kernel
theorem dX7_plays_3 : decode cX7_plays 3 = .ok (.aload_n 0, 1) := by decide +kernel
theorem dX7_plays_4 : decode cX7_plays 4 = .ok (.getfield 50, 3) := by decide +kernel
theorem dX7_plays_7 : decode cX7_plays 7 = .ok (.iload_n 2, 1) := by decide +kernel
theorem dX7_plays_8 : decode cX7_plays 8 = .ok (.iaload, 1) := by decide +kernel
theorem dX7_plays_9 : decode cX7_plays 9 = .ok (.if_icmp .ge 34, 3) := by decide +kernel
theorem dX7_plays_12 : decode cX7_plays 12 = .ok (.aload_n 0, 1) := by decide +kernel
theorem dX7_plays_13 : decode cX7_plays 13 = .ok (.getfield 23, 3) := by decide +kernel
theorem dX7_plays_16 : decode cX7_plays 16 = .ok (.aload_n 0, 1) := by decide +kernel
theorem dX7_plays_17 : decode cX7_plays 17 = .ok (.getfield 53, 3) := by decide +kernel
theorem dX7_plays_20 : decode cX7_plays 20 = .ok (.iconst 5, 1) := by decide +kernel
theorem dX7_plays_21 : decode cX7_plays 21 = .ok (.iload_n 2, 1) := by decide +kernel
theorem dX7_plays_22 : decode cX7_plays 22 = .ok (.imul, 1) := by decide +kernel
theorem dX7_plays_23 : decode cX7_plays 23 = .ok (.iload_n 3, 1) := by decide +kernel
theorem dX7_plays_24 : decode cX7_plays 24 = .ok (.iadd, 1) := by decide +kernel
theorem dX7_plays_25 : decode cX7_plays 25 = .ok (.iaload, 1) := by decide +kernel
theorem dX7_plays_26 : decode cX7_plays 26 = .ok (.iaload, 1) := by decide +kernel
theorem dX7_plays_27 : decode cX7_plays 27 = .ok (.iload_n 1, 1) := by decide +kernel
theorem dX7_plays_28 : decode cX7_plays 28 = .ok (.ishr, 1) := by decide +kernel
theorem dX7_plays_29 : decode cX7_plays 29 = .ok (.iconst 1, 1) := by decide +kernel
theorem dX7_plays_30 : decode cX7_plays 30 = .ok (.iand, 1) := by decide +kernel
theorem dX7_plays_31 : decode cX7_plays 31 = .ok (.iconst 1, 1) := by decide +kernel
theorem dX7_plays_32 : decode cX7_plays 32 = .ok (.if_icmp .ne 5, 3) := by decide +kernel
theorem dX7_plays_35 : decode cX7_plays 35 = .ok (.iconst 1, 1) := by decide +kernel
theorem dX7_plays_36 : decode cX7_plays 36 = .ok (.ireturn, 1) := by decide +kernel
theorem dX7_plays_37 : decode cX7_plays 37 = .ok (.iinc 3 1, 3) := by decide +kernel
theorem dX7_plays_40 : decode cX7_plays 40 = .ok (.goto (-38), 3) := by decide +kernel
theorem dX7_plays_43 : decode cX7_plays 43 = .ok (.iconst 0, 1) := by decide +kernel
theorem dX7_plays_44 : decode cX7_plays 44 = .ok (.ireturn, 1) := by decide +kernel
theorem dX7_edge_0 : decode cX7_edge 0 = .ok (.iconst (-1), 1) := by decide +kernel
theorem dX7_edge_1 : decode cX7_edge 1 = .ok (.istore_n 3, 1) := by decide +kernel
theorem dX7_edge_2 : decode cX7_edge 2 = .ok (.iconst 0, 1) := by decide +kernel
theorem dX7_edge_3 : decode cX7_edge 3 = .ok (.istore 4, 2) := by decide +kernel
theorem dX7_edge_5 : decode cX7_edge 5 = .ok (.iload 4, 2) := by decide +kernel
theorem dX7_edge_7 : decode cX7_edge 7 = .ok (.aload_n 0, 1) := by decide +kernel
theorem dX7_edge_8 : decode cX7_edge 8 = .ok (.getfield 91, 3) := by decide +kernel
theorem dX7_edge_11 : decode cX7_edge 11 = .ok (.if_icmp .ge 31, 3) := by decide +kernel
theorem dX7_edge_14 : decode cX7_edge 14 = .ok (.aload_n 0, 1) := by decide +kernel
theorem dX7_edge_15 : decode cX7_edge 15 = .ok (.iload_n 1, 1) := by decide +kernel
theorem dX7_edge_16 : decode cX7_edge 16 = .ok (.iload 4, 2) := by decide +kernel
theorem dX7_edge_18 : decode cX7_edge 18 = .ok (.invokevirtual 164, 3) := by decide +kernel
theorem dX7_edge_21 : decode cX7_edge 21 = .ok (.ifCond .eq 15, 3) := by decide +kernel
theorem dX7_edge_24 : decode cX7_edge 24 = .ok (.iload_n 2, 1) := by decide +kernel
theorem dX7_edge_25 : decode cX7_edge 25 = .ok (.ifCond .ne 8, 3) := by decide +kernel
theorem dX7_edge_28 : decode cX7_edge 28 = .ok (.iload_n 3, 1) := by decide +kernel
theorem dX7_edge_29 : decode cX7_edge 29 = .ok (.iconst (-1), 1) := by decide +kernel
theorem dX7_edge_30 : decode cX7_edge 30 = .ok (.if_icmp .ne 6, 3) := by decide +kernel
theorem dX7_edge_33 : decode cX7_edge 33 = .ok (.iload 4, 2) := by decide +kernel
theorem dX7_edge_35 : decode cX7_edge 35 = .ok (.istore_n 3, 1) := by decide +kernel
theorem dX7_edge_36 : decode cX7_edge 36 = .ok (.iinc 4 1, 3) := by decide +kernel
theorem dX7_edge_39 : decode cX7_edge 39 = .ok (.goto (-34), 3) := by decide +kernel
theorem dX7_edge_42 : decode cX7_edge 42 = .ok (.iload_n 3, 1) := by decide +kernel
theorem dX7_edge_43 : decode cX7_edge 43 = .ok (.ireturn, 1) := by decide +kernel
theorem dX7_daysOf_0 : decode cX7_daysOf 0 = .ok (.iconst 0, 1) := by decide +kernel
theorem dX7_daysOf_1 : decode cX7_daysOf 1 = .ok (.istore_n 2, 1) := by decide +kernel
theorem dX7_daysOf_2 : decode cX7_daysOf 2 = .ok (.iconst 0, 1) := by decide +kernel
theorem dX7_daysOf_3 : decode cX7_daysOf 3 = .ok (.istore_n 3, 1) := by decide +kernel
theorem dX7_daysOf_4 : decode cX7_daysOf 4 = .ok (.iload_n 3, 1) := by decide +kernel
theorem dX7_daysOf_5 : decode cX7_daysOf 5 = .ok (.aload_n 0, 1) := by decide +kernel
theorem dX7_daysOf_6 : decode cX7_daysOf 6 = .ok (.getfield 91, 3) := by decide +kernel
theorem dX7_daysOf_9 : decode cX7_daysOf 9 = .ok (.if_icmp .ge 26, 3) := by decide +kernel
theorem dX7_daysOf_12 : decode cX7_daysOf 12 = .ok (.iload_n 2, 1) := by decide +kernel
theorem dX7_daysOf_13 : decode cX7_daysOf 13 = .ok (.aload_n 0, 1) := by decide +kernel
theorem dX7_daysOf_14 : decode cX7_daysOf 14 = .ok (.iload_n 1, 1) := by decide +kernel
theorem dX7_daysOf_15 : decode cX7_daysOf 15 = .ok (.iload_n 3, 1) := by decide +kernel
theorem dX7_daysOf_16 : decode cX7_daysOf 16 = .ok (.invokevirtual 164, 3) := by decide +kernel
theorem dX7_daysOf_19 : decode cX7_daysOf 19 = .ok (.ifCond .eq 7, 3) := by decide +kernel
theorem dX7_daysOf_22 : decode cX7_daysOf 22 = .ok (.iconst 1, 1) := by decide +kernel
theorem dX7_daysOf_23 : decode cX7_daysOf 23 = .ok (.goto 4, 3) := by decide +kernel
theorem dX7_daysOf_26 : decode cX7_daysOf 26 = .ok (.iconst 0, 1) := by decide +kernel
theorem dX7_daysOf_27 : decode cX7_daysOf 27 = .ok (.iadd, 1) := by decide +kernel
theorem dX7_daysOf_28 : decode cX7_daysOf 28 = .ok (.istore_n 2, 1) := by decide +kernel
theorem dX7_daysOf_29 : decode cX7_daysOf 29 = .ok (.iinc 3 1, 3) := by decide +kernel
theorem dX7_daysOf_32 : decode cX7_daysOf 32 = .ok (.goto (-28), 3) := by decide +kernel
theorem dX7_daysOf_35 : decode cX7_daysOf 35 = .ok (.iload_n 2, 1) := by decide +kernel
theorem dX7_daysOf_36 : decode cX7_daysOf 36 = .ok (.ireturn, 1) := by decide +kernel
theorem dX7_paid_0 : decode cX7_paid 0 = .ok (.iconst 0, 1) := by decide +kernel
theorem dX7_paid_1 : decode cX7_paid 1 = .ok (.istore_n 2, 1) := by decide +kernel
theorem dX7_paid_2 : decode cX7_paid 2 = .ok (.iconst 0, 1) := by decide +kernel
theorem dX7_paid_3 : decode cX7_paid 3 = .ok (.istore_n 3, 1) := by decide +kernel
theorem dX7_paid_4 : decode cX7_paid 4 = .ok (.aload_n 0, 1) := by decide +kernel
theorem dX7_paid_5 : decode cX7_paid 5 = .ok (.iload_n 1, 1) := by decide +kernel
theorem dX7_paid_6 : decode cX7_paid 6 = .ok (.iconst 0, 1) := by decide +kernel
theorem dX7_paid_7 : decode cX7_paid 7 = .ok (.invokevirtual 167, 3) := by decide +kernel
theorem dX7_paid_10 : decode cX7_paid 10 = .ok (.istore 4, 2) := by decide +kernel
theorem dX7_paid_12 : decode cX7_paid 12 = .ok (.iload 4, 2) := by decide +kernel
theorem dX7_paid_14 : decode cX7_paid 14 = .ok (.istore 5, 2) := by decide +kernel
theorem dX7_paid_16 : decode cX7_paid 16 = .ok (.iload 5, 2) := by decide +kernel
theorem dX7_paid_18 : decode cX7_paid 18 = .ok (.iconst (-1), 1) := by decide +kernel
theorem dX7_paid_19 : decode cX7_paid 19 = .ok (.if_icmp .eq 67, 3) := by decide +kernel
theorem dX7_paid_22 : decode cX7_paid 22 = .ok (.iload 5, 2) := by decide +kernel
theorem dX7_paid_24 : decode cX7_paid 24 = .ok (.aload_n 0, 1) := by decide +kernel
theorem dX7_paid_25 : decode cX7_paid 25 = .ok (.iload_n 1, 1) := by decide +kernel
theorem dX7_paid_26 : decode cX7_paid 26 = .ok (.iconst 1, 1) := by decide +kernel
theorem dX7_paid_27 : decode cX7_paid 27 = .ok (.invokevirtual 167, 3) := by decide +kernel
theorem dX7_paid_30 : decode cX7_paid 30 = .ok (.if_icmp .gt 56, 3) := by decide +kernel
theorem dX7_paid_33 : decode cX7_paid 33 = .ok (.aload_n 0, 1) := by decide +kernel
theorem dX7_paid_34 : decode cX7_paid 34 = .ok (.iload_n 1, 1) := by decide +kernel
theorem dX7_paid_35 : decode cX7_paid 35 = .ok (.iload 5, 2) := by decide +kernel
theorem dX7_paid_37 : decode cX7_paid 37 = .ok (.invokevirtual 164, 3) := by decide +kernel
theorem dX7_paid_40 : decode cX7_paid 40 = .ok (.ifCond .ne 9, 3) := by decide +kernel
theorem dX7_paid_43 : decode cX7_paid 43 = .ok (.iinc 3 1, 3) := by decide +kernel
theorem dX7_paid_46 : decode cX7_paid 46 = .ok (.goto 34, 3) := by decide +kernel
theorem dX7_paid_49 : decode cX7_paid 49 = .ok (.iload_n 2, 1) := by decide +kernel
theorem dX7_paid_50 : decode cX7_paid 50 = .ok (.iconst 1, 1) := by decide +kernel
theorem dX7_paid_51 : decode cX7_paid 51 = .ok (.aload_n 0, 1) := by decide +kernel
theorem dX7_paid_52 : decode cX7_paid 52 = .ok (.getfield 35, 3) := by decide +kernel
theorem dX7_paid_55 : decode cX7_paid 55 = .ok (.iload_n 1, 1) := by decide +kernel
theorem dX7_paid_56 : decode cX7_paid 56 = .ok (.iaload, 1) := by decide +kernel
theorem dX7_paid_57 : decode cX7_paid 57 = .ok (.ifCond .le 17, 3) := by decide +kernel
theorem dX7_paid_60 : decode cX7_paid 60 = .ok (.iload_n 3, 1) := by decide +kernel
theorem dX7_paid_61 : decode cX7_paid 61 = .ok (.aload_n 0, 1) := by decide +kernel
theorem dX7_paid_62 : decode cX7_paid 62 = .ok (.getfield 35, 3) := by decide +kernel
theorem dX7_paid_65 : decode cX7_paid 65 = .ok (.iload_n 1, 1) := by decide +kernel
theorem dX7_paid_66 : decode cX7_paid 66 = .ok (.iaload, 1) := by decide +kernel
theorem dX7_paid_67 : decode cX7_paid 67 = .ok (.if_icmp .lt 7, 3) := by decide +kernel
theorem dX7_paid_70 : decode cX7_paid 70 = .ok (.iconst 0, 1) := by decide +kernel
theorem dX7_paid_71 : decode cX7_paid 71 = .ok (.goto 4, 3) := by decide +kernel
theorem dX7_paid_74 : decode cX7_paid 74 = .ok (.iload_n 3, 1) := by decide +kernel
theorem dX7_paid_75 : decode cX7_paid 75 = .ok (.iadd, 1) := by decide +kernel
theorem dX7_paid_76 : decode cX7_paid 76 = .ok (.iadd, 1) := by decide +kernel
theorem dX7_paid_77 : decode cX7_paid 77 = .ok (.istore_n 2, 1) := by decide +kernel
theorem dX7_paid_78 : decode cX7_paid 78 = .ok (.iconst 0, 1) := by decide +kernel
theorem dX7_paid_79 : decode cX7_paid 79 = .ok (.istore_n 3, 1) := by decide +kernel
theorem dX7_paid_80 : decode cX7_paid 80 = .ok (.iinc 5 1, 3) := by decide +kernel
theorem dX7_paid_83 : decode cX7_paid 83 = .ok (.goto (-67), 3) := by decide +kernel
theorem dX7_paid_86 : decode cX7_paid 86 = .ok (.iload_n 2, 1) := by decide +kernel
theorem dX7_paid_87 : decode cX7_paid 87 = .ok (.ireturn, 1) := by decide +kernel
theorem dX7_payAll_0 : decode cX7_payAll 0 = .ok (.iconst 0, 1) := by decide +kernel
theorem dX7_payAll_1 : decode cX7_payAll 1 = .ok (.istore_n 1, 1) := by decide +kernel
theorem dX7_payAll_2 : decode cX7_payAll 2 = .ok (.iconst 0, 1) := by decide +kernel
theorem dX7_payAll_3 : decode cX7_payAll 3 = .ok (.istore_n 2, 1) := by decide +kernel
theorem dX7_payAll_4 : decode cX7_payAll 4 = .ok (.iload_n 2, 1) := by decide +kernel
theorem dX7_payAll_5 : decode cX7_payAll 5 = .ok (.bipush 8, 2) := by decide +kernel
theorem dX7_payAll_7 : decode cX7_payAll 7 = .ok (.if_icmp .ge 24, 3) := by decide +kernel
theorem dX7_payAll_10 : decode cX7_payAll 10 = .ok (.iload_n 1, 1) := by decide +kernel
theorem dX7_payAll_11 : decode cX7_payAll 11 = .ok (.aload_n 0, 1) := by decide +kernel
theorem dX7_payAll_12 : decode cX7_payAll 12 = .ok (.getfield 32, 3) := by decide +kernel
theorem dX7_payAll_15 : decode cX7_payAll 15 = .ok (.iload_n 2, 1) := by decide +kernel
theorem dX7_payAll_16 : decode cX7_payAll 16 = .ok (.iaload, 1) := by decide +kernel
theorem dX7_payAll_17 : decode cX7_payAll 17 = .ok (.aload_n 0, 1) := by decide +kernel
theorem dX7_payAll_18 : decode cX7_payAll 18 = .ok (.iload_n 2, 1) := by decide +kernel
theorem dX7_payAll_19 : decode cX7_payAll 19 = .ok (.invokevirtual 171, 3) := by decide +kernel
theorem dX7_payAll_22 : decode cX7_payAll 22 = .ok (.imul, 1) := by decide +kernel
theorem dX7_payAll_23 : decode cX7_payAll 23 = .ok (.iadd, 1) := by decide +kernel
theorem dX7_payAll_24 : decode cX7_payAll 24 = .ok (.istore_n 1, 1) := by decide +kernel
theorem dX7_payAll_25 : decode cX7_payAll 25 = .ok (.iinc 2 1, 3) := by decide +kernel
theorem dX7_payAll_28 : decode cX7_payAll 28 = .ok (.goto (-24), 3) := by decide +kernel
theorem dX7_payAll_31 : decode cX7_payAll 31 = .ok (.iload_n 1, 1) := by decide +kernel
theorem dX7_payAll_32 : decode cX7_payAll 32 = .ok (.ireturn, 1) := by decide +kernel
theorem dX7_uses_0 : decode cX7_uses 0 = .ok (.iconst 0, 1) := by decide +kernel
theorem dX7_uses_1 : decode cX7_uses 1 = .ok (.istore_n 3, 1) := by decide +kernel
theorem dX7_uses_2 : decode cX7_uses 2 = .ok (.iload_n 3, 1) := by decide +kernel
theorem dX7_uses_3 : decode cX7_uses 3 = .ok (.aload_n 0, 1) := by decide +kernel
theorem dX7_uses_4 : decode cX7_uses 4 = .ok (.getfield 50, 3) := by decide +kernel
theorem dX7_uses_7 : decode cX7_uses 7 = .ok (.iload_n 1, 1) := by decide +kernel
theorem dX7_uses_8 : decode cX7_uses 8 = .ok (.iaload, 1) := by decide +kernel
theorem dX7_uses_9 : decode cX7_uses 9 = .ok (.if_icmp .ge 30, 3) := by decide +kernel
theorem dX7_uses_12 : decode cX7_uses 12 = .ok (.aload_n 0, 1) := by decide +kernel
theorem dX7_uses_13 : decode cX7_uses 13 = .ok (.getfield 13, 3) := by decide +kernel
theorem dX7_uses_16 : decode cX7_uses 16 = .ok (.aload_n 0, 1) := by decide +kernel
theorem dX7_uses_17 : decode cX7_uses 17 = .ok (.getfield 53, 3) := by decide +kernel
theorem dX7_uses_20 : decode cX7_uses 20 = .ok (.iconst 5, 1) := by decide +kernel
theorem dX7_uses_21 : decode cX7_uses 21 = .ok (.iload_n 1, 1) := by decide +kernel
theorem dX7_uses_22 : decode cX7_uses 22 = .ok (.imul, 1) := by decide +kernel
theorem dX7_uses_23 : decode cX7_uses 23 = .ok (.iload_n 3, 1) := by decide +kernel
theorem dX7_uses_24 : decode cX7_uses 24 = .ok (.iadd, 1) := by decide +kernel
theorem dX7_uses_25 : decode cX7_uses 25 = .ok (.iaload, 1) := by decide +kernel
theorem dX7_uses_26 : decode cX7_uses 26 = .ok (.iaload, 1) := by decide +kernel
theorem dX7_uses_27 : decode cX7_uses 27 = .ok (.iload_n 2, 1) := by decide +kernel
theorem dX7_uses_28 : decode cX7_uses 28 = .ok (.if_icmp .ne 5, 3) := by decide +kernel
theorem dX7_uses_31 : decode cX7_uses 31 = .ok (.iconst 1, 1) := by decide +kernel
theorem dX7_uses_32 : decode cX7_uses 32 = .ok (.ireturn, 1) := by decide +kernel
theorem dX7_uses_33 : decode cX7_uses 33 = .ok (.iinc 3 1, 3) := by decide +kernel
theorem dX7_uses_36 : decode cX7_uses 36 = .ok (.goto (-34), 3) := by decide +kernel
theorem dX7_uses_39 : decode cX7_uses 39 = .ok (.iconst 0, 1) := by decide +kernel
theorem dX7_uses_40 : decode cX7_uses 40 = .ok (.ireturn, 1) := by decide +kernel
theorem dX7_rentAll_0 : decode cX7_rentAll 0 = .ok (.iconst 0, 1) := by decide +kernel
theorem dX7_rentAll_1 : decode cX7_rentAll 1 = .ok (.istore_n 1, 1) := by decide +kernel
theorem dX7_rentAll_2 : decode cX7_rentAll 2 = .ok (.iconst 0, 1) := by decide +kernel
theorem dX7_rentAll_3 : decode cX7_rentAll 3 = .ok (.istore_n 2, 1) := by decide +kernel
theorem dX7_rentAll_4 : decode cX7_rentAll 4 = .ok (.iload_n 2, 1) := by decide +kernel
theorem dX7_rentAll_5 : decode cX7_rentAll 5 = .ok (.aload_n 0, 1) := by decide +kernel
theorem dX7_rentAll_6 : decode cX7_rentAll 6 = .ok (.getfield 91, 3) := by decide +kernel
theorem dX7_rentAll_9 : decode cX7_rentAll 9 = .ok (.if_icmp .ge 45, 3) := by decide +kernel
theorem dX7_rentAll_12 : decode cX7_rentAll 12 = .ok (.iconst 0, 1) := by decide +kernel
theorem dX7_rentAll_13 : decode cX7_rentAll 13 = .ok (.istore_n 3, 1) := by decide +kernel
theorem dX7_rentAll_14 : decode cX7_rentAll 14 = .ok (.iload_n 3, 1) := by decide +kernel
theorem dX7_rentAll_15 : decode cX7_rentAll 15 = .ok (.bipush 8, 2) := by decide +kernel
theorem dX7_rentAll_17 : decode cX7_rentAll 17 = .ok (.if_icmp .ge 31, 3) := by decide +kernel
theorem dX7_rentAll_20 : decode cX7_rentAll 20 = .ok (.iload_n 1, 1) := by decide +kernel
theorem dX7_rentAll_21 : decode cX7_rentAll 21 = .ok (.aload_n 0, 1) := by decide +kernel
theorem dX7_rentAll_22 : decode cX7_rentAll 22 = .ok (.iload_n 2, 1) := by decide +kernel
theorem dX7_rentAll_23 : decode cX7_rentAll 23 = .ok (.iload_n 3, 1) := by decide +kernel
theorem dX7_rentAll_24 : decode cX7_rentAll 24 = .ok (.invokevirtual 174, 3) := by decide +kernel
theorem dX7_rentAll_27 : decode cX7_rentAll 27 = .ok (.ifCond .eq 12, 3) := by decide +kernel
theorem dX7_rentAll_30 : decode cX7_rentAll 30 = .ok (.aload_n 0, 1) := by decide +kernel
theorem dX7_rentAll_31 : decode cX7_rentAll 31 = .ok (.getfield 38, 3) := by decide +kernel
theorem dX7_rentAll_34 : decode cX7_rentAll 34 = .ok (.iload_n 3, 1) := by decide +kernel
theorem dX7_rentAll_35 : decode cX7_rentAll 35 = .ok (.iaload, 1) := by decide +kernel
theorem dX7_rentAll_36 : decode cX7_rentAll 36 = .ok (.goto 4, 3) := by decide +kernel
theorem dX7_rentAll_39 : decode cX7_rentAll 39 = .ok (.iconst 0, 1) := by decide +kernel
theorem dX7_rentAll_40 : decode cX7_rentAll 40 = .ok (.iadd, 1) := by decide +kernel
theorem dX7_rentAll_41 : decode cX7_rentAll 41 = .ok (.istore_n 1, 1) := by decide +kernel
theorem dX7_rentAll_42 : decode cX7_rentAll 42 = .ok (.iinc 3 1, 3) := by decide +kernel
theorem dX7_rentAll_45 : decode cX7_rentAll 45 = .ok (.goto (-31), 3) := by decide +kernel
theorem dX7_rentAll_48 : decode cX7_rentAll 48 = .ok (.iinc 2 1, 3) := by decide +kernel
theorem dX7_rentAll_51 : decode cX7_rentAll 51 = .ok (.goto (-47), 3) := by decide +kernel
theorem dX7_rentAll_54 : decode cX7_rentAll 54 = .ok (.iload_n 1, 1) := by decide +kernel
theorem dX7_rentAll_55 : decode cX7_rentAll 55 = .ok (.ireturn, 1) := by decide +kernel
theorem dX7_over_0 : decode cX7_over 0 = .ok (.aload_n 0, 1) := by decide +kernel
theorem dX7_over_1 : decode cX7_over 1 = .ok (.iload_n 1, 1) := by decide +kernel
theorem dX7_over_2 : decode cX7_over 2 = .ok (.invokevirtual 117, 3) := by decide +kernel
theorem dX7_over_5 : decode cX7_over 5 = .ok (.sipush 480, 3) := by decide +kernel
theorem dX7_over_8 : decode cX7_over 8 = .ok (.if_icmp .gt 7, 3) := by decide +kernel
theorem dX7_over_11 : decode cX7_over 11 = .ok (.iconst 0, 1) := by decide +kernel
theorem dX7_over_12 : decode cX7_over 12 = .ok (.goto 18, 3) := by decide +kernel
theorem dX7_over_15 : decode cX7_over 15 = .ok (.aload_n 0, 1) := by decide +kernel
theorem dX7_over_16 : decode cX7_over 16 = .ok (.iload_n 1, 1) := by decide +kernel
theorem dX7_over_17 : decode cX7_over 17 = .ok (.invokevirtual 117, 3) := by decide +kernel
theorem dX7_over_20 : decode cX7_over 20 = .ok (.sipush 480, 3) := by decide +kernel
theorem dX7_over_23 : decode cX7_over 23 = .ok (.isub, 1) := by decide +kernel
theorem dX7_over_24 : decode cX7_over 24 = .ok (.bipush 29, 2) := by decide +kernel
theorem dX7_over_26 : decode cX7_over 26 = .ok (.iadd, 1) := by decide +kernel
theorem dX7_over_27 : decode cX7_over 27 = .ok (.bipush 30, 2) := by decide +kernel
theorem dX7_over_29 : decode cX7_over 29 = .ok (.idiv, 1) := by decide +kernel
theorem dX7_over_30 : decode cX7_over 30 = .ok (.ireturn, 1) := by decide +kernel
theorem dX7_overAll_0 : decode cX7_overAll 0 = .ok (.iconst 0, 1) := by decide +kernel
theorem dX7_overAll_1 : decode cX7_overAll 1 = .ok (.istore_n 1, 1) := by decide +kernel
theorem dX7_overAll_2 : decode cX7_overAll 2 = .ok (.iconst 0, 1) := by decide +kernel
theorem dX7_overAll_3 : decode cX7_overAll 3 = .ok (.istore_n 2, 1) := by decide +kernel
theorem dX7_overAll_4 : decode cX7_overAll 4 = .ok (.iload_n 2, 1) := by decide +kernel
theorem dX7_overAll_5 : decode cX7_overAll 5 = .ok (.aload_n 0, 1) := by decide +kernel
theorem dX7_overAll_6 : decode cX7_overAll 6 = .ok (.getfield 91, 3) := by decide +kernel
theorem dX7_overAll_9 : decode cX7_overAll 9 = .ok (.if_icmp .ge 20, 3) := by decide +kernel
theorem dX7_overAll_12 : decode cX7_overAll 12 = .ok (.iload_n 1, 1) := by decide +kernel
theorem dX7_overAll_13 : decode cX7_overAll 13 = .ok (.bipush 50, 2) := by decide +kernel
theorem dX7_overAll_15 : decode cX7_overAll 15 = .ok (.aload_n 0, 1) := by decide +kernel
theorem dX7_overAll_16 : decode cX7_overAll 16 = .ok (.iload_n 2, 1) := by decide +kernel
theorem dX7_overAll_17 : decode cX7_overAll 17 = .ok (.invokevirtual 177, 3) := by decide +kernel
theorem dX7_overAll_20 : decode cX7_overAll 20 = .ok (.imul, 1) := by decide +kernel
theorem dX7_overAll_21 : decode cX7_overAll 21 = .ok (.iadd, 1) := by decide +kernel
theorem dX7_overAll_22 : decode cX7_overAll 22 = .ok (.istore_n 1, 1) := by decide +kernel
theorem dX7_overAll_23 : decode cX7_overAll 23 = .ok (.iinc 2 1, 3) := by decide +kernel
theorem dX7_overAll_26 : decode cX7_overAll 26 = .ok (.goto (-22), 3) := by decide +kernel
theorem dX7_overAll_29 : decode cX7_overAll 29 = .ok (.iload_n 1, 1) := by decide +kernel
theorem dX7_overAll_30 : decode cX7_overAll 30 = .ok (.ireturn, 1) := by decide +kernel
theorem dX7_costAll_0 : decode cX7_costAll 0 = .ok (.aload_n 0, 1) := by decide +kernel
theorem dX7_costAll_1 : decode cX7_costAll 1 = .ok (.invokevirtual 180, 3) := by decide +kernel
theorem dX7_costAll_4 : decode cX7_costAll 4 = .ok (.aload_n 0, 1) := by decide +kernel
theorem dX7_costAll_5 : decode cX7_costAll 5 = .ok (.invokevirtual 183, 3) := by decide +kernel
theorem dX7_costAll_8 : decode cX7_costAll 8 = .ok (.iadd, 1) := by decide +kernel
theorem dX7_costAll_9 : decode cX7_costAll 9 = .ok (.aload_n 0, 1) := by decide +kernel
theorem dX7_costAll_10 : decode cX7_costAll 10 = .ok (.invokevirtual 186, 3) := by decide +kernel
theorem dX7_costAll_13 : decode cX7_costAll 13 = .ok (.iadd, 1) := by decide +kernel
theorem dX7_costAll_14 : decode cX7_costAll 14 = .ok (.ireturn, 1) := by decide +kernel
theorem dX7_cost_0 : decode cX7_cost 0 = .ok (.iload_n 1, 1) := by decide +kernel
theorem dX7_cost_1 : decode cX7_cost 1 = .ok (.tableswitch 51 0 3 #[31, 36, 41, 46], 31) := by decide +kernel
theorem dX7_cost_32 : decode cX7_cost 32 = .ok (.aload_n 0, 1) := by decide +kernel
theorem dX7_cost_33 : decode cX7_cost 33 = .ok (.invokevirtual 160, 3) := by decide +kernel
theorem dX7_cost_36 : decode cX7_cost 36 = .ok (.ireturn, 1) := by decide +kernel
theorem dX7_cost_37 : decode cX7_cost 37 = .ok (.aload_n 0, 1) := by decide +kernel
theorem dX7_cost_38 : decode cX7_cost 38 = .ok (.invokevirtual 180, 3) := by decide +kernel
theorem dX7_cost_41 : decode cX7_cost 41 = .ok (.ireturn, 1) := by decide +kernel
theorem dX7_cost_42 : decode cX7_cost 42 = .ok (.aload_n 0, 1) := by decide +kernel
theorem dX7_cost_43 : decode cX7_cost 43 = .ok (.invokevirtual 183, 3) := by decide +kernel
theorem dX7_cost_46 : decode cX7_cost 46 = .ok (.ireturn, 1) := by decide +kernel
theorem dX7_cost_47 : decode cX7_cost 47 = .ok (.aload_n 0, 1) := by decide +kernel
theorem dX7_cost_48 : decode cX7_cost 48 = .ok (.invokevirtual 186, 3) := by decide +kernel
theorem dX7_cost_51 : decode cX7_cost 51 = .ok (.ireturn, 1) := by decide +kernel
theorem dX7_cost_52 : decode cX7_cost 52 = .ok (.iconst (-1), 1) := by decide +kernel
theorem dX7_cost_53 : decode cX7_cost 53 = .ok (.ireturn, 1) := by decide +kernel
theorem dX7_below_0 : decode cX7_below 0 = .ok (.iconst 0, 1) := by decide +kernel
theorem dX7_below_1 : decode cX7_below 1 = .ok (.istore_n 1, 1) := by decide +kernel
theorem dX7_below_2 : decode cX7_below 2 = .ok (.iconst 0, 1) := by decide +kernel
theorem dX7_below_3 : decode cX7_below 3 = .ok (.istore_n 2, 1) := by decide +kernel
theorem dX7_below_4 : decode cX7_below 4 = .ok (.iload_n 2, 1) := by decide +kernel
theorem dX7_below_5 : decode cX7_below 5 = .ok (.aload_n 0, 1) := by decide +kernel
theorem dX7_below_6 : decode cX7_below 6 = .ok (.getfield 91, 3) := by decide +kernel
theorem dX7_below_9 : decode cX7_below 9 = .ok (.if_icmp .ge 30, 3) := by decide +kernel
theorem dX7_below_12 : decode cX7_below 12 = .ok (.aload_n 0, 1) := by decide +kernel
theorem dX7_below_13 : decode cX7_below 13 = .ok (.getfield 44, 3) := by decide +kernel
theorem dX7_below_16 : decode cX7_below 16 = .ok (.iload_n 2, 1) := by decide +kernel
theorem dX7_below_17 : decode cX7_below 17 = .ok (.iaload, 1) := by decide +kernel
theorem dX7_below_18 : decode cX7_below 18 = .ok (.iload_n 1, 1) := by decide +kernel
theorem dX7_below_19 : decode cX7_below 19 = .ok (.if_icmp .le 12, 3) := by decide +kernel
theorem dX7_below_22 : decode cX7_below 22 = .ok (.aload_n 0, 1) := by decide +kernel
theorem dX7_below_23 : decode cX7_below 23 = .ok (.getfield 44, 3) := by decide +kernel
theorem dX7_below_26 : decode cX7_below 26 = .ok (.iload_n 2, 1) := by decide +kernel
theorem dX7_below_27 : decode cX7_below 27 = .ok (.iaload, 1) := by decide +kernel
theorem dX7_below_28 : decode cX7_below 28 = .ok (.goto 4, 3) := by decide +kernel
theorem dX7_below_31 : decode cX7_below 31 = .ok (.iload_n 1, 1) := by decide +kernel
theorem dX7_below_32 : decode cX7_below 32 = .ok (.istore_n 1, 1) := by decide +kernel
theorem dX7_below_33 : decode cX7_below 33 = .ok (.iinc 2 1, 3) := by decide +kernel
theorem dX7_below_36 : decode cX7_below 36 = .ok (.goto (-32), 3) := by decide +kernel
theorem dX7_below_39 : decode cX7_below 39 = .ok (.iconst 0, 1) := by decide +kernel
theorem dX7_below_40 : decode cX7_below 40 = .ok (.istore_n 2, 1) := by decide +kernel
theorem dX7_below_41 : decode cX7_below 41 = .ok (.iconst 0, 1) := by decide +kernel
theorem dX7_below_42 : decode cX7_below 42 = .ok (.istore_n 3, 1) := by decide +kernel
theorem dX7_below_43 : decode cX7_below 43 = .ok (.iload_n 3, 1) := by decide +kernel
theorem dX7_below_44 : decode cX7_below 44 = .ok (.bipush 8, 2) := by decide +kernel
theorem dX7_below_46 : decode cX7_below 46 = .ok (.if_icmp .ge 139, 3) := by decide +kernel
theorem dX7_below_49 : decode cX7_below 49 = .ok (.iload_n 1, 1) := by decide +kernel
theorem dX7_below_50 : decode cX7_below 50 = .ok (.ifCond .le 135, 3) := by decide +kernel
theorem dX7_below_53 : decode cX7_below 53 = .ok (.iconst 0, 1) := by decide +kernel
theorem dX7_below_54 : decode cX7_below 54 = .ok (.istore 4, 2) := by decide +kernel
theorem dX7_below_56 : decode cX7_below 56 = .ok (.iconst 0, 1) := by decide +kernel
theorem dX7_below_57 : decode cX7_below 57 = .ok (.istore 5, 2) := by decide +kernel
theorem dX7_below_59 : decode cX7_below 59 = .ok (.iconst 0, 1) := by decide +kernel
theorem dX7_below_60 : decode cX7_below 60 = .ok (.istore 6, 2) := by decide +kernel
theorem dX7_below_62 : decode cX7_below 62 = .ok (.iload 6, 2) := by decide +kernel
theorem dX7_below_64 : decode cX7_below 64 = .ok (.aload_n 0, 1) := by decide +kernel
theorem dX7_below_65 : decode cX7_below 65 = .ok (.getfield 84, 3) := by decide +kernel
theorem dX7_below_68 : decode cX7_below 68 = .ok (.if_icmp .ge 77, 3) := by decide +kernel
theorem dX7_below_71 : decode cX7_below 71 = .ok (.aload_n 0, 1) := by decide +kernel
theorem dX7_below_72 : decode cX7_below 72 = .ok (.getfield 29, 3) := by decide +kernel
theorem dX7_below_75 : decode cX7_below 75 = .ok (.iload 6, 2) := by decide +kernel
theorem dX7_below_77 : decode cX7_below 77 = .ok (.iaload, 1) := by decide +kernel
theorem dX7_below_78 : decode cX7_below 78 = .ok (.iconst (-1), 1) := by decide +kernel
theorem dX7_below_79 : decode cX7_below 79 = .ok (.if_icmp .ne 6, 3) := by decide +kernel
theorem dX7_below_82 : decode cX7_below 82 = .ok (.goto 57, 3) := by decide +kernel
theorem dX7_below_85 : decode cX7_below 85 = .ok (.iload 4, 2) := by decide +kernel
theorem dX7_below_87 : decode cX7_below 87 = .ok (.aload_n 0, 1) := by decide +kernel
theorem dX7_below_88 : decode cX7_below 88 = .ok (.getfield 23, 3) := by decide +kernel
theorem dX7_below_91 : decode cX7_below 91 = .ok (.iload 6, 2) := by decide +kernel
theorem dX7_below_93 : decode cX7_below 93 = .ok (.iaload, 1) := by decide +kernel
theorem dX7_below_94 : decode cX7_below 94 = .ok (.iload_n 3, 1) := by decide +kernel
theorem dX7_below_95 : decode cX7_below 95 = .ok (.ishr, 1) := by decide +kernel
theorem dX7_below_96 : decode cX7_below 96 = .ok (.iconst 1, 1) := by decide +kernel
theorem dX7_below_97 : decode cX7_below 97 = .ok (.iand, 1) := by decide +kernel
theorem dX7_below_98 : decode cX7_below 98 = .ok (.iconst 1, 1) := by decide +kernel
theorem dX7_below_99 : decode cX7_below 99 = .ok (.if_icmp .ne 13, 3) := by decide +kernel
theorem dX7_below_102 : decode cX7_below 102 = .ok (.aload_n 0, 1) := by decide +kernel
theorem dX7_below_103 : decode cX7_below 103 = .ok (.getfield 7, 3) := by decide +kernel
theorem dX7_below_106 : decode cX7_below 106 = .ok (.iload 6, 2) := by decide +kernel
theorem dX7_below_108 : decode cX7_below 108 = .ok (.iaload, 1) := by decide +kernel
theorem dX7_below_109 : decode cX7_below 109 = .ok (.goto 4, 3) := by decide +kernel
theorem dX7_below_112 : decode cX7_below 112 = .ok (.iconst 0, 1) := by decide +kernel
theorem dX7_below_113 : decode cX7_below 113 = .ok (.iadd, 1) := by decide +kernel
theorem dX7_below_114 : decode cX7_below 114 = .ok (.istore 4, 2) := by decide +kernel
theorem dX7_below_116 : decode cX7_below 116 = .ok (.iload 5, 2) := by decide +kernel
theorem dX7_below_118 : decode cX7_below 118 = .ok (.ifCond .ne 14, 3) := by decide +kernel
theorem dX7_below_121 : decode cX7_below 121 = .ok (.aload_n 0, 1) := by decide +kernel
theorem dX7_below_122 : decode cX7_below 122 = .ok (.getfield 13, 3) := by decide +kernel
theorem dX7_below_125 : decode cX7_below 125 = .ok (.iload 6, 2) := by decide +kernel
theorem dX7_below_127 : decode cX7_below 127 = .ok (.iaload, 1) := by decide +kernel
theorem dX7_below_128 : decode cX7_below 128 = .ok (.iload_n 3, 1) := by decide +kernel
theorem dX7_below_129 : decode cX7_below 129 = .ok (.if_icmp .ne 7, 3) := by decide +kernel
theorem dX7_below_132 : decode cX7_below 132 = .ok (.iconst 1, 1) := by decide +kernel
theorem dX7_below_133 : decode cX7_below 133 = .ok (.goto 4, 3) := by decide +kernel
theorem dX7_below_136 : decode cX7_below 136 = .ok (.iconst 0, 1) := by decide +kernel
theorem dX7_below_137 : decode cX7_below 137 = .ok (.istore 5, 2) := by decide +kernel
theorem dX7_below_139 : decode cX7_below 139 = .ok (.iinc 6 1, 3) := by decide +kernel
theorem dX7_below_142 : decode cX7_below 142 = .ok (.goto (-80), 3) := by decide +kernel
theorem dX7_below_145 : decode cX7_below 145 = .ok (.iload_n 2, 1) := by decide +kernel
theorem dX7_below_146 : decode cX7_below 146 = .ok (.aload_n 0, 1) := by decide +kernel
theorem dX7_below_147 : decode cX7_below 147 = .ok (.getfield 32, 3) := by decide +kernel
theorem dX7_below_150 : decode cX7_below 150 = .ok (.iload_n 3, 1) := by decide +kernel
theorem dX7_below_151 : decode cX7_below 151 = .ok (.iaload, 1) := by decide +kernel
theorem dX7_below_152 : decode cX7_below 152 = .ok (.iload 4, 2) := by decide +kernel
theorem dX7_below_154 : decode cX7_below 154 = .ok (.iload_n 1, 1) := by decide +kernel
theorem dX7_below_155 : decode cX7_below 155 = .ok (.iadd, 1) := by decide +kernel
theorem dX7_below_156 : decode cX7_below 156 = .ok (.iconst 1, 1) := by decide +kernel
theorem dX7_below_157 : decode cX7_below 157 = .ok (.isub, 1) := by decide +kernel
theorem dX7_below_158 : decode cX7_below 158 = .ok (.iload_n 1, 1) := by decide +kernel
theorem dX7_below_159 : decode cX7_below 159 = .ok (.idiv, 1) := by decide +kernel
theorem dX7_below_160 : decode cX7_below 160 = .ok (.imul, 1) := by decide +kernel
theorem dX7_below_161 : decode cX7_below 161 = .ok (.iload 5, 2) := by decide +kernel
theorem dX7_below_163 : decode cX7_below 163 = .ok (.ifCond .eq 12, 3) := by decide +kernel
theorem dX7_below_166 : decode cX7_below 166 = .ok (.aload_n 0, 1) := by decide +kernel
theorem dX7_below_167 : decode cX7_below 167 = .ok (.getfield 38, 3) := by decide +kernel
theorem dX7_below_170 : decode cX7_below 170 = .ok (.iload_n 3, 1) := by decide +kernel
theorem dX7_below_171 : decode cX7_below 171 = .ok (.iaload, 1) := by decide +kernel
theorem dX7_below_172 : decode cX7_below 172 = .ok (.goto 4, 3) := by decide +kernel
theorem dX7_below_175 : decode cX7_below 175 = .ok (.iconst 0, 1) := by decide +kernel
theorem dX7_below_176 : decode cX7_below 176 = .ok (.iadd, 1) := by decide +kernel
theorem dX7_below_177 : decode cX7_below 177 = .ok (.iadd, 1) := by decide +kernel
theorem dX7_below_178 : decode cX7_below 178 = .ok (.istore_n 2, 1) := by decide +kernel
theorem dX7_below_179 : decode cX7_below 179 = .ok (.iinc 3 1, 3) := by decide +kernel
theorem dX7_below_182 : decode cX7_below 182 = .ok (.goto (-139), 3) := by decide +kernel
theorem dX7_below_185 : decode cX7_below 185 = .ok (.iload_n 2, 1) := by decide +kernel
theorem dX7_below_186 : decode cX7_below 186 = .ok (.ireturn, 1) := by decide +kernel
theorem dX7_held_0 : decode cX7_held 0 = .ok (.iload_n 1, 1) := by decide +kernel
theorem dX7_held_1 : decode cX7_held 1 = .ok (.iconst 0, 1) := by decide +kernel
theorem dX7_held_2 : decode cX7_held 2 = .ok (.bipush 7, 2) := by decide +kernel
theorem dX7_held_4 : decode cX7_held 4 = .ok (.invokestatic 87, 3) := by decide +kernel
theorem dX7_held_7 : decode cX7_held 7 = .ok (.ifCond .ne 5, 3) := by decide +kernel
theorem dX7_held_10 : decode cX7_held 10 = .ok (.iconst (-1), 1) := by decide +kernel
theorem dX7_held_11 : decode cX7_held 11 = .ok (.ireturn, 1) := by decide +kernel
theorem dX7_held_12 : decode cX7_held 12 = .ok (.iload_n 2, 1) := by decide +kernel
theorem dX7_held_13 : decode cX7_held 13 = .ok (.tableswitch 57 0 3 #[31, 38, 45, 51], 31) := by decide +kernel
theorem dX7_held_44 : decode cX7_held 44 = .ok (.aload_n 0, 1) := by decide +kernel
theorem dX7_held_45 : decode cX7_held 45 = .ok (.iload_n 1, 1) := by decide +kernel
theorem dX7_held_46 : decode cX7_held 46 = .ok (.iconst 0, 1) := by decide +kernel
theorem dX7_held_47 : decode cX7_held 47 = .ok (.invokevirtual 167, 3) := by decide +kernel
theorem dX7_held_50 : decode cX7_held 50 = .ok (.ireturn, 1) := by decide +kernel
theorem dX7_held_51 : decode cX7_held 51 = .ok (.aload_n 0, 1) := by decide +kernel
theorem dX7_held_52 : decode cX7_held 52 = .ok (.iload_n 1, 1) := by decide +kernel
theorem dX7_held_53 : decode cX7_held 53 = .ok (.iconst 1, 1) := by decide +kernel
theorem dX7_held_54 : decode cX7_held 54 = .ok (.invokevirtual 167, 3) := by decide +kernel
theorem dX7_held_57 : decode cX7_held 57 = .ok (.ireturn, 1) := by decide +kernel
theorem dX7_held_58 : decode cX7_held 58 = .ok (.aload_n 0, 1) := by decide +kernel
theorem dX7_held_59 : decode cX7_held 59 = .ok (.iload_n 1, 1) := by decide +kernel
theorem dX7_held_60 : decode cX7_held 60 = .ok (.invokevirtual 189, 3) := by decide +kernel
theorem dX7_held_63 : decode cX7_held 63 = .ok (.ireturn, 1) := by decide +kernel
theorem dX7_held_64 : decode cX7_held 64 = .ok (.aload_n 0, 1) := by decide +kernel
theorem dX7_held_65 : decode cX7_held 65 = .ok (.iload_n 1, 1) := by decide +kernel
theorem dX7_held_66 : decode cX7_held 66 = .ok (.invokevirtual 171, 3) := by decide +kernel
theorem dX7_held_69 : decode cX7_held 69 = .ok (.ireturn, 1) := by decide +kernel
theorem dX7_held_70 : decode cX7_held 70 = .ok (.iconst (-1), 1) := by decide +kernel
theorem dX7_held_71 : decode cX7_held 71 = .ok (.ireturn, 1) := by decide +kernel
theorem dX7_movesWell_0 : decode cX7_movesWell 0 = .ok (.aload_n 0, 1) := by decide +kernel
theorem dX7_movesWell_1 : decode cX7_movesWell 1 = .ok (.invokevirtual 140, 3) := by decide +kernel
theorem dX7_movesWell_4 : decode cX7_movesWell 4 = .ok (.aload_n 0, 1) := by decide +kernel
theorem dX7_movesWell_5 : decode cX7_movesWell 5 = .ok (.iload_n 1, 1) := by decide +kernel
theorem dX7_movesWell_6 : decode cX7_movesWell 6 = .ok (.invokevirtual 152, 3) := by decide +kernel
theorem dX7_movesWell_9 : decode cX7_movesWell 9 = .ok (.aload_n 0, 1) := by decide +kernel
theorem dX7_movesWell_10 : decode cX7_movesWell 10 = .ok (.iload_n 1, 1) := by decide +kernel
theorem dX7_movesWell_11 : decode cX7_movesWell 11 = .ok (.iload_n 2, 1) := by decide +kernel
theorem dX7_movesWell_12 : decode cX7_movesWell 12 = .ok (.invokevirtual 143, 3) := by decide +kernel
theorem dX7_movesWell_15 : decode cX7_movesWell 15 = .ok (.ifCond .eq 20, 3) := by decide +kernel
theorem dX7_movesWell_18 : decode cX7_movesWell 18 = .ok (.aload_n 0, 1) := by decide +kernel
theorem dX7_movesWell_19 : decode cX7_movesWell 19 = .ok (.invokevirtual 94, 3) := by decide +kernel
theorem dX7_movesWell_22 : decode cX7_movesWell 22 = .ok (.ifCond .eq 13, 3) := by decide +kernel
theorem dX7_movesWell_25 : decode cX7_movesWell 25 = .ok (.aload_n 0, 1) := by decide +kernel
theorem dX7_movesWell_26 : decode cX7_movesWell 26 = .ok (.invokevirtual 160, 3) := by decide +kernel
theorem dX7_movesWell_29 : decode cX7_movesWell 29 = .ok (.iload_n 3, 1) := by decide +kernel
theorem dX7_movesWell_30 : decode cX7_movesWell 30 = .ok (.if_icmp .ge 5, 3) := by decide +kernel
theorem dX7_movesWell_33 : decode cX7_movesWell 33 = .ok (.iconst 1, 1) := by decide +kernel
theorem dX7_movesWell_34 : decode cX7_movesWell 34 = .ok (.ireturn, 1) := by decide +kernel
theorem dX7_movesWell_35 : decode cX7_movesWell 35 = .ok (.aload_n 0, 1) := by decide +kernel
theorem dX7_movesWell_36 : decode cX7_movesWell 36 = .ok (.invokevirtual 146, 3) := by decide +kernel
theorem dX7_movesWell_39 : decode cX7_movesWell 39 = .ok (.iconst 0, 1) := by decide +kernel
theorem dX7_movesWell_40 : decode cX7_movesWell 40 = .ok (.ireturn, 1) := by decide +kernel
theorem dX7_betters_0 : decode cX7_betters 0 = .ok (.aload_n 0, 1) := by decide +kernel
theorem dX7_betters_1 : decode cX7_betters 1 = .ok (.invokevirtual 160, 3) := by decide +kernel
theorem dX7_betters_4 : decode cX7_betters 4 = .ok (.istore_n 1, 1) := by decide +kernel
theorem dX7_betters_5 : decode cX7_betters 5 = .ok (.iconst 0, 1) := by decide +kernel
theorem dX7_betters_6 : decode cX7_betters 6 = .ok (.istore_n 2, 1) := by decide +kernel
theorem dX7_betters_7 : decode cX7_betters 7 = .ok (.iload_n 2, 1) := by decide +kernel
theorem dX7_betters_8 : decode cX7_betters 8 = .ok (.aload_n 0, 1) := by decide +kernel
theorem dX7_betters_9 : decode cX7_betters 9 = .ok (.getfield 84, 3) := by decide +kernel
theorem dX7_betters_12 : decode cX7_betters 12 = .ok (.if_icmp .ge 57, 3) := by decide +kernel
theorem dX7_betters_15 : decode cX7_betters 15 = .ok (.iconst 0, 1) := by decide +kernel
theorem dX7_betters_16 : decode cX7_betters 16 = .ok (.istore_n 3, 1) := by decide +kernel
theorem dX7_betters_17 : decode cX7_betters 17 = .ok (.iload_n 3, 1) := by decide +kernel
theorem dX7_betters_18 : decode cX7_betters 18 = .ok (.aload_n 0, 1) := by decide +kernel
theorem dX7_betters_19 : decode cX7_betters 19 = .ok (.getfield 91, 3) := by decide +kernel
theorem dX7_betters_22 : decode cX7_betters 22 = .ok (.if_icmp .ge 41, 3) := by decide +kernel
theorem dX7_betters_25 : decode cX7_betters 25 = .ok (.aload_n 0, 1) := by decide +kernel
theorem dX7_betters_26 : decode cX7_betters 26 = .ok (.getfield 29, 3) := by decide +kernel
theorem dX7_betters_29 : decode cX7_betters 29 = .ok (.iload_n 2, 1) := by decide +kernel
theorem dX7_betters_30 : decode cX7_betters 30 = .ok (.iaload, 1) := by decide +kernel
theorem dX7_betters_31 : decode cX7_betters 31 = .ok (.iconst (-1), 1) := by decide +kernel
theorem dX7_betters_32 : decode cX7_betters 32 = .ok (.if_icmp .eq 25, 3) := by decide +kernel
theorem dX7_betters_35 : decode cX7_betters 35 = .ok (.iload_n 3, 1) := by decide +kernel
theorem dX7_betters_36 : decode cX7_betters 36 = .ok (.aload_n 0, 1) := by decide +kernel
theorem dX7_betters_37 : decode cX7_betters 37 = .ok (.getfield 29, 3) := by decide +kernel
theorem dX7_betters_40 : decode cX7_betters 40 = .ok (.iload_n 2, 1) := by decide +kernel
theorem dX7_betters_41 : decode cX7_betters 41 = .ok (.iaload, 1) := by decide +kernel
theorem dX7_betters_42 : decode cX7_betters 42 = .ok (.if_icmp .eq 15, 3) := by decide +kernel
theorem dX7_betters_45 : decode cX7_betters 45 = .ok (.aload_n 0, 1) := by decide +kernel
theorem dX7_betters_46 : decode cX7_betters 46 = .ok (.iload_n 2, 1) := by decide +kernel
theorem dX7_betters_47 : decode cX7_betters 47 = .ok (.iload_n 3, 1) := by decide +kernel
theorem dX7_betters_48 : decode cX7_betters 48 = .ok (.iload_n 1, 1) := by decide +kernel
theorem dX7_betters_49 : decode cX7_betters 49 = .ok (.invokevirtual 192, 3) := by decide +kernel
theorem dX7_betters_52 : decode cX7_betters 52 = .ok (.ifCond .eq 5, 3) := by decide +kernel
theorem dX7_betters_55 : decode cX7_betters 55 = .ok (.iconst 1, 1) := by decide +kernel
theorem dX7_betters_56 : decode cX7_betters 56 = .ok (.ireturn, 1) := by decide +kernel
theorem dX7_betters_57 : decode cX7_betters 57 = .ok (.iinc 3 1, 3) := by decide +kernel
theorem dX7_betters_60 : decode cX7_betters 60 = .ok (.goto (-43), 3) := by decide +kernel
theorem dX7_betters_63 : decode cX7_betters 63 = .ok (.iinc 2 1, 3) := by decide +kernel
theorem dX7_betters_66 : decode cX7_betters 66 = .ok (.goto (-59), 3) := by decide +kernel
theorem dX7_betters_69 : decode cX7_betters 69 = .ok (.iconst 0, 1) := by decide +kernel
theorem dX7_betters_70 : decode cX7_betters 70 = .ok (.istore_n 2, 1) := by decide +kernel
theorem dX7_betters_71 : decode cX7_betters 71 = .ok (.iload_n 2, 1) := by decide +kernel
theorem dX7_betters_72 : decode cX7_betters 72 = .ok (.aload_n 0, 1) := by decide +kernel
theorem dX7_betters_73 : decode cX7_betters 73 = .ok (.getfield 91, 3) := by decide +kernel
theorem dX7_betters_76 : decode cX7_betters 76 = .ok (.if_icmp .ge 56, 3) := by decide +kernel
theorem dX7_betters_79 : decode cX7_betters 79 = .ok (.iload_n 2, 1) := by decide +kernel
theorem dX7_betters_80 : decode cX7_betters 80 = .ok (.iconst 1, 1) := by decide +kernel
theorem dX7_betters_81 : decode cX7_betters 81 = .ok (.iadd, 1) := by decide +kernel
theorem dX7_betters_82 : decode cX7_betters 82 = .ok (.istore_n 3, 1) := by decide +kernel
theorem dX7_betters_83 : decode cX7_betters 83 = .ok (.iload_n 3, 1) := by decide +kernel
theorem dX7_betters_84 : decode cX7_betters 84 = .ok (.aload_n 0, 1) := by decide +kernel
theorem dX7_betters_85 : decode cX7_betters 85 = .ok (.getfield 91, 3) := by decide +kernel
theorem dX7_betters_88 : decode cX7_betters 88 = .ok (.if_icmp .ge 38, 3) := by decide +kernel
theorem dX7_betters_91 : decode cX7_betters 91 = .ok (.aload_n 0, 1) := by decide +kernel
theorem dX7_betters_92 : decode cX7_betters 92 = .ok (.iload_n 2, 1) := by decide +kernel
theorem dX7_betters_93 : decode cX7_betters 93 = .ok (.iload_n 3, 1) := by decide +kernel
theorem dX7_betters_94 : decode cX7_betters 94 = .ok (.invokevirtual 156, 3) := by decide +kernel
theorem dX7_betters_97 : decode cX7_betters 97 = .ok (.aload_n 0, 1) := by decide +kernel
theorem dX7_betters_98 : decode cX7_betters 98 = .ok (.invokevirtual 94, 3) := by decide +kernel
theorem dX7_betters_101 : decode cX7_betters 101 = .ok (.ifCond .eq 13, 3) := by decide +kernel
theorem dX7_betters_104 : decode cX7_betters 104 = .ok (.aload_n 0, 1) := by decide +kernel
theorem dX7_betters_105 : decode cX7_betters 105 = .ok (.invokevirtual 160, 3) := by decide +kernel
theorem dX7_betters_108 : decode cX7_betters 108 = .ok (.iload_n 1, 1) := by decide +kernel
theorem dX7_betters_109 : decode cX7_betters 109 = .ok (.if_icmp .ge 5, 3) := by decide +kernel
theorem dX7_betters_112 : decode cX7_betters 112 = .ok (.iconst 1, 1) := by decide +kernel
theorem dX7_betters_113 : decode cX7_betters 113 = .ok (.ireturn, 1) := by decide +kernel
theorem dX7_betters_114 : decode cX7_betters 114 = .ok (.aload_n 0, 1) := by decide +kernel
theorem dX7_betters_115 : decode cX7_betters 115 = .ok (.iload_n 2, 1) := by decide +kernel
theorem dX7_betters_116 : decode cX7_betters 116 = .ok (.iload_n 3, 1) := by decide +kernel
theorem dX7_betters_117 : decode cX7_betters 117 = .ok (.invokevirtual 156, 3) := by decide +kernel
theorem dX7_betters_120 : decode cX7_betters 120 = .ok (.iinc 3 1, 3) := by decide +kernel
theorem dX7_betters_123 : decode cX7_betters 123 = .ok (.goto (-40), 3) := by decide +kernel
theorem dX7_betters_126 : decode cX7_betters 126 = .ok (.iinc 2 1, 3) := by decide +kernel
theorem dX7_betters_129 : decode cX7_betters 129 = .ok (.goto (-58), 3) := by decide +kernel
theorem dX7_betters_132 : decode cX7_betters 132 = .ok (.iconst 0, 1) := by decide +kernel
theorem dX7_betters_133 : decode cX7_betters 133 = .ok (.ireturn, 1) := by decide +kernel
theorem dX7_better_0 : decode cX7_better 0 = .ok (.iconst 0, 1) := by decide +kernel
theorem dX7_better_1 : decode cX7_better 1 = .ok (.istore_n 1, 1) := by decide +kernel
theorem dX7_better_2 : decode cX7_better 2 = .ok (.iload_n 1, 1) := by decide +kernel
theorem dX7_better_3 : decode cX7_better 3 = .ok (.bipush 20, 2) := by decide +kernel
theorem dX7_better_5 : decode cX7_better 5 = .ok (.if_icmp .ge 16, 3) := by decide +kernel
theorem dX7_better_8 : decode cX7_better 8 = .ok (.aload_n 0, 1) := by decide +kernel
theorem dX7_better_9 : decode cX7_better 9 = .ok (.invokevirtual 195, 3) := by decide +kernel
theorem dX7_better_12 : decode cX7_better 12 = .ok (.ifCond .eq 9, 3) := by decide +kernel
theorem dX7_better_15 : decode cX7_better 15 = .ok (.iinc 1 1, 3) := by decide +kernel
theorem dX7_better_18 : decode cX7_better 18 = .ok (.goto (-16), 3) := by decide +kernel
theorem dX7_better_21 : decode cX7_better 21 = .ok (.iload_n 1, 1) := by decide +kernel
theorem dX7_better_22 : decode cX7_better 22 = .ok (.ireturn, 1) := by decide +kernel
theorem dX7_lays_0 : decode cX7_lays 0 = .ok (.iconst 0, 1) := by decide +kernel
theorem dX7_lays_1 : decode cX7_lays 1 = .ok (.istore_n 1, 1) := by decide +kernel
theorem dX7_lays_2 : decode cX7_lays 2 = .ok (.iload_n 1, 1) := by decide +kernel
theorem dX7_lays_3 : decode cX7_lays 3 = .ok (.aload_n 0, 1) := by decide +kernel
theorem dX7_lays_4 : decode cX7_lays 4 = .ok (.getfield 91, 3) := by decide +kernel
theorem dX7_lays_7 : decode cX7_lays 7 = .ok (.if_icmp .ge 64, 3) := by decide +kernel
theorem dX7_lays_10 : decode cX7_lays 10 = .ok (.aload_n 0, 1) := by decide +kernel
theorem dX7_lays_11 : decode cX7_lays 11 = .ok (.getfield 50, 3) := by decide +kernel
theorem dX7_lays_14 : decode cX7_lays 14 = .ok (.iload_n 1, 1) := by decide +kernel
theorem dX7_lays_15 : decode cX7_lays 15 = .ok (.aload_n 0, 1) := by decide +kernel
theorem dX7_lays_16 : decode cX7_lays 16 = .ok (.getfield 68, 3) := by decide +kernel
theorem dX7_lays_19 : decode cX7_lays 19 = .ok (.aload_n 0, 1) := by decide +kernel
theorem dX7_lays_20 : decode cX7_lays 20 = .ok (.getfield 74, 3) := by decide +kernel
theorem dX7_lays_23 : decode cX7_lays 23 = .ok (.iload_n 1, 1) := by decide +kernel
theorem dX7_lays_24 : decode cX7_lays 24 = .ok (.iaload, 1) := by decide +kernel
theorem dX7_lays_25 : decode cX7_lays 25 = .ok (.iaload, 1) := by decide +kernel
theorem dX7_lays_26 : decode cX7_lays 26 = .ok (.iastore, 1) := by decide +kernel
theorem dX7_lays_27 : decode cX7_lays 27 = .ok (.iconst 0, 1) := by decide +kernel
theorem dX7_lays_28 : decode cX7_lays 28 = .ok (.istore_n 2, 1) := by decide +kernel
theorem dX7_lays_29 : decode cX7_lays 29 = .ok (.iload_n 2, 1) := by decide +kernel
theorem dX7_lays_30 : decode cX7_lays 30 = .ok (.iconst 5, 1) := by decide +kernel
theorem dX7_lays_31 : decode cX7_lays 31 = .ok (.if_icmp .ge 34, 3) := by decide +kernel
theorem dX7_lays_34 : decode cX7_lays 34 = .ok (.aload_n 0, 1) := by decide +kernel
theorem dX7_lays_35 : decode cX7_lays 35 = .ok (.getfield 53, 3) := by decide +kernel
theorem dX7_lays_38 : decode cX7_lays 38 = .ok (.iconst 5, 1) := by decide +kernel
theorem dX7_lays_39 : decode cX7_lays 39 = .ok (.iload_n 1, 1) := by decide +kernel
theorem dX7_lays_40 : decode cX7_lays 40 = .ok (.imul, 1) := by decide +kernel
theorem dX7_lays_41 : decode cX7_lays 41 = .ok (.iload_n 2, 1) := by decide +kernel
theorem dX7_lays_42 : decode cX7_lays 42 = .ok (.iadd, 1) := by decide +kernel
theorem dX7_lays_43 : decode cX7_lays 43 = .ok (.aload_n 0, 1) := by decide +kernel
theorem dX7_lays_44 : decode cX7_lays 44 = .ok (.getfield 65, 3) := by decide +kernel
theorem dX7_lays_47 : decode cX7_lays 47 = .ok (.iconst 5, 1) := by decide +kernel
theorem dX7_lays_48 : decode cX7_lays 48 = .ok (.aload_n 0, 1) := by decide +kernel
theorem dX7_lays_49 : decode cX7_lays 49 = .ok (.getfield 74, 3) := by decide +kernel
theorem dX7_lays_52 : decode cX7_lays 52 = .ok (.iload_n 1, 1) := by decide +kernel
theorem dX7_lays_53 : decode cX7_lays 53 = .ok (.iaload, 1) := by decide +kernel
theorem dX7_lays_54 : decode cX7_lays 54 = .ok (.imul, 1) := by decide +kernel
theorem dX7_lays_55 : decode cX7_lays 55 = .ok (.iload_n 2, 1) := by decide +kernel
theorem dX7_lays_56 : decode cX7_lays 56 = .ok (.iadd, 1) := by decide +kernel
theorem dX7_lays_57 : decode cX7_lays 57 = .ok (.iaload, 1) := by decide +kernel
theorem dX7_lays_58 : decode cX7_lays 58 = .ok (.iastore, 1) := by decide +kernel
theorem dX7_lays_59 : decode cX7_lays 59 = .ok (.iinc 2 1, 3) := by decide +kernel
theorem dX7_lays_62 : decode cX7_lays 62 = .ok (.goto (-33), 3) := by decide +kernel
theorem dX7_lays_65 : decode cX7_lays 65 = .ok (.iinc 1 1, 3) := by decide +kernel
theorem dX7_lays_68 : decode cX7_lays 68 = .ok (.goto (-66), 3) := by decide +kernel
theorem dX7_lays_71 : decode cX7_lays 71 = .ok (.iconst 0, 1) := by decide +kernel
theorem dX7_lays_72 : decode cX7_lays 72 = .ok (.istore_n 1, 1) := by decide +kernel
theorem dX7_lays_73 : decode cX7_lays 73 = .ok (.iload_n 1, 1) := by decide +kernel
theorem dX7_lays_74 : decode cX7_lays 74 = .ok (.aload_n 0, 1) := by decide +kernel
theorem dX7_lays_75 : decode cX7_lays 75 = .ok (.getfield 84, 3) := by decide +kernel
theorem dX7_lays_78 : decode cX7_lays 78 = .ok (.if_icmp .ge 47, 3) := by decide +kernel
theorem dX7_lays_81 : decode cX7_lays 81 = .ok (.iconst 0, 1) := by decide +kernel
theorem dX7_lays_82 : decode cX7_lays 82 = .ok (.istore_n 2, 1) := by decide +kernel
theorem dX7_lays_83 : decode cX7_lays 83 = .ok (.iload_n 2, 1) := by decide +kernel
theorem dX7_lays_84 : decode cX7_lays 84 = .ok (.aload_n 0, 1) := by decide +kernel
theorem dX7_lays_85 : decode cX7_lays 85 = .ok (.getfield 91, 3) := by decide +kernel
theorem dX7_lays_88 : decode cX7_lays 88 = .ok (.if_icmp .ge 31, 3) := by decide +kernel
theorem dX7_lays_91 : decode cX7_lays 91 = .ok (.aload_n 0, 1) := by decide +kernel
theorem dX7_lays_92 : decode cX7_lays 92 = .ok (.getfield 71, 3) := by decide +kernel
theorem dX7_lays_95 : decode cX7_lays 95 = .ok (.iload_n 1, 1) := by decide +kernel
theorem dX7_lays_96 : decode cX7_lays 96 = .ok (.iaload, 1) := by decide +kernel
theorem dX7_lays_97 : decode cX7_lays 97 = .ok (.aload_n 0, 1) := by decide +kernel
theorem dX7_lays_98 : decode cX7_lays 98 = .ok (.getfield 74, 3) := by decide +kernel
theorem dX7_lays_101 : decode cX7_lays 101 = .ok (.iload_n 2, 1) := by decide +kernel
theorem dX7_lays_102 : decode cX7_lays 102 = .ok (.iaload, 1) := by decide +kernel
theorem dX7_lays_103 : decode cX7_lays 103 = .ok (.if_icmp .ne 10, 3) := by decide +kernel
theorem dX7_lays_106 : decode cX7_lays 106 = .ok (.aload_n 0, 1) := by decide +kernel
theorem dX7_lays_107 : decode cX7_lays 107 = .ok (.getfield 29, 3) := by decide +kernel
theorem dX7_lays_110 : decode cX7_lays 110 = .ok (.iload_n 1, 1) := by decide +kernel
theorem dX7_lays_111 : decode cX7_lays 111 = .ok (.iload_n 2, 1) := by decide +kernel
theorem dX7_lays_112 : decode cX7_lays 112 = .ok (.iastore, 1) := by decide +kernel
theorem dX7_lays_113 : decode cX7_lays 113 = .ok (.iinc 2 1, 3) := by decide +kernel
theorem dX7_lays_116 : decode cX7_lays 116 = .ok (.goto (-33), 3) := by decide +kernel
theorem dX7_lays_119 : decode cX7_lays 119 = .ok (.iinc 1 1, 3) := by decide +kernel
theorem dX7_lays_122 : decode cX7_lays 122 = .ok (.goto (-49), 3) := by decide +kernel
theorem dX7_lays_125 : decode cX7_lays 125 = .ok (.return_, 1) := by decide +kernel
theorem dX7_gives_0 : decode cX7_gives 0 = .ok (.iload_n 1, 1) := by decide +kernel
theorem dX7_gives_1 : decode cX7_gives 1 = .ok (.aload_n 0, 1) := by decide +kernel
theorem dX7_gives_2 : decode cX7_gives 2 = .ok (.getfield 91, 3) := by decide +kernel
theorem dX7_gives_5 : decode cX7_gives 5 = .ok (.if_icmp .ne 71, 3) := by decide +kernel
theorem dX7_gives_8 : decode cX7_gives 8 = .ok (.aload_n 0, 1) := by decide +kernel
theorem dX7_gives_9 : decode cX7_gives 9 = .ok (.invokevirtual 198, 3) := by decide +kernel
theorem dX7_gives_12 : decode cX7_gives 12 = .ok (.aload_n 0, 1) := by decide +kernel
theorem dX7_gives_13 : decode cX7_gives 13 = .ok (.invokevirtual 94, 3) := by decide +kernel
theorem dX7_gives_16 : decode cX7_gives 16 = .ok (.ifCond .eq 22, 3) := by decide +kernel
theorem dX7_gives_19 : decode cX7_gives 19 = .ok (.aload_n 0, 1) := by decide +kernel
theorem dX7_gives_20 : decode cX7_gives 20 = .ok (.getfield 201, 3) := by decide +kernel
theorem dX7_gives_23 : decode cX7_gives 23 = .ok (.iconst (-1), 1) := by decide +kernel
theorem dX7_gives_24 : decode cX7_gives 24 = .ok (.if_icmp .eq 15, 3) := by decide +kernel
theorem dX7_gives_27 : decode cX7_gives 27 = .ok (.aload_n 0, 1) := by decide +kernel
theorem dX7_gives_28 : decode cX7_gives 28 = .ok (.invokevirtual 160, 3) := by decide +kernel
theorem dX7_gives_31 : decode cX7_gives 31 = .ok (.aload_n 0, 1) := by decide +kernel
theorem dX7_gives_32 : decode cX7_gives 32 = .ok (.getfield 201, 3) := by decide +kernel
theorem dX7_gives_35 : decode cX7_gives 35 = .ok (.if_icmp .lt 4, 3) := by decide +kernel
theorem dX7_gives_38 : decode cX7_gives 38 = .ok (.return_, 1) := by decide +kernel
theorem dX7_gives_39 : decode cX7_gives 39 = .ok (.aload_n 0, 1) := by decide +kernel
theorem dX7_gives_40 : decode cX7_gives 40 = .ok (.aload_n 0, 1) := by decide +kernel
theorem dX7_gives_41 : decode cX7_gives 41 = .ok (.invokevirtual 160, 3) := by decide +kernel
theorem dX7_gives_44 : decode cX7_gives 44 = .ok (.putfield 201, 3) := by decide +kernel
theorem dX7_gives_47 : decode cX7_gives 47 = .ok (.iconst 0, 1) := by decide +kernel
theorem dX7_gives_48 : decode cX7_gives 48 = .ok (.istore_n 3, 1) := by decide +kernel
theorem dX7_gives_49 : decode cX7_gives 49 = .ok (.iload_n 3, 1) := by decide +kernel
theorem dX7_gives_50 : decode cX7_gives 50 = .ok (.aload_n 0, 1) := by decide +kernel
theorem dX7_gives_51 : decode cX7_gives 51 = .ok (.getfield 91, 3) := by decide +kernel
theorem dX7_gives_54 : decode cX7_gives 54 = .ok (.if_icmp .ge 21, 3) := by decide +kernel
theorem dX7_gives_57 : decode cX7_gives 57 = .ok (.aload_n 0, 1) := by decide +kernel
theorem dX7_gives_58 : decode cX7_gives 58 = .ok (.getfield 77, 3) := by decide +kernel
theorem dX7_gives_61 : decode cX7_gives 61 = .ok (.iload_n 3, 1) := by decide +kernel
theorem dX7_gives_62 : decode cX7_gives 62 = .ok (.aload_n 0, 1) := by decide +kernel
theorem dX7_gives_63 : decode cX7_gives 63 = .ok (.getfield 74, 3) := by decide +kernel
theorem dX7_gives_66 : decode cX7_gives 66 = .ok (.iload_n 3, 1) := by decide +kernel
theorem dX7_gives_67 : decode cX7_gives 67 = .ok (.iaload, 1) := by decide +kernel
theorem dX7_gives_68 : decode cX7_gives 68 = .ok (.iastore, 1) := by decide +kernel
theorem dX7_gives_69 : decode cX7_gives 69 = .ok (.iinc 3 1, 3) := by decide +kernel
theorem dX7_gives_72 : decode cX7_gives 72 = .ok (.goto (-23), 3) := by decide +kernel
theorem dX7_gives_75 : decode cX7_gives 75 = .ok (.return_, 1) := by decide +kernel
theorem dX7_gives_76 : decode cX7_gives 76 = .ok (.iconst 0, 1) := by decide +kernel
theorem dX7_gives_77 : decode cX7_gives 77 = .ok (.istore_n 3, 1) := by decide +kernel
theorem dX7_gives_78 : decode cX7_gives 78 = .ok (.iload_n 3, 1) := by decide +kernel
theorem dX7_gives_79 : decode cX7_gives 79 = .ok (.aload_n 0, 1) := by decide +kernel
theorem dX7_gives_80 : decode cX7_gives 80 = .ok (.getfield 91, 3) := by decide +kernel
theorem dX7_gives_83 : decode cX7_gives 83 = .ok (.if_icmp .ge 40, 3) := by decide +kernel
theorem dX7_gives_86 : decode cX7_gives 86 = .ok (.iload_n 2, 1) := by decide +kernel
theorem dX7_gives_87 : decode cX7_gives 87 = .ok (.iload_n 3, 1) := by decide +kernel
theorem dX7_gives_88 : decode cX7_gives 88 = .ok (.ishr, 1) := by decide +kernel
theorem dX7_gives_89 : decode cX7_gives 89 = .ok (.iconst 1, 1) := by decide +kernel
theorem dX7_gives_90 : decode cX7_gives 90 = .ok (.iand, 1) := by decide +kernel
theorem dX7_gives_91 : decode cX7_gives 91 = .ok (.iconst 1, 1) := by decide +kernel
theorem dX7_gives_92 : decode cX7_gives 92 = .ok (.if_icmp .ne 6, 3) := by decide +kernel
theorem dX7_gives_95 : decode cX7_gives 95 = .ok (.goto 22, 3) := by decide +kernel
theorem dX7_gives_98 : decode cX7_gives 98 = .ok (.aload_n 0, 1) := by decide +kernel
theorem dX7_gives_99 : decode cX7_gives 99 = .ok (.getfield 74, 3) := by decide +kernel
theorem dX7_gives_102 : decode cX7_gives 102 = .ok (.iload_n 1, 1) := by decide +kernel
theorem dX7_gives_103 : decode cX7_gives 103 = .ok (.iload_n 3, 1) := by decide +kernel
theorem dX7_gives_104 : decode cX7_gives 104 = .ok (.iastore, 1) := by decide +kernel
theorem dX7_gives_105 : decode cX7_gives 105 = .ok (.aload_n 0, 1) := by decide +kernel
theorem dX7_gives_106 : decode cX7_gives 106 = .ok (.iload_n 1, 1) := by decide +kernel
theorem dX7_gives_107 : decode cX7_gives 107 = .ok (.iconst 1, 1) := by decide +kernel
theorem dX7_gives_108 : decode cX7_gives 108 = .ok (.iadd, 1) := by decide +kernel
theorem dX7_gives_109 : decode cX7_gives 109 = .ok (.iload_n 2, 1) := by decide +kernel
theorem dX7_gives_110 : decode cX7_gives 110 = .ok (.iconst 1, 1) := by decide +kernel
theorem dX7_gives_111 : decode cX7_gives 111 = .ok (.iload_n 3, 1) := by decide +kernel
theorem dX7_gives_112 : decode cX7_gives 112 = .ok (.ishl, 1) := by decide +kernel
theorem dX7_gives_113 : decode cX7_gives 113 = .ok (.ior, 1) := by decide +kernel
theorem dX7_gives_114 : decode cX7_gives 114 = .ok (.invokevirtual 204, 3) := by decide +kernel
theorem dX7_gives_117 : decode cX7_gives 117 = .ok (.iinc 3 1, 3) := by decide +kernel
theorem dX7_gives_120 : decode cX7_gives 120 = .ok (.goto (-42), 3) := by decide +kernel
theorem dX7_gives_123 : decode cX7_gives 123 = .ok (.return_, 1) := by decide +kernel
theorem dX7_order_0 : decode cX7_order 0 = .ok (.aload_n 0, 1) := by decide +kernel
theorem dX7_order_1 : decode cX7_order 1 = .ok (.getfield 91, 3) := by decide +kernel
theorem dX7_order_4 : decode cX7_order 4 = .ok (.iconst 1, 1) := by decide +kernel
theorem dX7_order_5 : decode cX7_order 5 = .ok (.bipush 6, 2) := by decide +kernel
theorem dX7_order_7 : decode cX7_order 7 = .ok (.invokestatic 87, 3) := by decide +kernel
theorem dX7_order_10 : decode cX7_order 10 = .ok (.ifCond .ne 6, 3) := by decide +kernel
theorem dX7_order_13 : decode cX7_order 13 = .ok (.bipush (-3), 2) := by decide +kernel
theorem dX7_order_15 : decode cX7_order 15 = .ok (.ireturn, 1) := by decide +kernel
theorem dX7_order_16 : decode cX7_order 16 = .ok (.aload_n 0, 1) := by decide +kernel
theorem dX7_order_17 : decode cX7_order 17 = .ok (.invokevirtual 140, 3) := by decide +kernel
theorem dX7_order_20 : decode cX7_order 20 = .ok (.aload_n 0, 1) := by decide +kernel
theorem dX7_order_21 : decode cX7_order 21 = .ok (.iconst (-1), 1) := by decide +kernel
theorem dX7_order_22 : decode cX7_order 22 = .ok (.putfield 201, 3) := by decide +kernel
theorem dX7_order_25 : decode cX7_order 25 = .ok (.aload_n 0, 1) := by decide +kernel
theorem dX7_order_26 : decode cX7_order 26 = .ok (.iconst 0, 1) := by decide +kernel
theorem dX7_order_27 : decode cX7_order 27 = .ok (.iconst 0, 1) := by decide +kernel
theorem dX7_order_28 : decode cX7_order 28 = .ok (.invokevirtual 204, 3) := by decide +kernel
theorem dX7_order_31 : decode cX7_order 31 = .ok (.iconst 0, 1) := by decide +kernel
theorem dX7_order_32 : decode cX7_order 32 = .ok (.istore_n 1, 1) := by decide +kernel
theorem dX7_order_33 : decode cX7_order 33 = .ok (.iload_n 1, 1) := by decide +kernel
theorem dX7_order_34 : decode cX7_order 34 = .ok (.aload_n 0, 1) := by decide +kernel
theorem dX7_order_35 : decode cX7_order 35 = .ok (.getfield 91, 3) := by decide +kernel
theorem dX7_order_38 : decode cX7_order 38 = .ok (.if_icmp .ge 21, 3) := by decide +kernel
theorem dX7_order_41 : decode cX7_order 41 = .ok (.aload_n 0, 1) := by decide +kernel
theorem dX7_order_42 : decode cX7_order 42 = .ok (.getfield 74, 3) := by decide +kernel
theorem dX7_order_45 : decode cX7_order 45 = .ok (.iload_n 1, 1) := by decide +kernel
theorem dX7_order_46 : decode cX7_order 46 = .ok (.aload_n 0, 1) := by decide +kernel
theorem dX7_order_47 : decode cX7_order 47 = .ok (.getfield 77, 3) := by decide +kernel
theorem dX7_order_50 : decode cX7_order 50 = .ok (.iload_n 1, 1) := by decide +kernel
theorem dX7_order_51 : decode cX7_order 51 = .ok (.iaload, 1) := by decide +kernel
theorem dX7_order_52 : decode cX7_order 52 = .ok (.iastore, 1) := by decide +kernel
theorem dX7_order_53 : decode cX7_order 53 = .ok (.iinc 1 1, 3) := by decide +kernel
theorem dX7_order_56 : decode cX7_order 56 = .ok (.goto (-23), 3) := by decide +kernel
theorem dX7_order_59 : decode cX7_order 59 = .ok (.aload_n 0, 1) := by decide +kernel
theorem dX7_order_60 : decode cX7_order 60 = .ok (.invokevirtual 198, 3) := by decide +kernel
theorem dX7_order_63 : decode cX7_order 63 = .ok (.aload_n 0, 1) := by decide +kernel
theorem dX7_order_64 : decode cX7_order 64 = .ok (.getfield 201, 3) := by decide +kernel
theorem dX7_order_67 : decode cX7_order 67 = .ok (.ireturn, 1) := by decide +kernel
theorem dX7_rain_0 : decode cX7_rain 0 = .ok (.aload_n 0, 1) := by decide +kernel
theorem dX7_rain_1 : decode cX7_rain 1 = .ok (.iload_n 1, 1) := by decide +kernel
theorem dX7_rain_2 : decode cX7_rain 2 = .ok (.invokevirtual 106, 3) := by decide +kernel
theorem dX7_rain_5 : decode cX7_rain 5 = .ok (.ifCond .ne 5, 3) := by decide +kernel
theorem dX7_rain_8 : decode cX7_rain 8 = .ok (.iconst (-1), 1) := by decide +kernel
theorem dX7_rain_9 : decode cX7_rain 9 = .ok (.ireturn, 1) := by decide +kernel
theorem dX7_rain_10 : decode cX7_rain 10 = .ok (.iconst 0, 1) := by decide +kernel
theorem dX7_rain_11 : decode cX7_rain 11 = .ok (.istore_n 2, 1) := by decide +kernel
theorem dX7_rain_12 : decode cX7_rain 12 = .ok (.iconst 0, 1) := by decide +kernel
theorem dX7_rain_13 : decode cX7_rain 13 = .ok (.istore_n 3, 1) := by decide +kernel
theorem dX7_rain_14 : decode cX7_rain 14 = .ok (.iconst 0, 1) := by decide +kernel
theorem dX7_rain_15 : decode cX7_rain 15 = .ok (.istore 4, 2) := by decide +kernel
theorem dX7_rain_17 : decode cX7_rain 17 = .ok (.iload 4, 2) := by decide +kernel
theorem dX7_rain_19 : decode cX7_rain 19 = .ok (.aload_n 0, 1) := by decide +kernel
theorem dX7_rain_20 : decode cX7_rain 20 = .ok (.getfield 84, 3) := by decide +kernel
theorem dX7_rain_23 : decode cX7_rain 23 = .ok (.if_icmp .ge 42, 3) := by decide +kernel
theorem dX7_rain_26 : decode cX7_rain 26 = .ok (.aload_n 0, 1) := by decide +kernel
theorem dX7_rain_27 : decode cX7_rain 27 = .ok (.getfield 29, 3) := by decide +kernel
theorem dX7_rain_30 : decode cX7_rain 30 = .ok (.iload 4, 2) := by decide +kernel
theorem dX7_rain_32 : decode cX7_rain 32 = .ok (.iaload, 1) := by decide +kernel
theorem dX7_rain_33 : decode cX7_rain 33 = .ok (.iload_n 1, 1) := by decide +kernel
theorem dX7_rain_34 : decode cX7_rain 34 = .ok (.if_icmp .ne 25, 3) := by decide +kernel
theorem dX7_rain_37 : decode cX7_rain 37 = .ok (.aload_n 0, 1) := by decide +kernel
theorem dX7_rain_38 : decode cX7_rain 38 = .ok (.getfield 19, 3) := by decide +kernel
theorem dX7_rain_41 : decode cX7_rain 41 = .ok (.iload 4, 2) := by decide +kernel
theorem dX7_rain_43 : decode cX7_rain 43 = .ok (.baload, 1) := by decide +kernel
theorem dX7_rain_44 : decode cX7_rain 44 = .ok (.ifCond .ne 6, 3) := by decide +kernel
theorem dX7_rain_47 : decode cX7_rain 47 = .ok (.goto 12, 3) := by decide +kernel
theorem dX7_rain_50 : decode cX7_rain 50 = .ok (.aload_n 0, 1) := by decide +kernel
theorem dX7_rain_51 : decode cX7_rain 51 = .ok (.iload 4, 2) := by decide +kernel
theorem dX7_rain_53 : decode cX7_rain 53 = .ok (.invokevirtual 152, 3) := by decide +kernel
theorem dX7_rain_56 : decode cX7_rain 56 = .ok (.iinc 2 1, 3) := by decide +kernel
theorem dX7_rain_59 : decode cX7_rain 59 = .ok (.iinc 4 1, 3) := by decide +kernel
theorem dX7_rain_62 : decode cX7_rain 62 = .ok (.goto (-45), 3) := by decide +kernel
theorem dX7_rain_65 : decode cX7_rain 65 = .ok (.iconst 0, 1) := by decide +kernel
theorem dX7_rain_66 : decode cX7_rain 66 = .ok (.istore 4, 2) := by decide +kernel
theorem dX7_rain_68 : decode cX7_rain 68 = .ok (.iload 4, 2) := by decide +kernel
theorem dX7_rain_70 : decode cX7_rain 70 = .ok (.aload_n 0, 1) := by decide +kernel
theorem dX7_rain_71 : decode cX7_rain 71 = .ok (.getfield 84, 3) := by decide +kernel
theorem dX7_rain_74 : decode cX7_rain 74 = .ok (.if_icmp .ge 43, 3) := by decide +kernel
theorem dX7_rain_77 : decode cX7_rain 77 = .ok (.aload_n 0, 1) := by decide +kernel
theorem dX7_rain_78 : decode cX7_rain 78 = .ok (.getfield 29, 3) := by decide +kernel
theorem dX7_rain_81 : decode cX7_rain 81 = .ok (.iload 4, 2) := by decide +kernel
theorem dX7_rain_83 : decode cX7_rain 83 = .ok (.iaload, 1) := by decide +kernel
theorem dX7_rain_84 : decode cX7_rain 84 = .ok (.iconst (-1), 1) := by decide +kernel
theorem dX7_rain_85 : decode cX7_rain 85 = .ok (.if_icmp .ne 26, 3) := by decide +kernel
theorem dX7_rain_88 : decode cX7_rain 88 = .ok (.aload_n 0, 1) := by decide +kernel
theorem dX7_rain_89 : decode cX7_rain 89 = .ok (.getfield 19, 3) := by decide +kernel
theorem dX7_rain_92 : decode cX7_rain 92 = .ok (.iload 4, 2) := by decide +kernel
theorem dX7_rain_94 : decode cX7_rain 94 = .ok (.baload, 1) := by decide +kernel
theorem dX7_rain_95 : decode cX7_rain 95 = .ok (.ifCond .ne 16, 3) := by decide +kernel
theorem dX7_rain_98 : decode cX7_rain 98 = .ok (.aload_n 0, 1) := by decide +kernel
theorem dX7_rain_99 : decode cX7_rain 99 = .ok (.iload 4, 2) := by decide +kernel
theorem dX7_rain_101 : decode cX7_rain 101 = .ok (.iload_n 1, 1) := by decide +kernel
theorem dX7_rain_102 : decode cX7_rain 102 = .ok (.invokevirtual 143, 3) := by decide +kernel
theorem dX7_rain_105 : decode cX7_rain 105 = .ok (.ifCond .eq 6, 3) := by decide +kernel
theorem dX7_rain_108 : decode cX7_rain 108 = .ok (.iinc 3 1, 3) := by decide +kernel
theorem dX7_rain_111 : decode cX7_rain 111 = .ok (.iinc 4 1, 3) := by decide +kernel
theorem dX7_rain_114 : decode cX7_rain 114 = .ok (.goto (-46), 3) := by decide +kernel
theorem dX7_rain_117 : decode cX7_rain 117 = .ok (.bipush 16, 2) := by decide +kernel
theorem dX7_rain_119 : decode cX7_rain 119 = .ok (.iload_n 2, 1) := by decide +kernel
theorem dX7_rain_120 : decode cX7_rain 120 = .ok (.imul, 1) := by decide +kernel
theorem dX7_rain_121 : decode cX7_rain 121 = .ok (.iload_n 3, 1) := by decide +kernel
theorem dX7_rain_122 : decode cX7_rain 122 = .ok (.iadd, 1) := by decide +kernel
theorem dX7_rain_123 : decode cX7_rain 123 = .ok (.ireturn, 1) := by decide +kernel
theorem dX7_about_0 : decode cX7_about 0 = .ok (.aload_n 0, 1) := by decide +kernel
theorem dX7_about_1 : decode cX7_about 1 = .ok (.iload_n 1, 1) := by decide +kernel
theorem dX7_about_2 : decode cX7_about 2 = .ok (.invokevirtual 98, 3) := by decide +kernel
theorem dX7_about_5 : decode cX7_about 5 = .ok (.ifCond .ne 5, 3) := by decide +kernel
theorem dX7_about_8 : decode cX7_about 8 = .ok (.iconst (-1), 1) := by decide +kernel
theorem dX7_about_9 : decode cX7_about 9 = .ok (.ireturn, 1) := by decide +kernel
theorem dX7_about_10 : decode cX7_about 10 = .ok (.iload_n 2, 1) := by decide +kernel
theorem dX7_about_11 : decode cX7_about 11 = .ok (.tableswitch 108 0 7 #[45, 52, 59, 66, 81, 88, 95, 101], 45) := by decide +kernel
theorem dX7_about_56 : decode cX7_about 56 = .ok (.aload_n 0, 1) := by decide +kernel
theorem dX7_about_57 : decode cX7_about 57 = .ok (.getfield 7, 3) := by decide +kernel
theorem dX7_about_60 : decode cX7_about 60 = .ok (.iload_n 1, 1) := by decide +kernel
theorem dX7_about_61 : decode cX7_about 61 = .ok (.iaload, 1) := by decide +kernel
theorem dX7_about_62 : decode cX7_about 62 = .ok (.ireturn, 1) := by decide +kernel
theorem dX7_about_63 : decode cX7_about 63 = .ok (.aload_n 0, 1) := by decide +kernel
theorem dX7_about_64 : decode cX7_about 64 = .ok (.getfield 13, 3) := by decide +kernel
theorem dX7_about_67 : decode cX7_about 67 = .ok (.iload_n 1, 1) := by decide +kernel
theorem dX7_about_68 : decode cX7_about 68 = .ok (.iaload, 1) := by decide +kernel
theorem dX7_about_69 : decode cX7_about 69 = .ok (.ireturn, 1) := by decide +kernel
theorem dX7_about_70 : decode cX7_about 70 = .ok (.aload_n 0, 1) := by decide +kernel
theorem dX7_about_71 : decode cX7_about 71 = .ok (.getfield 16, 3) := by decide +kernel
theorem dX7_about_74 : decode cX7_about 74 = .ok (.iload_n 1, 1) := by decide +kernel
theorem dX7_about_75 : decode cX7_about 75 = .ok (.iaload, 1) := by decide +kernel
theorem dX7_about_76 : decode cX7_about 76 = .ok (.ireturn, 1) := by decide +kernel
theorem dX7_about_77 : decode cX7_about 77 = .ok (.aload_n 0, 1) := by decide +kernel
theorem dX7_about_78 : decode cX7_about 78 = .ok (.getfield 19, 3) := by decide +kernel
theorem dX7_about_81 : decode cX7_about 81 = .ok (.iload_n 1, 1) := by decide +kernel
theorem dX7_about_82 : decode cX7_about 82 = .ok (.baload, 1) := by decide +kernel
theorem dX7_about_83 : decode cX7_about 83 = .ok (.ifCond .eq 7, 3) := by decide +kernel
theorem dX7_about_86 : decode cX7_about 86 = .ok (.iconst 1, 1) := by decide +kernel
theorem dX7_about_87 : decode cX7_about 87 = .ok (.goto 4, 3) := by decide +kernel
theorem dX7_about_90 : decode cX7_about 90 = .ok (.iconst 0, 1) := by decide +kernel
theorem dX7_about_91 : decode cX7_about 91 = .ok (.ireturn, 1) := by decide +kernel
theorem dX7_about_92 : decode cX7_about 92 = .ok (.aload_n 0, 1) := by decide +kernel
theorem dX7_about_93 : decode cX7_about 93 = .ok (.getfield 23, 3) := by decide +kernel
theorem dX7_about_96 : decode cX7_about 96 = .ok (.iload_n 1, 1) := by decide +kernel
theorem dX7_about_97 : decode cX7_about 97 = .ok (.iaload, 1) := by decide +kernel
theorem dX7_about_98 : decode cX7_about 98 = .ok (.ireturn, 1) := by decide +kernel
theorem dX7_about_99 : decode cX7_about 99 = .ok (.aload_n 0, 1) := by decide +kernel
theorem dX7_about_100 : decode cX7_about 100 = .ok (.getfield 29, 3) := by decide +kernel
theorem dX7_about_103 : decode cX7_about 103 = .ok (.iload_n 1, 1) := by decide +kernel
theorem dX7_about_104 : decode cX7_about 104 = .ok (.iaload, 1) := by decide +kernel
theorem dX7_about_105 : decode cX7_about 105 = .ok (.ireturn, 1) := by decide +kernel
theorem dX7_about_106 : decode cX7_about 106 = .ok (.aload_n 0, 1) := by decide +kernel
theorem dX7_about_107 : decode cX7_about 107 = .ok (.iload_n 1, 1) := by decide +kernel
theorem dX7_about_108 : decode cX7_about 108 = .ok (.invokevirtual 113, 3) := by decide +kernel
theorem dX7_about_111 : decode cX7_about 111 = .ok (.ireturn, 1) := by decide +kernel
theorem dX7_about_112 : decode cX7_about 112 = .ok (.aload_n 0, 1) := by decide +kernel
theorem dX7_about_113 : decode cX7_about 113 = .ok (.getfield 26, 3) := by decide +kernel
theorem dX7_about_116 : decode cX7_about 116 = .ok (.iload_n 1, 1) := by decide +kernel
theorem dX7_about_117 : decode cX7_about 117 = .ok (.iaload, 1) := by decide +kernel
theorem dX7_about_118 : decode cX7_about 118 = .ok (.ireturn, 1) := by decide +kernel
theorem dX7_about_119 : decode cX7_about 119 = .ok (.iconst (-1), 1) := by decide +kernel
theorem dX7_about_120 : decode cX7_about 120 = .ok (.ireturn, 1) := by decide +kernel
theorem dX7_row_0 : decode cX7_row 0 = .ok (.aload_n 0, 1) := by decide +kernel
theorem dX7_row_1 : decode cX7_row 1 = .ok (.iload_n 1, 1) := by decide +kernel
theorem dX7_row_2 : decode cX7_row 2 = .ok (.invokevirtual 106, 3) := by decide +kernel
theorem dX7_row_5 : decode cX7_row 5 = .ok (.ifCond .eq 32, 3) := by decide +kernel
theorem dX7_row_8 : decode cX7_row 8 = .ok (.iload_n 2, 1) := by decide +kernel
theorem dX7_row_9 : decode cX7_row 9 = .ok (.iconst 0, 1) := by decide +kernel
theorem dX7_row_10 : decode cX7_row 10 = .ok (.aload_n 0, 1) := by decide +kernel
theorem dX7_row_11 : decode cX7_row 11 = .ok (.getfield 50, 3) := by decide +kernel
theorem dX7_row_14 : decode cX7_row 14 = .ok (.iload_n 1, 1) := by decide +kernel
theorem dX7_row_15 : decode cX7_row 15 = .ok (.iaload, 1) := by decide +kernel
theorem dX7_row_16 : decode cX7_row 16 = .ok (.iconst 1, 1) := by decide +kernel
theorem dX7_row_17 : decode cX7_row 17 = .ok (.isub, 1) := by decide +kernel
theorem dX7_row_18 : decode cX7_row 18 = .ok (.invokestatic 87, 3) := by decide +kernel
theorem dX7_row_21 : decode cX7_row 21 = .ok (.ifCond .eq 16, 3) := by decide +kernel
theorem dX7_row_24 : decode cX7_row 24 = .ok (.aload_n 0, 1) := by decide +kernel
theorem dX7_row_25 : decode cX7_row 25 = .ok (.getfield 53, 3) := by decide +kernel
theorem dX7_row_28 : decode cX7_row 28 = .ok (.iconst 5, 1) := by decide +kernel
theorem dX7_row_29 : decode cX7_row 29 = .ok (.iload_n 1, 1) := by decide +kernel
theorem dX7_row_30 : decode cX7_row 30 = .ok (.imul, 1) := by decide +kernel
theorem dX7_row_31 : decode cX7_row 31 = .ok (.iload_n 2, 1) := by decide +kernel
theorem dX7_row_32 : decode cX7_row 32 = .ok (.iadd, 1) := by decide +kernel
theorem dX7_row_33 : decode cX7_row 33 = .ok (.iaload, 1) := by decide +kernel
theorem dX7_row_34 : decode cX7_row 34 = .ok (.goto 4, 3) := by decide +kernel
theorem dX7_row_37 : decode cX7_row 37 = .ok (.iconst (-1), 1) := by decide +kernel
theorem dX7_row_38 : decode cX7_row 38 = .ok (.ireturn, 1) := by decide +kernel
theorem dX7_of_0 : decode cX7_of 0 = .ok (.aload_n 0, 1) := by decide +kernel
theorem dX7_of_1 : decode cX7_of 1 = .ok (.iload_n 1, 1) := by decide +kernel
theorem dX7_of_2 : decode cX7_of 2 = .ok (.invokevirtual 106, 3) := by decide +kernel
theorem dX7_of_5 : decode cX7_of 5 = .ok (.ifCond .ne 5, 3) := by decide +kernel
theorem dX7_of_8 : decode cX7_of 8 = .ok (.iconst (-1), 1) := by decide +kernel
theorem dX7_of_9 : decode cX7_of 9 = .ok (.ireturn, 1) := by decide +kernel
theorem dX7_of_10 : decode cX7_of 10 = .ok (.iconst 0, 1) := by decide +kernel
theorem dX7_of_11 : decode cX7_of 11 = .ok (.istore_n 3, 1) := by decide +kernel
theorem dX7_of_12 : decode cX7_of 12 = .ok (.iload_n 2, 1) := by decide +kernel
theorem dX7_of_13 : decode cX7_of 13 = .ok (.tableswitch 120 0 5 #[39, 46, 52, 58, 99, 105], 39) := by decide +kernel
theorem dX7_of_52 : decode cX7_of 52 = .ok (.aload_n 0, 1) := by decide +kernel
theorem dX7_of_53 : decode cX7_of 53 = .ok (.getfield 50, 3) := by decide +kernel
theorem dX7_of_56 : decode cX7_of 56 = .ok (.iload_n 1, 1) := by decide +kernel
theorem dX7_of_57 : decode cX7_of 57 = .ok (.iaload, 1) := by decide +kernel
theorem dX7_of_58 : decode cX7_of 58 = .ok (.ireturn, 1) := by decide +kernel
theorem dX7_of_59 : decode cX7_of 59 = .ok (.aload_n 0, 1) := by decide +kernel
theorem dX7_of_60 : decode cX7_of 60 = .ok (.iload_n 1, 1) := by decide +kernel
theorem dX7_of_61 : decode cX7_of 61 = .ok (.invokevirtual 117, 3) := by decide +kernel
theorem dX7_of_64 : decode cX7_of 64 = .ok (.ireturn, 1) := by decide +kernel
theorem dX7_of_65 : decode cX7_of 65 = .ok (.aload_n 0, 1) := by decide +kernel
theorem dX7_of_66 : decode cX7_of 66 = .ok (.iload_n 1, 1) := by decide +kernel
theorem dX7_of_67 : decode cX7_of 67 = .ok (.invokevirtual 177, 3) := by decide +kernel
theorem dX7_of_70 : decode cX7_of 70 = .ok (.ireturn, 1) := by decide +kernel
theorem dX7_of_71 : decode cX7_of 71 = .ok (.iconst 0, 1) := by decide +kernel
theorem dX7_of_72 : decode cX7_of 72 = .ok (.istore 4, 2) := by decide +kernel
theorem dX7_of_74 : decode cX7_of 74 = .ok (.iload 4, 2) := by decide +kernel
theorem dX7_of_76 : decode cX7_of 76 = .ok (.aload_n 0, 1) := by decide +kernel
theorem dX7_of_77 : decode cX7_of 77 = .ok (.getfield 50, 3) := by decide +kernel
theorem dX7_of_80 : decode cX7_of 80 = .ok (.iload_n 1, 1) := by decide +kernel
theorem dX7_of_81 : decode cX7_of 81 = .ok (.iaload, 1) := by decide +kernel
theorem dX7_of_82 : decode cX7_of 82 = .ok (.if_icmp .ge 28, 3) := by decide +kernel
theorem dX7_of_85 : decode cX7_of 85 = .ok (.iload_n 3, 1) := by decide +kernel
theorem dX7_of_86 : decode cX7_of 86 = .ok (.aload_n 0, 1) := by decide +kernel
theorem dX7_of_87 : decode cX7_of 87 = .ok (.getfield 23, 3) := by decide +kernel
theorem dX7_of_90 : decode cX7_of 90 = .ok (.aload_n 0, 1) := by decide +kernel
theorem dX7_of_91 : decode cX7_of 91 = .ok (.getfield 53, 3) := by decide +kernel
theorem dX7_of_94 : decode cX7_of 94 = .ok (.iconst 5, 1) := by decide +kernel
theorem dX7_of_95 : decode cX7_of 95 = .ok (.iload_n 1, 1) := by decide +kernel
theorem dX7_of_96 : decode cX7_of 96 = .ok (.imul, 1) := by decide +kernel
theorem dX7_of_97 : decode cX7_of 97 = .ok (.iload 4, 2) := by decide +kernel
theorem dX7_of_99 : decode cX7_of 99 = .ok (.iadd, 1) := by decide +kernel
theorem dX7_of_100 : decode cX7_of 100 = .ok (.iaload, 1) := by decide +kernel
theorem dX7_of_101 : decode cX7_of 101 = .ok (.iaload, 1) := by decide +kernel
theorem dX7_of_102 : decode cX7_of 102 = .ok (.ior, 1) := by decide +kernel
theorem dX7_of_103 : decode cX7_of 103 = .ok (.istore_n 3, 1) := by decide +kernel
theorem dX7_of_104 : decode cX7_of 104 = .ok (.iinc 4 1, 3) := by decide +kernel
theorem dX7_of_107 : decode cX7_of 107 = .ok (.goto (-33), 3) := by decide +kernel
theorem dX7_of_110 : decode cX7_of 110 = .ok (.iload_n 3, 1) := by decide +kernel
theorem dX7_of_111 : decode cX7_of 111 = .ok (.ireturn, 1) := by decide +kernel
theorem dX7_of_112 : decode cX7_of 112 = .ok (.aload_n 0, 1) := by decide +kernel
theorem dX7_of_113 : decode cX7_of 113 = .ok (.iload_n 1, 1) := by decide +kernel
theorem dX7_of_114 : decode cX7_of 114 = .ok (.invokevirtual 120, 3) := by decide +kernel
theorem dX7_of_117 : decode cX7_of 117 = .ok (.ireturn, 1) := by decide +kernel
theorem dX7_of_118 : decode cX7_of 118 = .ok (.aload_n 0, 1) := by decide +kernel
theorem dX7_of_119 : decode cX7_of 119 = .ok (.iload_n 1, 1) := by decide +kernel
theorem dX7_of_120 : decode cX7_of 120 = .ok (.iconst 2, 1) := by decide +kernel
theorem dX7_of_121 : decode cX7_of 121 = .ok (.invokevirtual 123, 3) := by decide +kernel
theorem dX7_of_124 : decode cX7_of 124 = .ok (.ifCond .eq 7, 3) := by decide +kernel
theorem dX7_of_127 : decode cX7_of 127 = .ok (.iconst 1, 1) := by decide +kernel
theorem dX7_of_128 : decode cX7_of 128 = .ok (.goto 4, 3) := by decide +kernel
theorem dX7_of_131 : decode cX7_of 131 = .ok (.iconst 0, 1) := by decide +kernel
theorem dX7_of_132 : decode cX7_of 132 = .ok (.ireturn, 1) := by decide +kernel
theorem dX7_of_133 : decode cX7_of 133 = .ok (.iconst (-1), 1) := by decide +kernel
theorem dX7_of_134 : decode cX7_of 134 = .ok (.ireturn, 1) := by decide +kernel
theorem dX7_count_0 : decode cX7_count 0 = .ok (.iconst 0, 1) := by decide +kernel
theorem dX7_count_1 : decode cX7_count 1 = .ok (.istore_n 2, 1) := by decide +kernel
theorem dX7_count_2 : decode cX7_count 2 = .ok (.iload_n 1, 1) := by decide +kernel
theorem dX7_count_3 : decode cX7_count 3 = .ok (.tableswitch 134 0 3 #[29, 34, 39, 75], 29) := by decide +kernel
theorem dX7_count_32 : decode cX7_count 32 = .ok (.aload_n 0, 1) := by decide +kernel
theorem dX7_count_33 : decode cX7_count 33 = .ok (.getfield 84, 3) := by decide +kernel
theorem dX7_count_36 : decode cX7_count 36 = .ok (.ireturn, 1) := by decide +kernel
theorem dX7_count_37 : decode cX7_count 37 = .ok (.aload_n 0, 1) := by decide +kernel
theorem dX7_count_38 : decode cX7_count 38 = .ok (.getfield 91, 3) := by decide +kernel
theorem dX7_count_41 : decode cX7_count 41 = .ok (.ireturn, 1) := by decide +kernel
theorem dX7_count_42 : decode cX7_count 42 = .ok (.iconst 0, 1) := by decide +kernel
theorem dX7_count_43 : decode cX7_count 43 = .ok (.istore_n 3, 1) := by decide +kernel
theorem dX7_count_44 : decode cX7_count 44 = .ok (.iload_n 3, 1) := by decide +kernel
theorem dX7_count_45 : decode cX7_count 45 = .ok (.aload_n 0, 1) := by decide +kernel
theorem dX7_count_46 : decode cX7_count 46 = .ok (.getfield 84, 3) := by decide +kernel
theorem dX7_count_49 : decode cX7_count 49 = .ok (.if_icmp .ge 27, 3) := by decide +kernel
theorem dX7_count_52 : decode cX7_count 52 = .ok (.iload_n 2, 1) := by decide +kernel
theorem dX7_count_53 : decode cX7_count 53 = .ok (.aload_n 0, 1) := by decide +kernel
theorem dX7_count_54 : decode cX7_count 54 = .ok (.getfield 29, 3) := by decide +kernel
theorem dX7_count_57 : decode cX7_count 57 = .ok (.iload_n 3, 1) := by decide +kernel
theorem dX7_count_58 : decode cX7_count 58 = .ok (.iaload, 1) := by decide +kernel
theorem dX7_count_59 : decode cX7_count 59 = .ok (.iconst (-1), 1) := by decide +kernel
theorem dX7_count_60 : decode cX7_count 60 = .ok (.if_icmp .ne 7, 3) := by decide +kernel
theorem dX7_count_63 : decode cX7_count 63 = .ok (.iconst 0, 1) := by decide +kernel
theorem dX7_count_64 : decode cX7_count 64 = .ok (.goto 4, 3) := by decide +kernel
theorem dX7_count_67 : decode cX7_count 67 = .ok (.iconst 1, 1) := by decide +kernel
theorem dX7_count_68 : decode cX7_count 68 = .ok (.iadd, 1) := by decide +kernel
theorem dX7_count_69 : decode cX7_count 69 = .ok (.istore_n 2, 1) := by decide +kernel
theorem dX7_count_70 : decode cX7_count 70 = .ok (.iinc 3 1, 3) := by decide +kernel
theorem dX7_count_73 : decode cX7_count 73 = .ok (.goto (-29), 3) := by decide +kernel
theorem dX7_count_76 : decode cX7_count 76 = .ok (.iload_n 2, 1) := by decide +kernel
theorem dX7_count_77 : decode cX7_count 77 = .ok (.ireturn, 1) := by decide +kernel
theorem dX7_count_78 : decode cX7_count 78 = .ok (.iconst 0, 1) := by decide +kernel
theorem dX7_count_79 : decode cX7_count 79 = .ok (.istore_n 3, 1) := by decide +kernel
theorem dX7_count_80 : decode cX7_count 80 = .ok (.iconst 0, 1) := by decide +kernel
theorem dX7_count_81 : decode cX7_count 81 = .ok (.istore 4, 2) := by decide +kernel
theorem dX7_count_83 : decode cX7_count 83 = .ok (.iload 4, 2) := by decide +kernel
theorem dX7_count_85 : decode cX7_count 85 = .ok (.aload_n 0, 1) := by decide +kernel
theorem dX7_count_86 : decode cX7_count 86 = .ok (.getfield 84, 3) := by decide +kernel
theorem dX7_count_89 : decode cX7_count 89 = .ok (.if_icmp .ge 19, 3) := by decide +kernel
theorem dX7_count_92 : decode cX7_count 92 = .ok (.iload_n 3, 1) := by decide +kernel
theorem dX7_count_93 : decode cX7_count 93 = .ok (.aload_n 0, 1) := by decide +kernel
theorem dX7_count_94 : decode cX7_count 94 = .ok (.getfield 26, 3) := by decide +kernel
theorem dX7_count_97 : decode cX7_count 97 = .ok (.iload 4, 2) := by decide +kernel
theorem dX7_count_99 : decode cX7_count 99 = .ok (.iaload, 1) := by decide +kernel
theorem dX7_count_100 : decode cX7_count 100 = .ok (.ior, 1) := by decide +kernel
theorem dX7_count_101 : decode cX7_count 101 = .ok (.istore_n 3, 1) := by decide +kernel
theorem dX7_count_102 : decode cX7_count 102 = .ok (.iinc 4 1, 3) := by decide +kernel
theorem dX7_count_105 : decode cX7_count 105 = .ok (.goto (-22), 3) := by decide +kernel
theorem dX7_count_108 : decode cX7_count 108 = .ok (.iconst 0, 1) := by decide +kernel
theorem dX7_count_109 : decode cX7_count 109 = .ok (.istore 4, 2) := by decide +kernel
theorem dX7_count_111 : decode cX7_count 111 = .ok (.iload 4, 2) := by decide +kernel
theorem dX7_count_113 : decode cX7_count 113 = .ok (.aload_n 0, 1) := by decide +kernel
theorem dX7_count_114 : decode cX7_count 114 = .ok (.getfield 84, 3) := by decide +kernel
theorem dX7_count_117 : decode cX7_count 117 = .ok (.if_icmp .ge 18, 3) := by decide +kernel
theorem dX7_count_120 : decode cX7_count 120 = .ok (.iload_n 2, 1) := by decide +kernel
theorem dX7_count_121 : decode cX7_count 121 = .ok (.iload_n 3, 1) := by decide +kernel
theorem dX7_count_122 : decode cX7_count 122 = .ok (.iload 4, 2) := by decide +kernel
theorem dX7_count_124 : decode cX7_count 124 = .ok (.ishr, 1) := by decide +kernel
theorem dX7_count_125 : decode cX7_count 125 = .ok (.iconst 1, 1) := by decide +kernel
theorem dX7_count_126 : decode cX7_count 126 = .ok (.iand, 1) := by decide +kernel
theorem dX7_count_127 : decode cX7_count 127 = .ok (.iadd, 1) := by decide +kernel
theorem dX7_count_128 : decode cX7_count 128 = .ok (.istore_n 2, 1) := by decide +kernel
theorem dX7_count_129 : decode cX7_count 129 = .ok (.iinc 4 1, 3) := by decide +kernel
theorem dX7_count_132 : decode cX7_count 132 = .ok (.goto (-21), 3) := by decide +kernel
theorem dX7_count_135 : decode cX7_count 135 = .ok (.iload_n 2, 1) := by decide +kernel
theorem dX7_count_136 : decode cX7_count 136 = .ok (.ireturn, 1) := by decide +kernel
theorem dX7_count_137 : decode cX7_count 137 = .ok (.iconst (-1), 1) := by decide +kernel
theorem dX7_count_138 : decode cX7_count 138 = .ok (.ireturn, 1) := by decide +kernel
