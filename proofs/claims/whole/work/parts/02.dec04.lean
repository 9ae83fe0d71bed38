theorem dX9_copyNow_0 : decode cX9_copyNow 0 = .ok (.iconst 0, 1) := by decide +kernel
theorem dX9_copyNow_1 : decode cX9_copyNow 1 = .ok (.istore_n 1, 1) := by decide +kernel
theorem dX9_copyNow_2 : decode cX9_copyNow 2 = .ok (.iload_n 1, 1) := by decide +kernel
theorem dX9_copyNow_3 : decode cX9_copyNow 3 = .ok (.bipush 17, 2) := by decide +kernel
theorem dX9_copyNow_5 : decode cX9_copyNow 5 = .ok (.if_icmp .ge 21, 3) := by decide +kernel
theorem dX9_copyNow_8 : decode cX9_copyNow 8 = .ok (.aload_n 0, 1) := by decide +kernel
theorem dX9_copyNow_9 : decode cX9_copyNow 9 = .ok (.getfield 28, 3) := by decide +kernel
theorem dX9_copyNow_12 : decode cX9_copyNow 12 = .ok (.iload_n 1, 1) := by decide +kernel
theorem dX9_copyNow_13 : decode cX9_copyNow 13 = .ok (.aload_n 0, 1) := by decide +kernel
theorem dX9_copyNow_14 : decode cX9_copyNow 14 = .ok (.getfield 25, 3) := by decide +kernel
theorem dX9_copyNow_17 : decode cX9_copyNow 17 = .ok (.iload_n 1, 1) := by decide +kernel
theorem dX9_copyNow_18 : decode cX9_copyNow 18 = .ok (.iaload, 1) := by decide +kernel
theorem dX9_copyNow_19 : decode cX9_copyNow 19 = .ok (.iastore, 1) := by decide +kernel
theorem dX9_copyNow_20 : decode cX9_copyNow 20 = .ok (.iinc 1 1, 3) := by decide +kernel
theorem dX9_copyNow_23 : decode cX9_copyNow 23 = .ok (.goto (-21), 3) := by decide +kernel
theorem dX9_copyNow_26 : decode cX9_copyNow 26 = .ok (.return_, 1) := by decide +kernel
theorem dX9_closes_0 : decode cX9_closes 0 = .ok (.aload_n 0, 1) := by decide +kernel
theorem dX9_closes_1 : decode cX9_closes 1 = .ok (.iload_n 1, 1) := by decide +kernel
theorem dX9_closes_2 : decode cX9_closes 2 = .ok (.invokevirtual 137, 3) := by decide +kernel
theorem dX9_closes_5 : decode cX9_closes 5 = .ok (.ifCond .ne 5, 3) := by decide +kernel
theorem dX9_closes_8 : decode cX9_closes 8 = .ok (.iconst (-1), 1) := by decide +kernel
theorem dX9_closes_9 : decode cX9_closes 9 = .ok (.ireturn, 1) := by decide +kernel
theorem dX9_closes_10 : decode cX9_closes 10 = .ok (.aload_n 0, 1) := by decide +kernel
theorem dX9_closes_11 : decode cX9_closes 11 = .ok (.invokevirtual 177, 3) := by decide +kernel
theorem dX9_closes_14 : decode cX9_closes 14 = .ok (.iconst 0, 1) := by decide +kernel
theorem dX9_closes_15 : decode cX9_closes 15 = .ok (.istore_n 2, 1) := by decide +kernel
theorem dX9_closes_16 : decode cX9_closes 16 = .ok (.iload_n 2, 1) := by decide +kernel
theorem dX9_closes_17 : decode cX9_closes 17 = .ok (.bipush 60, 2) := by decide +kernel
theorem dX9_closes_19 : decode cX9_closes 19 = .ok (.if_icmp .gt 31, 3) := by decide +kernel
theorem dX9_closes_22 : decode cX9_closes 22 = .ok (.aload_n 0, 1) := by decide +kernel
theorem dX9_closes_23 : decode cX9_closes 23 = .ok (.aload_n 0, 1) := by decide +kernel
theorem dX9_closes_24 : decode cX9_closes 24 = .ok (.getfield 28, 3) := by decide +kernel
theorem dX9_closes_27 : decode cX9_closes 27 = .ok (.iload_n 1, 1) := by decide +kernel
theorem dX9_closes_28 : decode cX9_closes 28 = .ok (.invokevirtual 116, 3) := by decide +kernel
theorem dX9_closes_31 : decode cX9_closes 31 = .ok (.ifCond .eq 5, 3) := by decide +kernel
theorem dX9_closes_34 : decode cX9_closes 34 = .ok (.iload_n 2, 1) := by decide +kernel
theorem dX9_closes_35 : decode cX9_closes 35 = .ok (.ireturn, 1) := by decide +kernel
theorem dX9_closes_36 : decode cX9_closes 36 = .ok (.aload_n 0, 1) := by decide +kernel
theorem dX9_closes_37 : decode cX9_closes 37 = .ok (.aload_n 0, 1) := by decide +kernel
theorem dX9_closes_38 : decode cX9_closes 38 = .ok (.getfield 28, 3) := by decide +kernel
theorem dX9_closes_41 : decode cX9_closes 41 = .ok (.invokevirtual 173, 3) := by decide +kernel
theorem dX9_closes_44 : decode cX9_closes 44 = .ok (.iinc 2 1, 3) := by decide +kernel
theorem dX9_closes_47 : decode cX9_closes 47 = .ok (.goto (-31), 3) := by decide +kernel
theorem dX9_closes_50 : decode cX9_closes 50 = .ok (.bipush (-4), 2) := by decide +kernel
theorem dX9_closes_52 : decode cX9_closes 52 = .ok (.ireturn, 1) := by decide +kernel
theorem dX9_dusk_0 : decode cX9_dusk 0 = .ok (.aload_n 0, 1) := by decide +kernel
theorem dX9_dusk_1 : decode cX9_dusk 1 = .ok (.invokevirtual 177, 3) := by decide +kernel
theorem dX9_dusk_4 : decode cX9_dusk 4 = .ok (.iconst 0, 1) := by decide +kernel
theorem dX9_dusk_5 : decode cX9_dusk 5 = .ok (.istore_n 1, 1) := by decide +kernel
theorem dX9_dusk_6 : decode cX9_dusk 6 = .ok (.iload_n 1, 1) := by decide +kernel
theorem dX9_dusk_7 : decode cX9_dusk 7 = .ok (.bipush 24, 2) := by decide +kernel
theorem dX9_dusk_9 : decode cX9_dusk 9 = .ok (.if_icmp .ge 30, 3) := by decide +kernel
theorem dX9_dusk_12 : decode cX9_dusk 12 = .ok (.aload_n 0, 1) := by decide +kernel
theorem dX9_dusk_13 : decode cX9_dusk 13 = .ok (.aload_n 0, 1) := by decide +kernel
theorem dX9_dusk_14 : decode cX9_dusk 14 = .ok (.getfield 28, 3) := by decide +kernel
theorem dX9_dusk_17 : decode cX9_dusk 17 = .ok (.iconst 0, 1) := by decide +kernel
theorem dX9_dusk_18 : decode cX9_dusk 18 = .ok (.iaload, 1) := by decide +kernel
theorem dX9_dusk_19 : decode cX9_dusk 19 = .ok (.invokevirtual 123, 3) := by decide +kernel
theorem dX9_dusk_22 : decode cX9_dusk 22 = .ok (.ifCond .eq 17, 3) := by decide +kernel
theorem dX9_dusk_25 : decode cX9_dusk 25 = .ok (.aload_n 0, 1) := by decide +kernel
theorem dX9_dusk_26 : decode cX9_dusk 26 = .ok (.aload_n 0, 1) := by decide +kernel
theorem dX9_dusk_27 : decode cX9_dusk 27 = .ok (.getfield 28, 3) := by decide +kernel
theorem dX9_dusk_30 : decode cX9_dusk 30 = .ok (.invokevirtual 173, 3) := by decide +kernel
theorem dX9_dusk_33 : decode cX9_dusk 33 = .ok (.iinc 1 1, 3) := by decide +kernel
theorem dX9_dusk_36 : decode cX9_dusk 36 = .ok (.goto (-30), 3) := by decide +kernel
theorem dX9_dusk_39 : decode cX9_dusk 39 = .ok (.aload_n 0, 1) := by decide +kernel
theorem dX9_dusk_40 : decode cX9_dusk 40 = .ok (.aload_n 0, 1) := by decide +kernel
theorem dX9_dusk_41 : decode cX9_dusk 41 = .ok (.getfield 28, 3) := by decide +kernel
theorem dX9_dusk_44 : decode cX9_dusk 44 = .ok (.invokevirtual 159, 3) := by decide +kernel
theorem dX9_dusk_47 : decode cX9_dusk 47 = .ok (.ireturn, 1) := by decide +kernel
theorem dX9_inRow_0 : decode cX9_inRow 0 = .ok (.aload_n 0, 1) := by decide +kernel
theorem dX9_inRow_1 : decode cX9_inRow 1 = .ok (.getfield 22, 3) := by decide +kernel
theorem dX9_inRow_4 : decode cX9_inRow 4 = .ok (.iconst 1, 1) := by decide +kernel
theorem dX9_inRow_5 : decode cX9_inRow 5 = .ok (.iaload, 1) := by decide +kernel
theorem dX9_inRow_6 : decode cX9_inRow 6 = .ok (.iconst 1, 1) := by decide +kernel
theorem dX9_inRow_7 : decode cX9_inRow 7 = .ok (.iadd, 1) := by decide +kernel
theorem dX9_inRow_8 : decode cX9_inRow 8 = .ok (.istore_n 3, 1) := by decide +kernel
theorem dX9_inRow_9 : decode cX9_inRow 9 = .ok (.iload_n 2, 1) := by decide +kernel
theorem dX9_inRow_10 : decode cX9_inRow 10 = .ok (.ifCond .ne 11, 3) := by decide +kernel
theorem dX9_inRow_13 : decode cX9_inRow 13 = .ok (.iload_n 1, 1) := by decide +kernel
theorem dX9_inRow_14 : decode cX9_inRow 14 = .ok (.iload_n 3, 1) := by decide +kernel
theorem dX9_inRow_15 : decode cX9_inRow 15 = .ok (.idiv, 1) := by decide +kernel
theorem dX9_inRow_16 : decode cX9_inRow 16 = .ok (.iload_n 3, 1) := by decide +kernel
theorem dX9_inRow_17 : decode cX9_inRow 17 = .ok (.idiv, 1) := by decide +kernel
theorem dX9_inRow_18 : decode cX9_inRow 18 = .ok (.goto 15, 3) := by decide +kernel
theorem dX9_inRow_21 : decode cX9_inRow 21 = .ok (.iload_n 2, 1) := by decide +kernel
theorem dX9_inRow_22 : decode cX9_inRow 22 = .ok (.iconst 1, 1) := by decide +kernel
theorem dX9_inRow_23 : decode cX9_inRow 23 = .ok (.if_icmp .ne 9, 3) := by decide +kernel
theorem dX9_inRow_26 : decode cX9_inRow 26 = .ok (.iload_n 1, 1) := by decide +kernel
theorem dX9_inRow_27 : decode cX9_inRow 27 = .ok (.iload_n 3, 1) := by decide +kernel
theorem dX9_inRow_28 : decode cX9_inRow 28 = .ok (.idiv, 1) := by decide +kernel
theorem dX9_inRow_29 : decode cX9_inRow 29 = .ok (.goto 4, 3) := by decide +kernel
theorem dX9_inRow_32 : decode cX9_inRow 32 = .ok (.iload_n 1, 1) := by decide +kernel
theorem dX9_inRow_33 : decode cX9_inRow 33 = .ok (.istore 4, 2) := by decide +kernel
theorem dX9_inRow_35 : decode cX9_inRow 35 = .ok (.iload 4, 2) := by decide +kernel
theorem dX9_inRow_37 : decode cX9_inRow 37 = .ok (.iload_n 3, 1) := by decide +kernel
theorem dX9_inRow_38 : decode cX9_inRow 38 = .ok (.irem, 1) := by decide +kernel
theorem dX9_inRow_39 : decode cX9_inRow 39 = .ok (.iconst 1, 1) := by decide +kernel
theorem dX9_inRow_40 : decode cX9_inRow 40 = .ok (.isub, 1) := by decide +kernel
theorem dX9_inRow_41 : decode cX9_inRow 41 = .ok (.ireturn, 1) := by decide +kernel
theorem dX9_rowHours_0 : decode cX9_rowHours 0 = .ok (.aload_n 0, 1) := by decide +kernel
theorem dX9_rowHours_1 : decode cX9_rowHours 1 = .ok (.aload_n 0, 1) := by decide +kernel
theorem dX9_rowHours_2 : decode cX9_rowHours 2 = .ok (.getfield 25, 3) := by decide +kernel
theorem dX9_rowHours_5 : decode cX9_rowHours 5 = .ok (.invokevirtual 159, 3) := by decide +kernel
theorem dX9_rowHours_8 : decode cX9_rowHours 8 = .ok (.istore 4, 2) := by decide +kernel
theorem dX9_rowHours_10 : decode cX9_rowHours 10 = .ok (.iconst 0, 1) := by decide +kernel
theorem dX9_rowHours_11 : decode cX9_rowHours 11 = .ok (.istore 5, 2) := by decide +kernel
theorem dX9_rowHours_13 : decode cX9_rowHours 13 = .ok (.iconst 1, 1) := by decide +kernel
theorem dX9_rowHours_14 : decode cX9_rowHours 14 = .ok (.istore 6, 2) := by decide +kernel
theorem dX9_rowHours_16 : decode cX9_rowHours 16 = .ok (.iconst 0, 1) := by decide +kernel
theorem dX9_rowHours_17 : decode cX9_rowHours 17 = .ok (.istore 7, 2) := by decide +kernel
theorem dX9_rowHours_19 : decode cX9_rowHours 19 = .ok (.iload 7, 2) := by decide +kernel
theorem dX9_rowHours_21 : decode cX9_rowHours 21 = .ok (.iconst 3, 1) := by decide +kernel
theorem dX9_rowHours_22 : decode cX9_rowHours 22 = .ok (.if_icmp .ge 85, 3) := by decide +kernel
theorem dX9_rowHours_25 : decode cX9_rowHours 25 = .ok (.aload_n 0, 1) := by decide +kernel
theorem dX9_rowHours_26 : decode cX9_rowHours 26 = .ok (.iload_n 3, 1) := by decide +kernel
theorem dX9_rowHours_27 : decode cX9_rowHours 27 = .ok (.iload 7, 2) := by decide +kernel
theorem dX9_rowHours_29 : decode cX9_rowHours 29 = .ok (.invokevirtual 180, 3) := by decide +kernel
theorem dX9_rowHours_32 : decode cX9_rowHours 32 = .ok (.istore 8, 2) := by decide +kernel
theorem dX9_rowHours_34 : decode cX9_rowHours 34 = .ok (.iload 6, 2) := by decide +kernel
theorem dX9_rowHours_36 : decode cX9_rowHours 36 = .ok (.ifCond .eq 29, 3) := by decide +kernel
theorem dX9_rowHours_39 : decode cX9_rowHours 39 = .ok (.iload 8, 2) := by decide +kernel
theorem dX9_rowHours_41 : decode cX9_rowHours 41 = .ok (.ifCond .lt 20, 3) := by decide +kernel
theorem dX9_rowHours_44 : decode cX9_rowHours 44 = .ok (.iload 5, 2) := by decide +kernel
theorem dX9_rowHours_46 : decode cX9_rowHours 46 = .ok (.iload 7, 2) := by decide +kernel
theorem dX9_rowHours_48 : decode cX9_rowHours 48 = .ok (.if_icmp .ne 17, 3) := by decide +kernel
theorem dX9_rowHours_51 : decode cX9_rowHours 51 = .ok (.iload 4, 2) := by decide +kernel
theorem dX9_rowHours_53 : decode cX9_rowHours 53 = .ok (.iload 8, 2) := by decide +kernel
theorem dX9_rowHours_55 : decode cX9_rowHours 55 = .ok (.invokestatic 143, 3) := by decide +kernel
theorem dX9_rowHours_58 : decode cX9_rowHours 58 = .ok (.ifCond .ne 7, 3) := by decide +kernel
theorem dX9_rowHours_61 : decode cX9_rowHours 61 = .ok (.iconst 1, 1) := by decide +kernel
theorem dX9_rowHours_62 : decode cX9_rowHours 62 = .ok (.goto 4, 3) := by decide +kernel
theorem dX9_rowHours_65 : decode cX9_rowHours 65 = .ok (.iconst 0, 1) := by decide +kernel
theorem dX9_rowHours_66 : decode cX9_rowHours 66 = .ok (.istore 6, 2) := by decide +kernel
theorem dX9_rowHours_68 : decode cX9_rowHours 68 = .ok (.iload 4, 2) := by decide +kernel
theorem dX9_rowHours_70 : decode cX9_rowHours 70 = .ok (.iload 8, 2) := by decide +kernel
theorem dX9_rowHours_72 : decode cX9_rowHours 72 = .ok (.ifCond .ge 7, 3) := by decide +kernel
theorem dX9_rowHours_75 : decode cX9_rowHours 75 = .ok (.iconst 0, 1) := by decide +kernel
theorem dX9_rowHours_76 : decode cX9_rowHours 76 = .ok (.goto 7, 3) := by decide +kernel
theorem dX9_rowHours_79 : decode cX9_rowHours 79 = .ok (.iconst 1, 1) := by decide +kernel
theorem dX9_rowHours_80 : decode cX9_rowHours 80 = .ok (.iload 8, 2) := by decide +kernel
theorem dX9_rowHours_82 : decode cX9_rowHours 82 = .ok (.ishl, 1) := by decide +kernel
theorem dX9_rowHours_83 : decode cX9_rowHours 83 = .ok (.ior, 1) := by decide +kernel
theorem dX9_rowHours_84 : decode cX9_rowHours 84 = .ok (.istore 4, 2) := by decide +kernel
theorem dX9_rowHours_86 : decode cX9_rowHours 86 = .ok (.iload 5, 2) := by decide +kernel
theorem dX9_rowHours_88 : decode cX9_rowHours 88 = .ok (.iload 8, 2) := by decide +kernel
theorem dX9_rowHours_90 : decode cX9_rowHours 90 = .ok (.ifCond .ge 7, 3) := by decide +kernel
theorem dX9_rowHours_93 : decode cX9_rowHours 93 = .ok (.iconst 0, 1) := by decide +kernel
theorem dX9_rowHours_94 : decode cX9_rowHours 94 = .ok (.goto 4, 3) := by decide +kernel
theorem dX9_rowHours_97 : decode cX9_rowHours 97 = .ok (.iconst 1, 1) := by decide +kernel
theorem dX9_rowHours_98 : decode cX9_rowHours 98 = .ok (.iadd, 1) := by decide +kernel
theorem dX9_rowHours_99 : decode cX9_rowHours 99 = .ok (.istore 5, 2) := by decide +kernel
theorem dX9_rowHours_101 : decode cX9_rowHours 101 = .ok (.iinc 7 1, 3) := by decide +kernel
theorem dX9_rowHours_104 : decode cX9_rowHours 104 = .ok (.goto (-85), 3) := by decide +kernel
theorem dX9_rowHours_107 : decode cX9_rowHours 107 = .ok (.aload_n 0, 1) := by decide +kernel
theorem dX9_rowHours_108 : decode cX9_rowHours 108 = .ok (.invokevirtual 177, 3) := by decide +kernel
theorem dX9_rowHours_111 : decode cX9_rowHours 111 = .ok (.iconst 0, 1) := by decide +kernel
theorem dX9_rowHours_112 : decode cX9_rowHours 112 = .ok (.istore 7, 2) := by decide +kernel
theorem dX9_rowHours_114 : decode cX9_rowHours 114 = .ok (.iload 7, 2) := by decide +kernel
theorem dX9_rowHours_116 : decode cX9_rowHours 116 = .ok (.aload_n 0, 1) := by decide +kernel
theorem dX9_rowHours_117 : decode cX9_rowHours 117 = .ok (.getfield 22, 3) := by decide +kernel
theorem dX9_rowHours_120 : decode cX9_rowHours 120 = .ok (.iconst 2, 1) := by decide +kernel
theorem dX9_rowHours_121 : decode cX9_rowHours 121 = .ok (.iaload, 1) := by decide +kernel
theorem dX9_rowHours_122 : decode cX9_rowHours 122 = .ok (.if_icmp .ge 21, 3) := by decide +kernel
theorem dX9_rowHours_125 : decode cX9_rowHours 125 = .ok (.aload_n 0, 1) := by decide +kernel
theorem dX9_rowHours_126 : decode cX9_rowHours 126 = .ok (.getfield 28, 3) := by decide +kernel
theorem dX9_rowHours_129 : decode cX9_rowHours 129 = .ok (.bipush 13, 2) := by decide +kernel
theorem dX9_rowHours_131 : decode cX9_rowHours 131 = .ok (.iload 7, 2) := by decide +kernel
theorem dX9_rowHours_133 : decode cX9_rowHours 133 = .ok (.iadd, 1) := by decide +kernel
theorem dX9_rowHours_134 : decode cX9_rowHours 134 = .ok (.bipush (-4), 2) := by decide +kernel
theorem dX9_rowHours_136 : decode cX9_rowHours 136 = .ok (.iastore, 1) := by decide +kernel
theorem dX9_rowHours_137 : decode cX9_rowHours 137 = .ok (.iinc 7 1, 3) := by decide +kernel
theorem dX9_rowHours_140 : decode cX9_rowHours 140 = .ok (.goto (-26), 3) := by decide +kernel
theorem dX9_rowHours_143 : decode cX9_rowHours 143 = .ok (.iconst 0, 1) := by decide +kernel
theorem dX9_rowHours_144 : decode cX9_rowHours 144 = .ok (.istore 7, 2) := by decide +kernel
theorem dX9_rowHours_146 : decode cX9_rowHours 146 = .ok (.iconst 0, 1) := by decide +kernel
theorem dX9_rowHours_147 : decode cX9_rowHours 147 = .ok (.istore 8, 2) := by decide +kernel
theorem dX9_rowHours_149 : decode cX9_rowHours 149 = .ok (.iload 8, 2) := by decide +kernel
theorem dX9_rowHours_151 : decode cX9_rowHours 151 = .ok (.iload 5, 2) := by decide +kernel
theorem dX9_rowHours_153 : decode cX9_rowHours 153 = .ok (.if_icmp .ge 79, 3) := by decide +kernel
theorem dX9_rowHours_156 : decode cX9_rowHours 156 = .ok (.iload 6, 2) := by decide +kernel
theorem dX9_rowHours_158 : decode cX9_rowHours 158 = .ok (.ifCond .eq 74, 3) := by decide +kernel
theorem dX9_rowHours_161 : decode cX9_rowHours 161 = .ok (.aload_n 0, 1) := by decide +kernel
theorem dX9_rowHours_162 : decode cX9_rowHours 162 = .ok (.iload_n 3, 1) := by decide +kernel
theorem dX9_rowHours_163 : decode cX9_rowHours 163 = .ok (.iload 8, 2) := by decide +kernel
theorem dX9_rowHours_165 : decode cX9_rowHours 165 = .ok (.invokevirtual 180, 3) := by decide +kernel
theorem dX9_rowHours_168 : decode cX9_rowHours 168 = .ok (.istore 9, 2) := by decide +kernel
theorem dX9_rowHours_170 : decode cX9_rowHours 170 = .ok (.aload_n 0, 1) := by decide +kernel
theorem dX9_rowHours_171 : decode cX9_rowHours 171 = .ok (.getfield 28, 3) := by decide +kernel
theorem dX9_rowHours_174 : decode cX9_rowHours 174 = .ok (.bipush 13, 2) := by decide +kernel
theorem dX9_rowHours_176 : decode cX9_rowHours 176 = .ok (.iload_n 1, 1) := by decide +kernel
theorem dX9_rowHours_177 : decode cX9_rowHours 177 = .ok (.iadd, 1) := by decide +kernel
theorem dX9_rowHours_178 : decode cX9_rowHours 178 = .ok (.iload 9, 2) := by decide +kernel
theorem dX9_rowHours_180 : decode cX9_rowHours 180 = .ok (.iastore, 1) := by decide +kernel
theorem dX9_rowHours_181 : decode cX9_rowHours 181 = .ok (.iload 7, 2) := by decide +kernel
theorem dX9_rowHours_183 : decode cX9_rowHours 183 = .ok (.iload_n 2, 1) := by decide +kernel
theorem dX9_rowHours_184 : decode cX9_rowHours 184 = .ok (.if_icmp .ge 30, 3) := by decide +kernel
theorem dX9_rowHours_187 : decode cX9_rowHours 187 = .ok (.aload_n 0, 1) := by decide +kernel
theorem dX9_rowHours_188 : decode cX9_rowHours 188 = .ok (.aload_n 0, 1) := by decide +kernel
theorem dX9_rowHours_189 : decode cX9_rowHours 189 = .ok (.getfield 28, 3) := by decide +kernel
theorem dX9_rowHours_192 : decode cX9_rowHours 192 = .ok (.iload 9, 2) := by decide +kernel
theorem dX9_rowHours_194 : decode cX9_rowHours 194 = .ok (.invokevirtual 116, 3) := by decide +kernel
theorem dX9_rowHours_197 : decode cX9_rowHours 197 = .ok (.ifCond .ne 17, 3) := by decide +kernel
theorem dX9_rowHours_200 : decode cX9_rowHours 200 = .ok (.aload_n 0, 1) := by decide +kernel
theorem dX9_rowHours_201 : decode cX9_rowHours 201 = .ok (.aload_n 0, 1) := by decide +kernel
theorem dX9_rowHours_202 : decode cX9_rowHours 202 = .ok (.getfield 28, 3) := by decide +kernel
theorem dX9_rowHours_205 : decode cX9_rowHours 205 = .ok (.invokevirtual 173, 3) := by decide +kernel
theorem dX9_rowHours_208 : decode cX9_rowHours 208 = .ok (.iinc 7 1, 3) := by decide +kernel
theorem dX9_rowHours_211 : decode cX9_rowHours 211 = .ok (.goto (-30), 3) := by decide +kernel
theorem dX9_rowHours_214 : decode cX9_rowHours 214 = .ok (.aload_n 0, 1) := by decide +kernel
theorem dX9_rowHours_215 : decode cX9_rowHours 215 = .ok (.aload_n 0, 1) := by decide +kernel
theorem dX9_rowHours_216 : decode cX9_rowHours 216 = .ok (.getfield 28, 3) := by decide +kernel
theorem dX9_rowHours_219 : decode cX9_rowHours 219 = .ok (.iload 9, 2) := by decide +kernel
theorem dX9_rowHours_221 : decode cX9_rowHours 221 = .ok (.invokevirtual 116, 3) := by decide +kernel
theorem dX9_rowHours_224 : decode cX9_rowHours 224 = .ok (.istore 6, 2) := by decide +kernel
theorem dX9_rowHours_226 : decode cX9_rowHours 226 = .ok (.iinc 8 1, 3) := by decide +kernel
theorem dX9_rowHours_229 : decode cX9_rowHours 229 = .ok (.goto (-80), 3) := by decide +kernel
theorem dX9_rowHours_232 : decode cX9_rowHours 232 = .ok (.iload 6, 2) := by decide +kernel
theorem dX9_rowHours_234 : decode cX9_rowHours 234 = .ok (.ifCond .eq 8, 3) := by decide +kernel
theorem dX9_rowHours_237 : decode cX9_rowHours 237 = .ok (.iload 7, 2) := by decide +kernel
theorem dX9_rowHours_239 : decode cX9_rowHours 239 = .ok (.goto 5, 3) := by decide +kernel
theorem dX9_rowHours_242 : decode cX9_rowHours 242 = .ok (.ldc 183, 2) := by decide +kernel
theorem dX9_rowHours_244 : decode cX9_rowHours 244 = .ok (.ireturn, 1) := by decide +kernel
theorem dX9_rowMany_0 : decode cX9_rowMany 0 = .ok (.iconst 0, 1) := by decide +kernel
theorem dX9_rowMany_1 : decode cX9_rowMany 1 = .ok (.istore_n 2, 1) := by decide +kernel
theorem dX9_rowMany_2 : decode cX9_rowMany 2 = .ok (.iconst 0, 1) := by decide +kernel
theorem dX9_rowMany_3 : decode cX9_rowMany 3 = .ok (.istore_n 3, 1) := by decide +kernel
theorem dX9_rowMany_4 : decode cX9_rowMany 4 = .ok (.iload_n 3, 1) := by decide +kernel
theorem dX9_rowMany_5 : decode cX9_rowMany 5 = .ok (.iconst 3, 1) := by decide +kernel
theorem dX9_rowMany_6 : decode cX9_rowMany 6 = .ok (.if_icmp .ge 26, 3) := by decide +kernel
theorem dX9_rowMany_9 : decode cX9_rowMany 9 = .ok (.iload_n 2, 1) := by decide +kernel
theorem dX9_rowMany_10 : decode cX9_rowMany 10 = .ok (.aload_n 0, 1) := by decide +kernel
theorem dX9_rowMany_11 : decode cX9_rowMany 11 = .ok (.iload_n 1, 1) := by decide +kernel
theorem dX9_rowMany_12 : decode cX9_rowMany 12 = .ok (.iload_n 3, 1) := by decide +kernel
theorem dX9_rowMany_13 : decode cX9_rowMany 13 = .ok (.invokevirtual 180, 3) := by decide +kernel
theorem dX9_rowMany_16 : decode cX9_rowMany 16 = .ok (.ifCond .ge 7, 3) := by decide +kernel
theorem dX9_rowMany_19 : decode cX9_rowMany 19 = .ok (.iconst 0, 1) := by decide +kernel
theorem dX9_rowMany_20 : decode cX9_rowMany 20 = .ok (.goto 4, 3) := by decide +kernel
theorem dX9_rowMany_23 : decode cX9_rowMany 23 = .ok (.iconst 1, 1) := by decide +kernel
theorem dX9_rowMany_24 : decode cX9_rowMany 24 = .ok (.iadd, 1) := by decide +kernel
theorem dX9_rowMany_25 : decode cX9_rowMany 25 = .ok (.istore_n 2, 1) := by decide +kernel
theorem dX9_rowMany_26 : decode cX9_rowMany 26 = .ok (.iinc 3 1, 3) := by decide +kernel
theorem dX9_rowMany_29 : decode cX9_rowMany 29 = .ok (.goto (-25), 3) := by decide +kernel
theorem dX9_rowMany_32 : decode cX9_rowMany 32 = .ok (.iload_n 2, 1) := by decide +kernel
theorem dX9_rowMany_33 : decode cX9_rowMany 33 = .ok (.ireturn, 1) := by decide +kernel
theorem dX9_order_0 : decode cX9_order 0 = .ok (.aload_n 0, 1) := by decide +kernel
theorem dX9_order_1 : decode cX9_order 1 = .ok (.iload_n 1, 1) := by decide +kernel
theorem dX9_order_2 : decode cX9_order 2 = .ok (.invokevirtual 140, 3) := by decide +kernel
theorem dX9_order_5 : decode cX9_order 5 = .ok (.ifCond .eq 22, 3) := by decide +kernel
theorem dX9_order_8 : decode cX9_order 8 = .ok (.iload_n 2, 1) := by decide +kernel
theorem dX9_order_9 : decode cX9_order 9 = .ok (.iconst 1, 1) := by decide +kernel
theorem dX9_order_10 : decode cX9_order 10 = .ok (.bipush 24, 2) := by decide +kernel
theorem dX9_order_12 : decode cX9_order 12 = .ok (.invokestatic 54, 3) := by decide +kernel
theorem dX9_order_15 : decode cX9_order 15 = .ok (.ifCond .eq 12, 3) := by decide +kernel
theorem dX9_order_18 : decode cX9_order 18 = .ok (.iload_n 3, 1) := by decide +kernel
theorem dX9_order_19 : decode cX9_order 19 = .ok (.iconst (-1), 1) := by decide +kernel
theorem dX9_order_20 : decode cX9_order 20 = .ok (.iconst 3, 1) := by decide +kernel
theorem dX9_order_21 : decode cX9_order 21 = .ok (.invokestatic 54, 3) := by decide +kernel
theorem dX9_order_24 : decode cX9_order 24 = .ok (.ifCond .ne 5, 3) := by decide +kernel
theorem dX9_order_27 : decode cX9_order 27 = .ok (.iconst (-1), 1) := by decide +kernel
theorem dX9_order_28 : decode cX9_order 28 = .ok (.ireturn, 1) := by decide +kernel
theorem dX9_order_29 : decode cX9_order 29 = .ok (.aload_n 0, 1) := by decide +kernel
theorem dX9_order_30 : decode cX9_order 30 = .ok (.getfield 22, 3) := by decide +kernel
theorem dX9_order_33 : decode cX9_order 33 = .ok (.iconst 1, 1) := by decide +kernel
theorem dX9_order_34 : decode cX9_order 34 = .ok (.iaload, 1) := by decide +kernel
theorem dX9_order_35 : decode cX9_order 35 = .ok (.iconst 1, 1) := by decide +kernel
theorem dX9_order_36 : decode cX9_order 36 = .ok (.iadd, 1) := by decide +kernel
theorem dX9_order_37 : decode cX9_order 37 = .ok (.istore 4, 2) := by decide +kernel
theorem dX9_order_39 : decode cX9_order 39 = .ok (.iconst 0, 1) := by decide +kernel
theorem dX9_order_40 : decode cX9_order 40 = .ok (.istore 5, 2) := by decide +kernel
theorem dX9_order_42 : decode cX9_order 42 = .ok (.iconst 0, 1) := by decide +kernel
theorem dX9_order_43 : decode cX9_order 43 = .ok (.istore 6, 2) := by decide +kernel
theorem dX9_order_45 : decode cX9_order 45 = .ok (.iconst 1, 1) := by decide +kernel
theorem dX9_order_46 : decode cX9_order 46 = .ok (.istore 7, 2) := by decide +kernel
theorem dX9_order_48 : decode cX9_order 48 = .ok (.iload 7, 2) := by decide +kernel
theorem dX9_order_50 : decode cX9_order 50 = .ok (.iload 4, 2) := by decide +kernel
theorem dX9_order_52 : decode cX9_order 52 = .ok (.iload 4, 2) := by decide +kernel
theorem dX9_order_54 : decode cX9_order 54 = .ok (.imul, 1) := by decide +kernel
theorem dX9_order_55 : decode cX9_order 55 = .ok (.iload 4, 2) := by decide +kernel
theorem dX9_order_57 : decode cX9_order 57 = .ok (.imul, 1) := by decide +kernel
theorem dX9_order_58 : decode cX9_order 58 = .ok (.if_icmp .ge 71, 3) := by decide +kernel
theorem dX9_order_61 : decode cX9_order 61 = .ok (.aload_n 0, 1) := by decide +kernel
theorem dX9_order_62 : decode cX9_order 62 = .ok (.iload 7, 2) := by decide +kernel
theorem dX9_order_64 : decode cX9_order 64 = .ok (.invokevirtual 184, 3) := by decide +kernel
theorem dX9_order_67 : decode cX9_order 67 = .ok (.aload_n 0, 1) := by decide +kernel
theorem dX9_order_68 : decode cX9_order 68 = .ok (.iload 5, 2) := by decide +kernel
theorem dX9_order_70 : decode cX9_order 70 = .ok (.invokevirtual 184, 3) := by decide +kernel
theorem dX9_order_73 : decode cX9_order 73 = .ok (.isub, 1) := by decide +kernel
theorem dX9_order_74 : decode cX9_order 74 = .ok (.istore 8, 2) := by decide +kernel
theorem dX9_order_76 : decode cX9_order 76 = .ok (.iload 8, 2) := by decide +kernel
theorem dX9_order_78 : decode cX9_order 78 = .ok (.ifCond .ge 8, 3) := by decide +kernel
theorem dX9_order_81 : decode cX9_order 81 = .ok (.ldc 183, 2) := by decide +kernel
theorem dX9_order_83 : decode cX9_order 83 = .ok (.goto 11, 3) := by decide +kernel
theorem dX9_order_86 : decode cX9_order 86 = .ok (.aload_n 0, 1) := by decide +kernel
theorem dX9_order_87 : decode cX9_order 87 = .ok (.iload_n 1, 1) := by decide +kernel
theorem dX9_order_88 : decode cX9_order 88 = .ok (.iload_n 2, 1) := by decide +kernel
theorem dX9_order_89 : decode cX9_order 89 = .ok (.iload 7, 2) := by decide +kernel
theorem dX9_order_91 : decode cX9_order 91 = .ok (.invokevirtual 187, 3) := by decide +kernel
theorem dX9_order_94 : decode cX9_order 94 = .ok (.istore 9, 2) := by decide +kernel
theorem dX9_order_96 : decode cX9_order 96 = .ok (.iload 9, 2) := by decide +kernel
theorem dX9_order_98 : decode cX9_order 98 = .ok (.ldc 183, 2) := by decide +kernel
theorem dX9_order_100 : decode cX9_order 100 = .ok (.if_icmp .ge 23, 3) := by decide +kernel
theorem dX9_order_103 : decode cX9_order 103 = .ok (.iload 8, 2) := by decide +kernel
theorem dX9_order_105 : decode cX9_order 105 = .ok (.ifCond .gt 10, 3) := by decide +kernel
theorem dX9_order_108 : decode cX9_order 108 = .ok (.iload 9, 2) := by decide +kernel
theorem dX9_order_110 : decode cX9_order 110 = .ok (.iload 6, 2) := by decide +kernel
theorem dX9_order_112 : decode cX9_order 112 = .ok (.if_icmp .ge 11, 3) := by decide +kernel
theorem dX9_order_115 : decode cX9_order 115 = .ok (.iload 7, 2) := by decide +kernel
theorem dX9_order_117 : decode cX9_order 117 = .ok (.istore 5, 2) := by decide +kernel
theorem dX9_order_119 : decode cX9_order 119 = .ok (.iload 9, 2) := by decide +kernel
theorem dX9_order_121 : decode cX9_order 121 = .ok (.istore 6, 2) := by decide +kernel
theorem dX9_order_123 : decode cX9_order 123 = .ok (.iinc 7 1, 3) := by decide +kernel
theorem dX9_order_126 : decode cX9_order 126 = .ok (.goto (-78), 3) := by decide +kernel
theorem dX9_order_129 : decode cX9_order 129 = .ok (.iload_n 3, 1) := by decide +kernel
theorem dX9_order_130 : decode cX9_order 130 = .ok (.ifCond .lt 8, 3) := by decide +kernel
theorem dX9_order_133 : decode cX9_order 133 = .ok (.iload_n 3, 1) := by decide +kernel
theorem dX9_order_134 : decode cX9_order 134 = .ok (.iconst 2, 1) := by decide +kernel
theorem dX9_order_135 : decode cX9_order 135 = .ok (.if_icmp .le 8, 3) := by decide +kernel
theorem dX9_order_138 : decode cX9_order 138 = .ok (.bipush (-4), 2) := by decide +kernel
theorem dX9_order_140 : decode cX9_order 140 = .ok (.goto 10, 3) := by decide +kernel
theorem dX9_order_143 : decode cX9_order 143 = .ok (.aload_n 0, 1) := by decide +kernel
theorem dX9_order_144 : decode cX9_order 144 = .ok (.iload 5, 2) := by decide +kernel
theorem dX9_order_146 : decode cX9_order 146 = .ok (.iload_n 3, 1) := by decide +kernel
theorem dX9_order_147 : decode cX9_order 147 = .ok (.invokevirtual 180, 3) := by decide +kernel
theorem dX9_order_150 : decode cX9_order 150 = .ok (.istore 7, 2) := by decide +kernel
theorem dX9_order_152 : decode cX9_order 152 = .ok (.iload_n 3, 1) := by decide +kernel
theorem dX9_order_153 : decode cX9_order 153 = .ok (.ifCond .ge 12, 3) := by decide +kernel
theorem dX9_order_156 : decode cX9_order 156 = .ok (.aload_n 0, 1) := by decide +kernel
theorem dX9_order_157 : decode cX9_order 157 = .ok (.iload 5, 2) := by decide +kernel
theorem dX9_order_159 : decode cX9_order 159 = .ok (.invokevirtual 184, 3) := by decide +kernel
theorem dX9_order_162 : decode cX9_order 162 = .ok (.goto 25, 3) := by decide +kernel
theorem dX9_order_165 : decode cX9_order 165 = .ok (.iload_n 3, 1) := by decide +kernel
theorem dX9_order_166 : decode cX9_order 166 = .ok (.iconst 3, 1) := by decide +kernel
theorem dX9_order_167 : decode cX9_order 167 = .ok (.if_icmp .ne 8, 3) := by decide +kernel
theorem dX9_order_170 : decode cX9_order 170 = .ok (.iload 6, 2) := by decide +kernel
theorem dX9_order_172 : decode cX9_order 172 = .ok (.goto 15, 3) := by decide +kernel
theorem dX9_order_175 : decode cX9_order 175 = .ok (.iload 7, 2) := by decide +kernel
theorem dX9_order_177 : decode cX9_order 177 = .ok (.ifCond .ge 8, 3) := by decide +kernel
theorem dX9_order_180 : decode cX9_order 180 = .ok (.bipush (-4), 2) := by decide +kernel
theorem dX9_order_182 : decode cX9_order 182 = .ok (.goto 5, 3) := by decide +kernel
theorem dX9_order_185 : decode cX9_order 185 = .ok (.iload 7, 2) := by decide +kernel
theorem dX9_order_187 : decode cX9_order 187 = .ok (.ireturn, 1) := by decide +kernel
theorem dX9_dealt_0 : decode cX9_dealt 0 = .ok (.iload_n 1, 1) := by decide +kernel
theorem dX9_dealt_1 : decode cX9_dealt 1 = .ok (.istore_n 3, 1) := by decide +kernel
theorem dX9_dealt_2 : decode cX9_dealt 2 = .ok (.aload_n 0, 1) := by decide +kernel
theorem dX9_dealt_3 : decode cX9_dealt 3 = .ok (.getfield 22, 3) := by decide +kernel
theorem dX9_dealt_6 : decode cX9_dealt 6 = .ok (.iconst 2, 1) := by decide +kernel
theorem dX9_dealt_7 : decode cX9_dealt 7 = .ok (.iaload, 1) := by decide +kernel
theorem dX9_dealt_8 : decode cX9_dealt 8 = .ok (.iconst 1, 1) := by decide +kernel
theorem dX9_dealt_9 : decode cX9_dealt 9 = .ok (.isub, 1) := by decide +kernel
theorem dX9_dealt_10 : decode cX9_dealt 10 = .ok (.istore 4, 2) := by decide +kernel
theorem dX9_dealt_12 : decode cX9_dealt 12 = .ok (.iload 4, 2) := by decide +kernel
theorem dX9_dealt_14 : decode cX9_dealt 14 = .ok (.iload_n 2, 1) := by decide +kernel
theorem dX9_dealt_15 : decode cX9_dealt 15 = .ok (.if_icmp .le 20, 3) := by decide +kernel
theorem dX9_dealt_18 : decode cX9_dealt 18 = .ok (.iload_n 3, 1) := by decide +kernel
theorem dX9_dealt_19 : decode cX9_dealt 19 = .ok (.aload_n 0, 1) := by decide +kernel
theorem dX9_dealt_20 : decode cX9_dealt 20 = .ok (.getfield 22, 3) := by decide +kernel
theorem dX9_dealt_23 : decode cX9_dealt 23 = .ok (.iconst 1, 1) := by decide +kernel
theorem dX9_dealt_24 : decode cX9_dealt 24 = .ok (.iaload, 1) := by decide +kernel
theorem dX9_dealt_25 : decode cX9_dealt 25 = .ok (.iconst 1, 1) := by decide +kernel
theorem dX9_dealt_26 : decode cX9_dealt 26 = .ok (.iadd, 1) := by decide +kernel
theorem dX9_dealt_27 : decode cX9_dealt 27 = .ok (.idiv, 1) := by decide +kernel
theorem dX9_dealt_28 : decode cX9_dealt 28 = .ok (.istore_n 3, 1) := by decide +kernel
theorem dX9_dealt_29 : decode cX9_dealt 29 = .ok (.iinc 4 (-1), 3) := by decide +kernel
theorem dX9_dealt_32 : decode cX9_dealt 32 = .ok (.goto (-20), 3) := by decide +kernel
theorem dX9_dealt_35 : decode cX9_dealt 35 = .ok (.iload_n 3, 1) := by decide +kernel
theorem dX9_dealt_36 : decode cX9_dealt 36 = .ok (.aload_n 0, 1) := by decide +kernel
theorem dX9_dealt_37 : decode cX9_dealt 37 = .ok (.getfield 22, 3) := by decide +kernel
theorem dX9_dealt_40 : decode cX9_dealt 40 = .ok (.iconst 1, 1) := by decide +kernel
theorem dX9_dealt_41 : decode cX9_dealt 41 = .ok (.iaload, 1) := by decide +kernel
theorem dX9_dealt_42 : decode cX9_dealt 42 = .ok (.iconst 1, 1) := by decide +kernel
theorem dX9_dealt_43 : decode cX9_dealt 43 = .ok (.iadd, 1) := by decide +kernel
theorem dX9_dealt_44 : decode cX9_dealt 44 = .ok (.irem, 1) := by decide +kernel
theorem dX9_dealt_45 : decode cX9_dealt 45 = .ok (.ireturn, 1) := by decide +kernel
theorem dX9_closedBy_0 : decode cX9_closedBy 0 = .ok (.aload_n 0, 1) := by decide +kernel
theorem dX9_closedBy_1 : decode cX9_closedBy 1 = .ok (.invokevirtual 177, 3) := by decide +kernel
theorem dX9_closedBy_4 : decode cX9_closedBy 4 = .ok (.iconst 0, 1) := by decide +kernel
theorem dX9_closedBy_5 : decode cX9_closedBy 5 = .ok (.istore_n 3, 1) := by decide +kernel
theorem dX9_closedBy_6 : decode cX9_closedBy 6 = .ok (.iload_n 3, 1) := by decide +kernel
theorem dX9_closedBy_7 : decode cX9_closedBy 7 = .ok (.aload_n 0, 1) := by decide +kernel
theorem dX9_closedBy_8 : decode cX9_closedBy 8 = .ok (.getfield 22, 3) := by decide +kernel
theorem dX9_closedBy_11 : decode cX9_closedBy 11 = .ok (.iconst 2, 1) := by decide +kernel
theorem dX9_closedBy_12 : decode cX9_closedBy 12 = .ok (.iaload, 1) := by decide +kernel
theorem dX9_closedBy_13 : decode cX9_closedBy 13 = .ok (.if_icmp .ge 70, 3) := by decide +kernel
theorem dX9_closedBy_16 : decode cX9_closedBy 16 = .ok (.aload_n 0, 1) := by decide +kernel
theorem dX9_closedBy_17 : decode cX9_closedBy 17 = .ok (.iload_n 2, 1) := by decide +kernel
theorem dX9_closedBy_18 : decode cX9_closedBy 18 = .ok (.iload_n 3, 1) := by decide +kernel
theorem dX9_closedBy_19 : decode cX9_closedBy 19 = .ok (.invokevirtual 191, 3) := by decide +kernel
theorem dX9_closedBy_22 : decode cX9_closedBy 22 = .ok (.istore 4, 2) := by decide +kernel
theorem dX9_closedBy_24 : decode cX9_closedBy 24 = .ok (.iload 4, 2) := by decide +kernel
theorem dX9_closedBy_26 : decode cX9_closedBy 26 = .ok (.aload_n 0, 1) := by decide +kernel
theorem dX9_closedBy_27 : decode cX9_closedBy 27 = .ok (.getfield 22, 3) := by decide +kernel
theorem dX9_closedBy_30 : decode cX9_closedBy 30 = .ok (.iconst 1, 1) := by decide +kernel
theorem dX9_closedBy_31 : decode cX9_closedBy 31 = .ok (.iaload, 1) := by decide +kernel
theorem dX9_closedBy_32 : decode cX9_closedBy 32 = .ok (.if_icmp .ge 18, 3) := by decide +kernel
theorem dX9_closedBy_35 : decode cX9_closedBy 35 = .ok (.aload_n 0, 1) := by decide +kernel
theorem dX9_closedBy_36 : decode cX9_closedBy 36 = .ok (.aload_n 0, 1) := by decide +kernel
theorem dX9_closedBy_37 : decode cX9_closedBy 37 = .ok (.getfield 25, 3) := by decide +kernel
theorem dX9_closedBy_40 : decode cX9_closedBy 40 = .ok (.iload 4, 2) := by decide +kernel
theorem dX9_closedBy_42 : decode cX9_closedBy 42 = .ok (.invokevirtual 116, 3) := by decide +kernel
theorem dX9_closedBy_45 : decode cX9_closedBy 45 = .ok (.ifCond .eq 5, 3) := by decide +kernel
theorem dX9_closedBy_48 : decode cX9_closedBy 48 = .ok (.iconst (-1), 1) := by decide +kernel
theorem dX9_closedBy_49 : decode cX9_closedBy 49 = .ok (.ireturn, 1) := by decide +kernel
theorem dX9_closedBy_50 : decode cX9_closedBy 50 = .ok (.aload_n 0, 1) := by decide +kernel
theorem dX9_closedBy_51 : decode cX9_closedBy 51 = .ok (.getfield 28, 3) := by decide +kernel
theorem dX9_closedBy_54 : decode cX9_closedBy 54 = .ok (.bipush 13, 2) := by decide +kernel
theorem dX9_closedBy_56 : decode cX9_closedBy 56 = .ok (.iload_n 3, 1) := by decide +kernel
theorem dX9_closedBy_57 : decode cX9_closedBy 57 = .ok (.iadd, 1) := by decide +kernel
theorem dX9_closedBy_58 : decode cX9_closedBy 58 = .ok (.iload 4, 2) := by decide +kernel
theorem dX9_closedBy_60 : decode cX9_closedBy 60 = .ok (.aload_n 0, 1) := by decide +kernel
theorem dX9_closedBy_61 : decode cX9_closedBy 61 = .ok (.getfield 22, 3) := by decide +kernel
theorem dX9_closedBy_64 : decode cX9_closedBy 64 = .ok (.iconst 1, 1) := by decide +kernel
theorem dX9_closedBy_65 : decode cX9_closedBy 65 = .ok (.iaload, 1) := by decide +kernel
theorem dX9_closedBy_66 : decode cX9_closedBy 66 = .ok (.if_icmp .ge 8, 3) := by decide +kernel
theorem dX9_closedBy_69 : decode cX9_closedBy 69 = .ok (.iload 4, 2) := by decide +kernel
theorem dX9_closedBy_71 : decode cX9_closedBy 71 = .ok (.goto 5, 3) := by decide +kernel
theorem dX9_closedBy_74 : decode cX9_closedBy 74 = .ok (.bipush (-4), 2) := by decide +kernel
theorem dX9_closedBy_76 : decode cX9_closedBy 76 = .ok (.iastore, 1) := by decide +kernel
theorem dX9_closedBy_77 : decode cX9_closedBy 77 = .ok (.iinc 3 1, 3) := by decide +kernel
theorem dX9_closedBy_80 : decode cX9_closedBy 80 = .ok (.goto (-74), 3) := by decide +kernel
theorem dX9_closedBy_83 : decode cX9_closedBy 83 = .ok (.iconst 0, 1) := by decide +kernel
theorem dX9_closedBy_84 : decode cX9_closedBy 84 = .ok (.istore_n 3, 1) := by decide +kernel
theorem dX9_closedBy_85 : decode cX9_closedBy 85 = .ok (.iload_n 3, 1) := by decide +kernel
theorem dX9_closedBy_86 : decode cX9_closedBy 86 = .ok (.iload_n 1, 1) := by decide +kernel
theorem dX9_closedBy_87 : decode cX9_closedBy 87 = .ok (.if_icmp .ge 17, 3) := by decide +kernel
theorem dX9_closedBy_90 : decode cX9_closedBy 90 = .ok (.aload_n 0, 1) := by decide +kernel
theorem dX9_closedBy_91 : decode cX9_closedBy 91 = .ok (.aload_n 0, 1) := by decide +kernel
theorem dX9_closedBy_92 : decode cX9_closedBy 92 = .ok (.getfield 28, 3) := by decide +kernel
theorem dX9_closedBy_95 : decode cX9_closedBy 95 = .ok (.invokevirtual 173, 3) := by decide +kernel
theorem dX9_closedBy_98 : decode cX9_closedBy 98 = .ok (.iinc 3 1, 3) := by decide +kernel
theorem dX9_closedBy_101 : decode cX9_closedBy 101 = .ok (.goto (-16), 3) := by decide +kernel
theorem dX9_closedBy_104 : decode cX9_closedBy 104 = .ok (.aload_n 0, 1) := by decide +kernel
theorem dX9_closedBy_105 : decode cX9_closedBy 105 = .ok (.aload_n 0, 1) := by decide +kernel
theorem dX9_closedBy_106 : decode cX9_closedBy 106 = .ok (.getfield 28, 3) := by decide +kernel
theorem dX9_closedBy_109 : decode cX9_closedBy 109 = .ok (.invokevirtual 159, 3) := by decide +kernel
theorem dX9_closedBy_112 : decode cX9_closedBy 112 = .ok (.invokestatic 153, 3) := by decide +kernel
theorem dX9_closedBy_115 : decode cX9_closedBy 115 = .ok (.ireturn, 1) := by decide +kernel
theorem dX9_deal_0 : decode cX9_deal 0 = .ok (.iload_n 1, 1) := by decide +kernel
theorem dX9_deal_1 : decode cX9_deal 1 = .ok (.iconst 1, 1) := by decide +kernel
theorem dX9_deal_2 : decode cX9_deal 2 = .ok (.bipush 24, 2) := by decide +kernel
theorem dX9_deal_4 : decode cX9_deal 4 = .ok (.invokestatic 54, 3) := by decide +kernel
theorem dX9_deal_7 : decode cX9_deal 7 = .ok (.ifCond .eq 19, 3) := by decide +kernel
theorem dX9_deal_10 : decode cX9_deal 10 = .ok (.iload_n 2, 1) := by decide +kernel
theorem dX9_deal_11 : decode cX9_deal 11 = .ok (.iconst (-1), 1) := by decide +kernel
theorem dX9_deal_12 : decode cX9_deal 12 = .ok (.aload_n 0, 1) := by decide +kernel
theorem dX9_deal_13 : decode cX9_deal 13 = .ok (.getfield 22, 3) := by decide +kernel
theorem dX9_deal_16 : decode cX9_deal 16 = .ok (.iconst 2, 1) := by decide +kernel
theorem dX9_deal_17 : decode cX9_deal 17 = .ok (.iaload, 1) := by decide +kernel
theorem dX9_deal_18 : decode cX9_deal 18 = .ok (.iconst 1, 1) := by decide +kernel
theorem dX9_deal_19 : decode cX9_deal 19 = .ok (.isub, 1) := by decide +kernel
theorem dX9_deal_20 : decode cX9_deal 20 = .ok (.invokestatic 54, 3) := by decide +kernel
theorem dX9_deal_23 : decode cX9_deal 23 = .ok (.ifCond .ne 5, 3) := by decide +kernel
theorem dX9_deal_26 : decode cX9_deal 26 = .ok (.iconst (-1), 1) := by decide +kernel
theorem dX9_deal_27 : decode cX9_deal 27 = .ok (.ireturn, 1) := by decide +kernel
theorem dX9_deal_28 : decode cX9_deal 28 = .ok (.iconst 1, 1) := by decide +kernel
theorem dX9_deal_29 : decode cX9_deal 29 = .ok (.istore_n 3, 1) := by decide +kernel
theorem dX9_deal_30 : decode cX9_deal 30 = .ok (.iconst 0, 1) := by decide +kernel
theorem dX9_deal_31 : decode cX9_deal 31 = .ok (.istore 4, 2) := by decide +kernel
theorem dX9_deal_33 : decode cX9_deal 33 = .ok (.iload 4, 2) := by decide +kernel
theorem dX9_deal_35 : decode cX9_deal 35 = .ok (.aload_n 0, 1) := by decide +kernel
theorem dX9_deal_36 : decode cX9_deal 36 = .ok (.getfield 22, 3) := by decide +kernel
theorem dX9_deal_39 : decode cX9_deal 39 = .ok (.iconst 2, 1) := by decide +kernel
theorem dX9_deal_40 : decode cX9_deal 40 = .ok (.iaload, 1) := by decide +kernel
theorem dX9_deal_41 : decode cX9_deal 41 = .ok (.if_icmp .ge 20, 3) := by decide +kernel
theorem dX9_deal_44 : decode cX9_deal 44 = .ok (.iload_n 3, 1) := by decide +kernel
theorem dX9_deal_45 : decode cX9_deal 45 = .ok (.aload_n 0, 1) := by decide +kernel
theorem dX9_deal_46 : decode cX9_deal 46 = .ok (.getfield 22, 3) := by decide +kernel
theorem dX9_deal_49 : decode cX9_deal 49 = .ok (.iconst 1, 1) := by decide +kernel
theorem dX9_deal_50 : decode cX9_deal 50 = .ok (.iaload, 1) := by decide +kernel
theorem dX9_deal_51 : decode cX9_deal 51 = .ok (.iconst 1, 1) := by decide +kernel
theorem dX9_deal_52 : decode cX9_deal 52 = .ok (.iadd, 1) := by decide +kernel
theorem dX9_deal_53 : decode cX9_deal 53 = .ok (.imul, 1) := by decide +kernel
theorem dX9_deal_54 : decode cX9_deal 54 = .ok (.istore_n 3, 1) := by decide +kernel
theorem dX9_deal_55 : decode cX9_deal 55 = .ok (.iinc 4 1, 3) := by decide +kernel
theorem dX9_deal_58 : decode cX9_deal 58 = .ok (.goto (-25), 3) := by decide +kernel
theorem dX9_deal_61 : decode cX9_deal 61 = .ok (.iconst 0, 1) := by decide +kernel
theorem dX9_deal_62 : decode cX9_deal 62 = .ok (.istore 4, 2) := by decide +kernel
theorem dX9_deal_64 : decode cX9_deal 64 = .ok (.iconst (-1), 1) := by decide +kernel
theorem dX9_deal_65 : decode cX9_deal 65 = .ok (.istore 5, 2) := by decide +kernel
theorem dX9_deal_67 : decode cX9_deal 67 = .ok (.iconst 0, 1) := by decide +kernel
theorem dX9_deal_68 : decode cX9_deal 68 = .ok (.istore 6, 2) := by decide +kernel
theorem dX9_deal_70 : decode cX9_deal 70 = .ok (.iload 6, 2) := by decide +kernel
theorem dX9_deal_72 : decode cX9_deal 72 = .ok (.iload_n 3, 1) := by decide +kernel
theorem dX9_deal_73 : decode cX9_deal 73 = .ok (.if_icmp .ge 50, 3) := by decide +kernel
theorem dX9_deal_76 : decode cX9_deal 76 = .ok (.aload_n 0, 1) := by decide +kernel
theorem dX9_deal_77 : decode cX9_deal 77 = .ok (.iload_n 1, 1) := by decide +kernel
theorem dX9_deal_78 : decode cX9_deal 78 = .ok (.iload 6, 2) := by decide +kernel
theorem dX9_deal_80 : decode cX9_deal 80 = .ok (.invokevirtual 194, 3) := by decide +kernel
theorem dX9_deal_83 : decode cX9_deal 83 = .ok (.istore 7, 2) := by decide +kernel
theorem dX9_deal_85 : decode cX9_deal 85 = .ok (.iload 7, 2) := by decide +kernel
theorem dX9_deal_87 : decode cX9_deal 87 = .ok (.iload 5, 2) := by decide +kernel
theorem dX9_deal_89 : decode cX9_deal 89 = .ok (.if_icmp .le 8, 3) := by decide +kernel
theorem dX9_deal_92 : decode cX9_deal 92 = .ok (.iload 6, 2) := by decide +kernel
theorem dX9_deal_94 : decode cX9_deal 94 = .ok (.goto 5, 3) := by decide +kernel
theorem dX9_deal_97 : decode cX9_deal 97 = .ok (.iload 4, 2) := by decide +kernel
theorem dX9_deal_99 : decode cX9_deal 99 = .ok (.istore 4, 2) := by decide +kernel
theorem dX9_deal_101 : decode cX9_deal 101 = .ok (.iload 7, 2) := by decide +kernel
theorem dX9_deal_103 : decode cX9_deal 103 = .ok (.iload 5, 2) := by decide +kernel
theorem dX9_deal_105 : decode cX9_deal 105 = .ok (.if_icmp .le 8, 3) := by decide +kernel
theorem dX9_deal_108 : decode cX9_deal 108 = .ok (.iload 7, 2) := by decide +kernel
theorem dX9_deal_110 : decode cX9_deal 110 = .ok (.goto 5, 3) := by decide +kernel
theorem dX9_deal_113 : decode cX9_deal 113 = .ok (.iload 5, 2) := by decide +kernel
theorem dX9_deal_115 : decode cX9_deal 115 = .ok (.istore 5, 2) := by decide +kernel
theorem dX9_deal_117 : decode cX9_deal 117 = .ok (.iinc 6 1, 3) := by decide +kernel
theorem dX9_deal_120 : decode cX9_deal 120 = .ok (.goto (-50), 3) := by decide +kernel
theorem dX9_deal_123 : decode cX9_deal 123 = .ok (.iload_n 2, 1) := by decide +kernel
theorem dX9_deal_124 : decode cX9_deal 124 = .ok (.ifCond .ge 8, 3) := by decide +kernel
theorem dX9_deal_127 : decode cX9_deal 127 = .ok (.iload 5, 2) := by decide +kernel
theorem dX9_deal_129 : decode cX9_deal 129 = .ok (.goto 31, 3) := by decide +kernel
theorem dX9_deal_132 : decode cX9_deal 132 = .ok (.aload_n 0, 1) := by decide +kernel
theorem dX9_deal_133 : decode cX9_deal 133 = .ok (.iload 4, 2) := by decide +kernel
theorem dX9_deal_135 : decode cX9_deal 135 = .ok (.iload_n 2, 1) := by decide +kernel
theorem dX9_deal_136 : decode cX9_deal 136 = .ok (.invokevirtual 191, 3) := by decide +kernel
theorem dX9_deal_139 : decode cX9_deal 139 = .ok (.aload_n 0, 1) := by decide +kernel
theorem dX9_deal_140 : decode cX9_deal 140 = .ok (.getfield 22, 3) := by decide +kernel
theorem dX9_deal_143 : decode cX9_deal 143 = .ok (.iconst 1, 1) := by decide +kernel
theorem dX9_deal_144 : decode cX9_deal 144 = .ok (.iaload, 1) := by decide +kernel
theorem dX9_deal_145 : decode cX9_deal 145 = .ok (.if_icmp .ge 13, 3) := by decide +kernel
theorem dX9_deal_148 : decode cX9_deal 148 = .ok (.aload_n 0, 1) := by decide +kernel
theorem dX9_deal_149 : decode cX9_deal 149 = .ok (.iload 4, 2) := by decide +kernel
theorem dX9_deal_151 : decode cX9_deal 151 = .ok (.iload_n 2, 1) := by decide +kernel
theorem dX9_deal_152 : decode cX9_deal 152 = .ok (.invokevirtual 191, 3) := by decide +kernel
theorem dX9_deal_155 : decode cX9_deal 155 = .ok (.goto 5, 3) := by decide +kernel
theorem dX9_deal_158 : decode cX9_deal 158 = .ok (.bipush (-4), 2) := by decide +kernel
theorem dX9_deal_160 : decode cX9_deal 160 = .ok (.ireturn, 1) := by decide +kernel
theorem dX9_cut_0 : decode cX9_cut 0 = .ok (.aload_n 0, 1) := by decide +kernel
theorem dX9_cut_1 : decode cX9_cut 1 = .ok (.iload_n 1, 1) := by decide +kernel
theorem dX9_cut_2 : decode cX9_cut 2 = .ok (.invokevirtual 156, 3) := by decide +kernel
theorem dX9_cut_5 : decode cX9_cut 5 = .ok (.ifCond .eq 16, 3) := by decide +kernel
theorem dX9_cut_8 : decode cX9_cut 8 = .ok (.aload_n 0, 1) := by decide +kernel
theorem dX9_cut_9 : decode cX9_cut 9 = .ok (.iload_n 2, 1) := by decide +kernel
theorem dX9_cut_10 : decode cX9_cut 10 = .ok (.invokevirtual 156, 3) := by decide +kernel
theorem dX9_cut_13 : decode cX9_cut 13 = .ok (.ifCond .eq 8, 3) := by decide +kernel
theorem dX9_cut_16 : decode cX9_cut 16 = .ok (.iload_n 1, 1) := by decide +kernel
theorem dX9_cut_17 : decode cX9_cut 17 = .ok (.iload_n 2, 1) := by decide +kernel
theorem dX9_cut_18 : decode cX9_cut 18 = .ok (.if_icmp .ne 5, 3) := by decide +kernel
theorem dX9_cut_21 : decode cX9_cut 21 = .ok (.iconst (-1), 1) := by decide +kernel
theorem dX9_cut_22 : decode cX9_cut 22 = .ok (.ireturn, 1) := by decide +kernel
theorem dX9_cut_23 : decode cX9_cut 23 = .ok (.aload_n 0, 1) := by decide +kernel
theorem dX9_cut_24 : decode cX9_cut 24 = .ok (.aload_n 0, 1) := by decide +kernel
theorem dX9_cut_25 : decode cX9_cut 25 = .ok (.getfield 25, 3) := by decide +kernel
theorem dX9_cut_28 : decode cX9_cut 28 = .ok (.invokevirtual 159, 3) := by decide +kernel
theorem dX9_cut_31 : decode cX9_cut 31 = .ok (.istore_n 3, 1) := by decide +kernel
theorem dX9_cut_32 : decode cX9_cut 32 = .ok (.aload_n 0, 1) := by decide +kernel
theorem dX9_cut_33 : decode cX9_cut 33 = .ok (.iload_n 1, 1) := by decide +kernel
theorem dX9_cut_34 : decode cX9_cut 34 = .ok (.iload_n 3, 1) := by decide +kernel
theorem dX9_cut_35 : decode cX9_cut 35 = .ok (.invokevirtual 150, 3) := by decide +kernel
theorem dX9_cut_38 : decode cX9_cut 38 = .ok (.iload_n 2, 1) := by decide +kernel
theorem dX9_cut_39 : decode cX9_cut 39 = .ok (.invokestatic 143, 3) := by decide +kernel
theorem dX9_cut_42 : decode cX9_cut 42 = .ok (.ifCond .ne 6, 3) := by decide +kernel
theorem dX9_cut_45 : decode cX9_cut 45 = .ok (.bipush (-4), 2) := by decide +kernel
theorem dX9_cut_47 : decode cX9_cut 47 = .ok (.ireturn, 1) := by decide +kernel
theorem dX9_cut_48 : decode cX9_cut 48 = .ok (.iload_n 3, 1) := by decide +kernel
theorem dX9_cut_49 : decode cX9_cut 49 = .ok (.istore 4, 2) := by decide +kernel
theorem dX9_cut_51 : decode cX9_cut 51 = .ok (.iload_n 3, 1) := by decide +kernel
theorem dX9_cut_52 : decode cX9_cut 52 = .ok (.istore 5, 2) := by decide +kernel
theorem dX9_cut_54 : decode cX9_cut 54 = .ok (.iload 5, 2) := by decide +kernel
theorem dX9_cut_56 : decode cX9_cut 56 = .ok (.ifCond .lt 70, 3) := by decide +kernel
theorem dX9_cut_59 : decode cX9_cut 59 = .ok (.iload 5, 2) := by decide +kernel
theorem dX9_cut_61 : decode cX9_cut 61 = .ok (.iload_n 3, 1) := by decide +kernel
theorem dX9_cut_62 : decode cX9_cut 62 = .ok (.iconst (-1), 1) := by decide +kernel
theorem dX9_cut_63 : decode cX9_cut 63 = .ok (.ixor, 1) := by decide +kernel
theorem dX9_cut_64 : decode cX9_cut 64 = .ok (.iand, 1) := by decide +kernel
theorem dX9_cut_65 : decode cX9_cut 65 = .ok (.ifCond .ne 20, 3) := by decide +kernel
theorem dX9_cut_68 : decode cX9_cut 68 = .ok (.iload 5, 2) := by decide +kernel
theorem dX9_cut_70 : decode cX9_cut 70 = .ok (.invokestatic 153, 3) := by decide +kernel
theorem dX9_cut_73 : decode cX9_cut 73 = .ok (.iload 4, 2) := by decide +kernel
theorem dX9_cut_75 : decode cX9_cut 75 = .ok (.invokestatic 153, 3) := by decide +kernel
theorem dX9_cut_78 : decode cX9_cut 78 = .ok (.if_icmp .gt 7, 3) := by decide +kernel
theorem dX9_cut_81 : decode cX9_cut 81 = .ok (.iconst 1, 1) := by decide +kernel
theorem dX9_cut_82 : decode cX9_cut 82 = .ok (.goto 4, 3) := by decide +kernel
theorem dX9_cut_85 : decode cX9_cut 85 = .ok (.iconst 0, 1) := by decide +kernel
theorem dX9_cut_86 : decode cX9_cut 86 = .ok (.istore 6, 2) := by decide +kernel
theorem dX9_cut_88 : decode cX9_cut 88 = .ok (.iload 6, 2) := by decide +kernel
theorem dX9_cut_90 : decode cX9_cut 90 = .ok (.ifCond .eq 26, 3) := by decide +kernel
theorem dX9_cut_93 : decode cX9_cut 93 = .ok (.aload_n 0, 1) := by decide +kernel
theorem dX9_cut_94 : decode cX9_cut 94 = .ok (.iload_n 1, 1) := by decide +kernel
theorem dX9_cut_95 : decode cX9_cut 95 = .ok (.iload_n 3, 1) := by decide +kernel
theorem dX9_cut_96 : decode cX9_cut 96 = .ok (.iload 5, 2) := by decide +kernel
theorem dX9_cut_98 : decode cX9_cut 98 = .ok (.iconst (-1), 1) := by decide +kernel
theorem dX9_cut_99 : decode cX9_cut 99 = .ok (.ixor, 1) := by decide +kernel
theorem dX9_cut_100 : decode cX9_cut 100 = .ok (.iand, 1) := by decide +kernel
theorem dX9_cut_101 : decode cX9_cut 101 = .ok (.invokevirtual 150, 3) := by decide +kernel
theorem dX9_cut_104 : decode cX9_cut 104 = .ok (.iload_n 2, 1) := by decide +kernel
theorem dX9_cut_105 : decode cX9_cut 105 = .ok (.invokestatic 143, 3) := by decide +kernel
theorem dX9_cut_108 : decode cX9_cut 108 = .ok (.ifCond .ne 8, 3) := by decide +kernel
theorem dX9_cut_111 : decode cX9_cut 111 = .ok (.iload 5, 2) := by decide +kernel
theorem dX9_cut_113 : decode cX9_cut 113 = .ok (.goto 5, 3) := by decide +kernel
theorem dX9_cut_116 : decode cX9_cut 116 = .ok (.iload 4, 2) := by decide +kernel
theorem dX9_cut_118 : decode cX9_cut 118 = .ok (.istore 4, 2) := by decide +kernel
theorem dX9_cut_120 : decode cX9_cut 120 = .ok (.iinc 5 (-1), 3) := by decide +kernel
theorem dX9_cut_123 : decode cX9_cut 123 = .ok (.goto (-69), 3) := by decide +kernel
theorem dX9_cut_126 : decode cX9_cut 126 = .ok (.iload 4, 2) := by decide +kernel
theorem dX9_cut_128 : decode cX9_cut 128 = .ok (.ireturn, 1) := by decide +kernel
theorem dX9_between_0 : decode cX9_between 0 = .ok (.aload_n 0, 1) := by decide +kernel
theorem dX9_between_1 : decode cX9_between 1 = .ok (.iload_n 1, 1) := by decide +kernel
theorem dX9_between_2 : decode cX9_between 2 = .ok (.invokevirtual 156, 3) := by decide +kernel
theorem dX9_between_5 : decode cX9_between 5 = .ok (.ifCond .eq 11, 3) := by decide +kernel
theorem dX9_between_8 : decode cX9_between 8 = .ok (.aload_n 0, 1) := by decide +kernel
theorem dX9_between_9 : decode cX9_between 9 = .ok (.iload_n 2, 1) := by decide +kernel
theorem dX9_between_10 : decode cX9_between 10 = .ok (.invokevirtual 156, 3) := by decide +kernel
theorem dX9_between_13 : decode cX9_between 13 = .ok (.ifCond .ne 5, 3) := by decide +kernel
theorem dX9_between_16 : decode cX9_between 16 = .ok (.iconst (-1), 1) := by decide +kernel
theorem dX9_between_17 : decode cX9_between 17 = .ok (.ireturn, 1) := by decide +kernel
theorem dX9_between_18 : decode cX9_between 18 = .ok (.iconst 1, 1) := by decide +kernel
theorem dX9_between_19 : decode cX9_between 19 = .ok (.iload_n 1, 1) := by decide +kernel
theorem dX9_between_20 : decode cX9_between 20 = .ok (.ishl, 1) := by decide +kernel
theorem dX9_between_21 : decode cX9_between 21 = .ok (.istore_n 3, 1) := by decide +kernel
theorem dX9_between_22 : decode cX9_between 22 = .ok (.iconst 0, 1) := by decide +kernel
theorem dX9_between_23 : decode cX9_between 23 = .ok (.istore 4, 2) := by decide +kernel
theorem dX9_between_25 : decode cX9_between 25 = .ok (.iload 4, 2) := by decide +kernel
theorem dX9_between_27 : decode cX9_between 27 = .ok (.aload_n 0, 1) := by decide +kernel
theorem dX9_between_28 : decode cX9_between 28 = .ok (.getfield 22, 3) := by decide +kernel
theorem dX9_between_31 : decode cX9_between 31 = .ok (.iconst 0, 1) := by decide +kernel
theorem dX9_between_32 : decode cX9_between 32 = .ok (.iaload, 1) := by decide +kernel
theorem dX9_between_33 : decode cX9_between 33 = .ok (.if_icmp .ge 34, 3) := by decide +kernel
theorem dX9_between_36 : decode cX9_between 36 = .ok (.iload_n 3, 1) := by decide +kernel
theorem dX9_between_37 : decode cX9_between 37 = .ok (.iload_n 2, 1) := by decide +kernel
theorem dX9_between_38 : decode cX9_between 38 = .ok (.invokestatic 143, 3) := by decide +kernel
theorem dX9_between_41 : decode cX9_between 41 = .ok (.ifCond .eq 6, 3) := by decide +kernel
theorem dX9_between_44 : decode cX9_between 44 = .ok (.iload 4, 2) := by decide +kernel
theorem dX9_between_46 : decode cX9_between 46 = .ok (.ireturn, 1) := by decide +kernel
theorem dX9_between_47 : decode cX9_between 47 = .ok (.aload_n 0, 1) := by decide +kernel
theorem dX9_between_48 : decode cX9_between 48 = .ok (.iload_n 3, 1) := by decide +kernel
theorem dX9_between_49 : decode cX9_between 49 = .ok (.aload_n 0, 1) := by decide +kernel
theorem dX9_between_50 : decode cX9_between 50 = .ok (.aload_n 0, 1) := by decide +kernel
theorem dX9_between_51 : decode cX9_between 51 = .ok (.getfield 25, 3) := by decide +kernel
theorem dX9_between_54 : decode cX9_between 54 = .ok (.invokevirtual 159, 3) := by decide +kernel
theorem dX9_between_57 : decode cX9_between 57 = .ok (.invokevirtual 147, 3) := by decide +kernel
theorem dX9_between_60 : decode cX9_between 60 = .ok (.istore_n 3, 1) := by decide +kernel
theorem dX9_between_61 : decode cX9_between 61 = .ok (.iinc 4 1, 3) := by decide +kernel
theorem dX9_between_64 : decode cX9_between 64 = .ok (.goto (-39), 3) := by decide +kernel
theorem dX9_between_67 : decode cX9_between 67 = .ok (.bipush (-4), 2) := by decide +kernel
theorem dX9_between_69 : decode cX9_between 69 = .ok (.ireturn, 1) := by decide +kernel
theorem dX9_joins_0 : decode cX9_joins 0 = .ok (.iload_n 1, 1) := by decide +kernel
theorem dX9_joins_1 : decode cX9_joins 1 = .ok (.iconst 0, 1) := by decide +kernel
theorem dX9_joins_2 : decode cX9_joins 2 = .ok (.iconst 1, 1) := by decide +kernel
theorem dX9_joins_3 : decode cX9_joins 3 = .ok (.invokestatic 54, 3) := by decide +kernel
theorem dX9_joins_6 : decode cX9_joins 6 = .ok (.ifCond .ne 5, 3) := by decide +kernel
theorem dX9_joins_9 : decode cX9_joins 9 = .ok (.iconst (-1), 1) := by decide +kernel
theorem dX9_joins_10 : decode cX9_joins 10 = .ok (.ireturn, 1) := by decide +kernel
theorem dX9_joins_11 : decode cX9_joins 11 = .ok (.aload_n 0, 1) := by decide +kernel
theorem dX9_joins_12 : decode cX9_joins 12 = .ok (.aload_n 0, 1) := by decide +kernel
theorem dX9_joins_13 : decode cX9_joins 13 = .ok (.getfield 25, 3) := by decide +kernel
theorem dX9_joins_16 : decode cX9_joins 16 = .ok (.invokevirtual 159, 3) := by decide +kernel
theorem dX9_joins_19 : decode cX9_joins 19 = .ok (.istore_n 2, 1) := by decide +kernel
theorem dX9_joins_20 : decode cX9_joins 20 = .ok (.bipush (-4), 2) := by decide +kernel
theorem dX9_joins_22 : decode cX9_joins 22 = .ok (.istore_n 3, 1) := by decide +kernel
theorem dX9_joins_23 : decode cX9_joins 23 = .ok (.iconst (-1), 1) := by decide +kernel
theorem dX9_joins_24 : decode cX9_joins 24 = .ok (.istore 4, 2) := by decide +kernel
theorem dX9_joins_26 : decode cX9_joins 26 = .ok (.iconst 0, 1) := by decide +kernel
theorem dX9_joins_27 : decode cX9_joins 27 = .ok (.istore 5, 2) := by decide +kernel
theorem dX9_joins_29 : decode cX9_joins 29 = .ok (.iload 5, 2) := by decide +kernel
theorem dX9_joins_31 : decode cX9_joins 31 = .ok (.aload_n 0, 1) := by decide +kernel
theorem dX9_joins_32 : decode cX9_joins 32 = .ok (.getfield 22, 3) := by decide +kernel
theorem dX9_joins_35 : decode cX9_joins 35 = .ok (.iconst 1, 1) := by decide +kernel
theorem dX9_joins_36 : decode cX9_joins 36 = .ok (.iaload, 1) := by decide +kernel
theorem dX9_joins_37 : decode cX9_joins 37 = .ok (.if_icmp .ge 70, 3) := by decide +kernel
theorem dX9_joins_40 : decode cX9_joins 40 = .ok (.iload_n 2, 1) := by decide +kernel
theorem dX9_joins_41 : decode cX9_joins 41 = .ok (.iload 5, 2) := by decide +kernel
theorem dX9_joins_43 : decode cX9_joins 43 = .ok (.invokestatic 143, 3) := by decide +kernel
theorem dX9_joins_46 : decode cX9_joins 46 = .ok (.ifCond .eq 7, 3) := by decide +kernel
theorem dX9_joins_49 : decode cX9_joins 49 = .ok (.iconst (-1), 1) := by decide +kernel
theorem dX9_joins_50 : decode cX9_joins 50 = .ok (.goto 19, 3) := by decide +kernel
theorem dX9_joins_53 : decode cX9_joins 53 = .ok (.aload_n 0, 1) := by decide +kernel
theorem dX9_joins_54 : decode cX9_joins 54 = .ok (.iload_n 2, 1) := by decide +kernel
theorem dX9_joins_55 : decode cX9_joins 55 = .ok (.iconst 1, 1) := by decide +kernel
theorem dX9_joins_56 : decode cX9_joins 56 = .ok (.iload 5, 2) := by decide +kernel
theorem dX9_joins_58 : decode cX9_joins 58 = .ok (.ishl, 1) := by decide +kernel
theorem dX9_joins_59 : decode cX9_joins 59 = .ok (.ior, 1) := by decide +kernel
theorem dX9_joins_60 : decode cX9_joins 60 = .ok (.invokevirtual 197, 3) := by decide +kernel
theorem dX9_joins_63 : decode cX9_joins 63 = .ok (.aload_n 0, 1) := by decide +kernel
theorem dX9_joins_64 : decode cX9_joins 64 = .ok (.iload_n 2, 1) := by decide +kernel
theorem dX9_joins_65 : decode cX9_joins 65 = .ok (.invokevirtual 197, 3) := by decide +kernel
theorem dX9_joins_68 : decode cX9_joins 68 = .ok (.isub, 1) := by decide +kernel
theorem dX9_joins_69 : decode cX9_joins 69 = .ok (.istore 6, 2) := by decide +kernel
theorem dX9_joins_71 : decode cX9_joins 71 = .ok (.iload 6, 2) := by decide +kernel
theorem dX9_joins_73 : decode cX9_joins 73 = .ok (.iload 4, 2) := by decide +kernel
theorem dX9_joins_75 : decode cX9_joins 75 = .ok (.if_icmp .le 8, 3) := by decide +kernel
theorem dX9_joins_78 : decode cX9_joins 78 = .ok (.iload 5, 2) := by decide +kernel
theorem dX9_joins_80 : decode cX9_joins 80 = .ok (.goto 4, 3) := by decide +kernel
theorem dX9_joins_83 : decode cX9_joins 83 = .ok (.iload_n 3, 1) := by decide +kernel
theorem dX9_joins_84 : decode cX9_joins 84 = .ok (.istore_n 3, 1) := by decide +kernel
theorem dX9_joins_85 : decode cX9_joins 85 = .ok (.iload 6, 2) := by decide +kernel
theorem dX9_joins_87 : decode cX9_joins 87 = .ok (.iload 4, 2) := by decide +kernel
theorem dX9_joins_89 : decode cX9_joins 89 = .ok (.if_icmp .le 8, 3) := by decide +kernel
theorem dX9_joins_92 : decode cX9_joins 92 = .ok (.iload 6, 2) := by decide +kernel
theorem dX9_joins_94 : decode cX9_joins 94 = .ok (.goto 5, 3) := by decide +kernel
theorem dX9_joins_97 : decode cX9_joins 97 = .ok (.iload 4, 2) := by decide +kernel
theorem dX9_joins_99 : decode cX9_joins 99 = .ok (.istore 4, 2) := by decide +kernel
theorem dX9_joins_101 : decode cX9_joins 101 = .ok (.iinc 5 1, 3) := by decide +kernel
theorem dX9_joins_104 : decode cX9_joins 104 = .ok (.goto (-75), 3) := by decide +kernel
theorem dX9_joins_107 : decode cX9_joins 107 = .ok (.iload_n 3, 1) := by decide +kernel
theorem dX9_joins_108 : decode cX9_joins 108 = .ok (.bipush (-4), 2) := by decide +kernel
theorem dX9_joins_110 : decode cX9_joins 110 = .ok (.if_icmp .ne 8, 3) := by decide +kernel
theorem dX9_joins_113 : decode cX9_joins 113 = .ok (.bipush (-4), 2) := by decide +kernel
theorem dX9_joins_115 : decode cX9_joins 115 = .ok (.goto 13, 3) := by decide +kernel
theorem dX9_joins_118 : decode cX9_joins 118 = .ok (.iload_n 1, 1) := by decide +kernel
theorem dX9_joins_119 : decode cX9_joins 119 = .ok (.ifCond .ne 7, 3) := by decide +kernel
theorem dX9_joins_122 : decode cX9_joins 122 = .ok (.iload_n 3, 1) := by decide +kernel
theorem dX9_joins_123 : decode cX9_joins 123 = .ok (.goto 5, 3) := by decide +kernel
theorem dX9_joins_126 : decode cX9_joins 126 = .ok (.iload 4, 2) := by decide +kernel
theorem dX9_joins_128 : decode cX9_joins 128 = .ok (.ireturn, 1) := by decide +kernel
theorem dX9_see_0 : decode cX9_see 0 = .ok (.aload_n 0, 1) := by decide +kernel
theorem dX9_see_1 : decode cX9_see 1 = .ok (.iload_n 1, 1) := by decide +kernel
theorem dX9_see_2 : decode cX9_see 2 = .ok (.invokevirtual 156, 3) := by decide +kernel
theorem dX9_see_5 : decode cX9_see 5 = .ok (.ifCond .eq 25, 3) := by decide +kernel
theorem dX9_see_8 : decode cX9_see 8 = .ok (.aload_n 0, 1) := by decide +kernel
theorem dX9_see_9 : decode cX9_see 9 = .ok (.iload_n 2, 1) := by decide +kernel
theorem dX9_see_10 : decode cX9_see 10 = .ok (.invokevirtual 156, 3) := by decide +kernel
theorem dX9_see_13 : decode cX9_see 13 = .ok (.ifCond .eq 17, 3) := by decide +kernel
theorem dX9_see_16 : decode cX9_see 16 = .ok (.iload_n 1, 1) := by decide +kernel
theorem dX9_see_17 : decode cX9_see 17 = .ok (.iload_n 2, 1) := by decide +kernel
theorem dX9_see_18 : decode cX9_see 18 = .ok (.if_icmp .eq 12, 3) := by decide +kernel
theorem dX9_see_21 : decode cX9_see 21 = .ok (.iload_n 3, 1) := by decide +kernel
theorem dX9_see_22 : decode cX9_see 22 = .ok (.iconst 0, 1) := by decide +kernel
theorem dX9_see_23 : decode cX9_see 23 = .ok (.iconst 1, 1) := by decide +kernel
theorem dX9_see_24 : decode cX9_see 24 = .ok (.invokestatic 54, 3) := by decide +kernel
theorem dX9_see_27 : decode cX9_see 27 = .ok (.ifCond .ne 5, 3) := by decide +kernel
theorem dX9_see_30 : decode cX9_see 30 = .ok (.iconst (-1), 1) := by decide +kernel
theorem dX9_see_31 : decode cX9_see 31 = .ok (.ireturn, 1) := by decide +kernel
theorem dX9_see_32 : decode cX9_see 32 = .ok (.aload_n 0, 1) := by decide +kernel
theorem dX9_see_33 : decode cX9_see 33 = .ok (.getfield 109, 3) := by decide +kernel
theorem dX9_see_36 : decode cX9_see 36 = .ok (.bipush 8, 2) := by decide +kernel
theorem dX9_see_38 : decode cX9_see 38 = .ok (.if_icmp .ne 6, 3) := by decide +kernel
theorem dX9_see_41 : decode cX9_see 41 = .ok (.bipush (-3), 2) := by decide +kernel
theorem dX9_see_43 : decode cX9_see 43 = .ok (.ireturn, 1) := by decide +kernel
theorem dX9_see_44 : decode cX9_see 44 = .ok (.aload_n 0, 1) := by decide +kernel
theorem dX9_see_45 : decode cX9_see 45 = .ok (.getfield 34, 3) := by decide +kernel
theorem dX9_see_48 : decode cX9_see 48 = .ok (.aload_n 0, 1) := by decide +kernel
theorem dX9_see_49 : decode cX9_see 49 = .ok (.getfield 109, 3) := by decide +kernel
theorem dX9_see_52 : decode cX9_see 52 = .ok (.iload_n 1, 1) := by decide +kernel
theorem dX9_see_53 : decode cX9_see 53 = .ok (.iastore, 1) := by decide +kernel
theorem dX9_see_54 : decode cX9_see 54 = .ok (.aload_n 0, 1) := by decide +kernel
theorem dX9_see_55 : decode cX9_see 55 = .ok (.getfield 37, 3) := by decide +kernel
theorem dX9_see_58 : decode cX9_see 58 = .ok (.aload_n 0, 1) := by decide +kernel
theorem dX9_see_59 : decode cX9_see 59 = .ok (.getfield 109, 3) := by decide +kernel
theorem dX9_see_62 : decode cX9_see 62 = .ok (.iload_n 2, 1) := by decide +kernel
theorem dX9_see_63 : decode cX9_see 63 = .ok (.iastore, 1) := by decide +kernel
theorem dX9_see_64 : decode cX9_see 64 = .ok (.aload_n 0, 1) := by decide +kernel
theorem dX9_see_65 : decode cX9_see 65 = .ok (.getfield 40, 3) := by decide +kernel
theorem dX9_see_68 : decode cX9_see 68 = .ok (.aload_n 0, 1) := by decide +kernel
theorem dX9_see_69 : decode cX9_see 69 = .ok (.getfield 109, 3) := by decide +kernel
theorem dX9_see_72 : decode cX9_see 72 = .ok (.iload_n 3, 1) := by decide +kernel
theorem dX9_see_73 : decode cX9_see 73 = .ok (.iastore, 1) := by decide +kernel
theorem dX9_see_74 : decode cX9_see 74 = .ok (.aload_n 0, 1) := by decide +kernel
theorem dX9_see_75 : decode cX9_see 75 = .ok (.dup, 1) := by decide +kernel
theorem dX9_see_76 : decode cX9_see 76 = .ok (.getfield 109, 3) := by decide +kernel
theorem dX9_see_79 : decode cX9_see 79 = .ok (.iconst 1, 1) := by decide +kernel
theorem dX9_see_80 : decode cX9_see 80 = .ok (.iadd, 1) := by decide +kernel
theorem dX9_see_81 : decode cX9_see 81 = .ok (.putfield 109, 3) := by decide +kernel
theorem dX9_see_84 : decode cX9_see 84 = .ok (.aload_n 0, 1) := by decide +kernel
theorem dX9_see_85 : decode cX9_see 85 = .ok (.getfield 109, 3) := by decide +kernel
theorem dX9_see_88 : decode cX9_see 88 = .ok (.ireturn, 1) := by decide +kernel
theorem dX9_forget_0 : decode cX9_forget 0 = .ok (.aload_n 0, 1) := by decide +kernel
theorem dX9_forget_1 : decode cX9_forget 1 = .ok (.getfield 109, 3) := by decide +kernel
theorem dX9_forget_4 : decode cX9_forget 4 = .ok (.istore_n 1, 1) := by decide +kernel
theorem dX9_forget_5 : decode cX9_forget 5 = .ok (.aload_n 0, 1) := by decide +kernel
theorem dX9_forget_6 : decode cX9_forget 6 = .ok (.iconst 0, 1) := by decide +kernel
theorem dX9_forget_7 : decode cX9_forget 7 = .ok (.putfield 109, 3) := by decide +kernel
theorem dX9_forget_10 : decode cX9_forget 10 = .ok (.iload_n 1, 1) := by decide +kernel
theorem dX9_forget_11 : decode cX9_forget 11 = .ok (.ireturn, 1) := by decide +kernel
theorem dX9_isSo_0 : decode cX9_isSo 0 = .ok (.iconst 1, 1) := by decide +kernel
theorem dX9_isSo_1 : decode cX9_isSo 1 = .ok (.istore_n 2, 1) := by decide +kernel
theorem dX9_isSo_2 : decode cX9_isSo 2 = .ok (.iconst 0, 1) := by decide +kernel
theorem dX9_isSo_3 : decode cX9_isSo 3 = .ok (.istore_n 3, 1) := by decide +kernel
theorem dX9_isSo_4 : decode cX9_isSo 4 = .ok (.iload_n 3, 1) := by decide +kernel
theorem dX9_isSo_5 : decode cX9_isSo 5 = .ok (.aload_n 0, 1) := by decide +kernel
theorem dX9_isSo_6 : decode cX9_isSo 6 = .ok (.getfield 109, 3) := by decide +kernel
theorem dX9_isSo_9 : decode cX9_isSo 9 = .ok (.if_icmp .ge 48, 3) := by decide +kernel
theorem dX9_isSo_12 : decode cX9_isSo 12 = .ok (.iload_n 2, 1) := by decide +kernel
theorem dX9_isSo_13 : decode cX9_isSo 13 = .ok (.ifCond .eq 44, 3) := by decide +kernel
theorem dX9_isSo_16 : decode cX9_isSo 16 = .ok (.aload_n 0, 1) := by decide +kernel
theorem dX9_isSo_17 : decode cX9_isSo 17 = .ok (.aload_n 0, 1) := by decide +kernel
theorem dX9_isSo_18 : decode cX9_isSo 18 = .ok (.getfield 34, 3) := by decide +kernel
theorem dX9_isSo_21 : decode cX9_isSo 21 = .ok (.iload_n 3, 1) := by decide +kernel
theorem dX9_isSo_22 : decode cX9_isSo 22 = .ok (.iaload, 1) := by decide +kernel
theorem dX9_isSo_23 : decode cX9_isSo 23 = .ok (.iload_n 1, 1) := by decide +kernel
theorem dX9_isSo_24 : decode cX9_isSo 24 = .ok (.invokevirtual 150, 3) := by decide +kernel
theorem dX9_isSo_27 : decode cX9_isSo 27 = .ok (.aload_n 0, 1) := by decide +kernel
theorem dX9_isSo_28 : decode cX9_isSo 28 = .ok (.getfield 37, 3) := by decide +kernel
theorem dX9_isSo_31 : decode cX9_isSo 31 = .ok (.iload_n 3, 1) := by decide +kernel
theorem dX9_isSo_32 : decode cX9_isSo 32 = .ok (.iaload, 1) := by decide +kernel
theorem dX9_isSo_33 : decode cX9_isSo 33 = .ok (.ishr, 1) := by decide +kernel
theorem dX9_isSo_34 : decode cX9_isSo 34 = .ok (.iconst 1, 1) := by decide +kernel
theorem dX9_isSo_35 : decode cX9_isSo 35 = .ok (.iand, 1) := by decide +kernel
theorem dX9_isSo_36 : decode cX9_isSo 36 = .ok (.aload_n 0, 1) := by decide +kernel
theorem dX9_isSo_37 : decode cX9_isSo 37 = .ok (.getfield 40, 3) := by decide +kernel
theorem dX9_isSo_40 : decode cX9_isSo 40 = .ok (.iload_n 3, 1) := by decide +kernel
theorem dX9_isSo_41 : decode cX9_isSo 41 = .ok (.iaload, 1) := by decide +kernel
theorem dX9_isSo_42 : decode cX9_isSo 42 = .ok (.if_icmp .ne 7, 3) := by decide +kernel
theorem dX9_isSo_45 : decode cX9_isSo 45 = .ok (.iconst 1, 1) := by decide +kernel
theorem dX9_isSo_46 : decode cX9_isSo 46 = .ok (.goto 4, 3) := by decide +kernel
theorem dX9_isSo_49 : decode cX9_isSo 49 = .ok (.iconst 0, 1) := by decide +kernel
theorem dX9_isSo_50 : decode cX9_isSo 50 = .ok (.istore_n 2, 1) := by decide +kernel
theorem dX9_isSo_51 : decode cX9_isSo 51 = .ok (.iinc 3 1, 3) := by decide +kernel
theorem dX9_isSo_54 : decode cX9_isSo 54 = .ok (.goto (-50), 3) := by decide +kernel
theorem dX9_isSo_57 : decode cX9_isSo 57 = .ok (.iload_n 2, 1) := by decide +kernel
theorem dX9_isSo_58 : decode cX9_isSo 58 = .ok (.ireturn, 1) := by decide +kernel
theorem dX9_seamed_0 : decode cX9_seamed 0 = .ok (.iload_n 1, 1) := by decide +kernel
theorem dX9_seamed_1 : decode cX9_seamed 1 = .ok (.iconst 0, 1) := by decide +kernel
theorem dX9_seamed_2 : decode cX9_seamed 2 = .ok (.iconst 1, 1) := by decide +kernel
theorem dX9_seamed_3 : decode cX9_seamed 3 = .ok (.invokestatic 54, 3) := by decide +kernel
theorem dX9_seamed_6 : decode cX9_seamed 6 = .ok (.ifCond .ne 5, 3) := by decide +kernel
theorem dX9_seamed_9 : decode cX9_seamed 9 = .ok (.iconst (-1), 1) := by decide +kernel
theorem dX9_seamed_10 : decode cX9_seamed 10 = .ok (.ireturn, 1) := by decide +kernel
theorem dX9_seamed_11 : decode cX9_seamed 11 = .ok (.iconst 0, 1) := by decide +kernel
theorem dX9_seamed_12 : decode cX9_seamed 12 = .ok (.istore_n 2, 1) := by decide +kernel
theorem dX9_seamed_13 : decode cX9_seamed 13 = .ok (.bipush (-4), 2) := by decide +kernel
theorem dX9_seamed_15 : decode cX9_seamed 15 = .ok (.istore_n 3, 1) := by decide +kernel
theorem dX9_seamed_16 : decode cX9_seamed 16 = .ok (.iconst 1, 1) := by decide +kernel
theorem dX9_seamed_17 : decode cX9_seamed 17 = .ok (.aload_n 0, 1) := by decide +kernel
theorem dX9_seamed_18 : decode cX9_seamed 18 = .ok (.getfield 22, 3) := by decide +kernel
theorem dX9_seamed_21 : decode cX9_seamed 21 = .ok (.iconst 1, 1) := by decide +kernel
theorem dX9_seamed_22 : decode cX9_seamed 22 = .ok (.iaload, 1) := by decide +kernel
theorem dX9_seamed_23 : decode cX9_seamed 23 = .ok (.ishl, 1) := by decide +kernel
theorem dX9_seamed_24 : decode cX9_seamed 24 = .ok (.iconst 1, 1) := by decide +kernel
theorem dX9_seamed_25 : decode cX9_seamed 25 = .ok (.isub, 1) := by decide +kernel
theorem dX9_seamed_26 : decode cX9_seamed 26 = .ok (.istore 4, 2) := by decide +kernel
theorem dX9_seamed_28 : decode cX9_seamed 28 = .ok (.iload 4, 2) := by decide +kernel
theorem dX9_seamed_30 : decode cX9_seamed 30 = .ok (.ifCond .lt 42, 3) := by decide +kernel
theorem dX9_seamed_33 : decode cX9_seamed 33 = .ok (.aload_n 0, 1) := by decide +kernel
theorem dX9_seamed_34 : decode cX9_seamed 34 = .ok (.iload 4, 2) := by decide +kernel
theorem dX9_seamed_36 : decode cX9_seamed 36 = .ok (.invokevirtual 200, 3) := by decide +kernel
theorem dX9_seamed_39 : decode cX9_seamed 39 = .ok (.istore 5, 2) := by decide +kernel
theorem dX9_seamed_41 : decode cX9_seamed 41 = .ok (.iload_n 2, 1) := by decide +kernel
theorem dX9_seamed_42 : decode cX9_seamed 42 = .ok (.iload 5, 2) := by decide +kernel
theorem dX9_seamed_44 : decode cX9_seamed 44 = .ok (.ifCond .eq 7, 3) := by decide +kernel
theorem dX9_seamed_47 : decode cX9_seamed 47 = .ok (.iconst 1, 1) := by decide +kernel
theorem dX9_seamed_48 : decode cX9_seamed 48 = .ok (.goto 4, 3) := by decide +kernel
theorem dX9_seamed_51 : decode cX9_seamed 51 = .ok (.iconst 0, 1) := by decide +kernel
theorem dX9_seamed_52 : decode cX9_seamed 52 = .ok (.iadd, 1) := by decide +kernel
theorem dX9_seamed_53 : decode cX9_seamed 53 = .ok (.istore_n 2, 1) := by decide +kernel
theorem dX9_seamed_54 : decode cX9_seamed 54 = .ok (.iload 5, 2) := by decide +kernel
theorem dX9_seamed_56 : decode cX9_seamed 56 = .ok (.ifCond .eq 8, 3) := by decide +kernel
theorem dX9_seamed_59 : decode cX9_seamed 59 = .ok (.iload 4, 2) := by decide +kernel
theorem dX9_seamed_61 : decode cX9_seamed 61 = .ok (.goto 4, 3) := by decide +kernel
theorem dX9_seamed_64 : decode cX9_seamed 64 = .ok (.iload_n 3, 1) := by decide +kernel
theorem dX9_seamed_65 : decode cX9_seamed 65 = .ok (.istore_n 3, 1) := by decide +kernel
theorem dX9_seamed_66 : decode cX9_seamed 66 = .ok (.iinc 4 (-1), 3) := by decide +kernel
theorem dX9_seamed_69 : decode cX9_seamed 69 = .ok (.goto (-41), 3) := by decide +kernel
theorem dX9_seamed_72 : decode cX9_seamed 72 = .ok (.iload_n 1, 1) := by decide +kernel
theorem dX9_seamed_73 : decode cX9_seamed 73 = .ok (.ifCond .ne 7, 3) := by decide +kernel
theorem dX9_seamed_76 : decode cX9_seamed 76 = .ok (.iload_n 2, 1) := by decide +kernel
theorem dX9_seamed_77 : decode cX9_seamed 77 = .ok (.goto 4, 3) := by decide +kernel
theorem dX9_seamed_80 : decode cX9_seamed 80 = .ok (.iload_n 3, 1) := by decide +kernel
theorem dX9_seamed_81 : decode cX9_seamed 81 = .ok (.ireturn, 1) := by decide +kernel
theorem dX9_isSeen_0 : decode cX9_isSeen 0 = .ok (.iconst 0, 1) := by decide +kernel
theorem dX9_isSeen_1 : decode cX9_isSeen 1 = .ok (.istore_n 3, 1) := by decide +kernel
theorem dX9_isSeen_2 : decode cX9_isSeen 2 = .ok (.iconst 0, 1) := by decide +kernel
theorem dX9_isSeen_3 : decode cX9_isSeen 3 = .ok (.istore 4, 2) := by decide +kernel
theorem dX9_isSeen_5 : decode cX9_isSeen 5 = .ok (.iload 4, 2) := by decide +kernel
theorem dX9_isSeen_7 : decode cX9_isSeen 7 = .ok (.aload_n 0, 1) := by decide +kernel
theorem dX9_isSeen_8 : decode cX9_isSeen 8 = .ok (.getfield 109, 3) := by decide +kernel
theorem dX9_isSeen_11 : decode cX9_isSeen 11 = .ok (.if_icmp .ge 63, 3) := by decide +kernel
theorem dX9_isSeen_14 : decode cX9_isSeen 14 = .ok (.iload_n 3, 1) := by decide +kernel
theorem dX9_isSeen_15 : decode cX9_isSeen 15 = .ok (.ifCond .ne 47, 3) := by decide +kernel
theorem dX9_isSeen_18 : decode cX9_isSeen 18 = .ok (.aload_n 0, 1) := by decide +kernel
theorem dX9_isSeen_19 : decode cX9_isSeen 19 = .ok (.getfield 34, 3) := by decide +kernel
theorem dX9_isSeen_22 : decode cX9_isSeen 22 = .ok (.iload 4, 2) := by decide +kernel
theorem dX9_isSeen_24 : decode cX9_isSeen 24 = .ok (.iaload, 1) := by decide +kernel
theorem dX9_isSeen_25 : decode cX9_isSeen 25 = .ok (.iload_n 1, 1) := by decide +kernel
theorem dX9_isSeen_26 : decode cX9_isSeen 26 = .ok (.if_icmp .ne 14, 3) := by decide +kernel
theorem dX9_isSeen_29 : decode cX9_isSeen 29 = .ok (.aload_n 0, 1) := by decide +kernel
theorem dX9_isSeen_30 : decode cX9_isSeen 30 = .ok (.getfield 37, 3) := by decide +kernel
theorem dX9_isSeen_33 : decode cX9_isSeen 33 = .ok (.iload 4, 2) := by decide +kernel
theorem dX9_isSeen_35 : decode cX9_isSeen 35 = .ok (.iaload, 1) := by decide +kernel
theorem dX9_isSeen_36 : decode cX9_isSeen 36 = .ok (.iload_n 2, 1) := by decide +kernel
theorem dX9_isSeen_37 : decode cX9_isSeen 37 = .ok (.if_icmp .eq 25, 3) := by decide +kernel
theorem dX9_isSeen_40 : decode cX9_isSeen 40 = .ok (.aload_n 0, 1) := by decide +kernel
theorem dX9_isSeen_41 : decode cX9_isSeen 41 = .ok (.getfield 34, 3) := by decide +kernel
theorem dX9_isSeen_44 : decode cX9_isSeen 44 = .ok (.iload 4, 2) := by decide +kernel
theorem dX9_isSeen_46 : decode cX9_isSeen 46 = .ok (.iaload, 1) := by decide +kernel
theorem dX9_isSeen_47 : decode cX9_isSeen 47 = .ok (.iload_n 2, 1) := by decide +kernel
theorem dX9_isSeen_48 : decode cX9_isSeen 48 = .ok (.if_icmp .ne 18, 3) := by decide +kernel
theorem dX9_isSeen_51 : decode cX9_isSeen 51 = .ok (.aload_n 0, 1) := by decide +kernel
theorem dX9_isSeen_52 : decode cX9_isSeen 52 = .ok (.getfield 37, 3) := by decide +kernel
theorem dX9_isSeen_55 : decode cX9_isSeen 55 = .ok (.iload 4, 2) := by decide +kernel
theorem dX9_isSeen_57 : decode cX9_isSeen 57 = .ok (.iaload, 1) := by decide +kernel
theorem dX9_isSeen_58 : decode cX9_isSeen 58 = .ok (.iload_n 1, 1) := by decide +kernel
theorem dX9_isSeen_59 : decode cX9_isSeen 59 = .ok (.if_icmp .ne 7, 3) := by decide +kernel
theorem dX9_isSeen_62 : decode cX9_isSeen 62 = .ok (.iconst 1, 1) := by decide +kernel
theorem dX9_isSeen_63 : decode cX9_isSeen 63 = .ok (.goto 4, 3) := by decide +kernel
theorem dX9_isSeen_66 : decode cX9_isSeen 66 = .ok (.iconst 0, 1) := by decide +kernel
theorem dX9_isSeen_67 : decode cX9_isSeen 67 = .ok (.istore_n 3, 1) := by decide +kernel
theorem dX9_isSeen_68 : decode cX9_isSeen 68 = .ok (.iinc 4 1, 3) := by decide +kernel
theorem dX9_isSeen_71 : decode cX9_isSeen 71 = .ok (.goto (-66), 3) := by decide +kernel
theorem dX9_isSeen_74 : decode cX9_isSeen 74 = .ok (.iload_n 3, 1) := by decide +kernel
theorem dX9_isSeen_75 : decode cX9_isSeen 75 = .ok (.ireturn, 1) := by decide +kernel
theorem dX9_tells_0 : decode cX9_tells 0 = .ok (.iload_n 1, 1) := by decide +kernel
theorem dX9_tells_1 : decode cX9_tells 1 = .ok (.iconst 0, 1) := by decide +kernel
theorem dX9_tells_2 : decode cX9_tells 2 = .ok (.iconst 1, 1) := by decide +kernel
theorem dX9_tells_3 : decode cX9_tells 3 = .ok (.invokestatic 54, 3) := by decide +kernel
theorem dX9_tells_6 : decode cX9_tells 6 = .ok (.ifCond .ne 5, 3) := by decide +kernel
theorem dX9_tells_9 : decode cX9_tells 9 = .ok (.iconst (-1), 1) := by decide +kernel
theorem dX9_tells_10 : decode cX9_tells 10 = .ok (.ireturn, 1) := by decide +kernel
theorem dX9_tells_11 : decode cX9_tells 11 = .ok (.aload_n 0, 1) := by decide +kernel
theorem dX9_tells_12 : decode cX9_tells 12 = .ok (.iconst 0, 1) := by decide +kernel
theorem dX9_tells_13 : decode cX9_tells 13 = .ok (.invokevirtual 203, 3) := by decide +kernel
theorem dX9_tells_16 : decode cX9_tells 16 = .ok (.istore_n 2, 1) := by decide +kernel
theorem dX9_tells_17 : decode cX9_tells 17 = .ok (.bipush (-4), 2) := by decide +kernel
theorem dX9_tells_19 : decode cX9_tells 19 = .ok (.istore_n 3, 1) := by decide +kernel
theorem dX9_tells_20 : decode cX9_tells 20 = .ok (.ldc 183, 2) := by decide +kernel
theorem dX9_tells_22 : decode cX9_tells 22 = .ok (.istore 4, 2) := by decide +kernel
theorem dX9_tells_24 : decode cX9_tells 24 = .ok (.iconst 0, 1) := by decide +kernel
theorem dX9_tells_25 : decode cX9_tells 25 = .ok (.istore 5, 2) := by decide +kernel
theorem dX9_tells_27 : decode cX9_tells 27 = .ok (.iload 5, 2) := by decide +kernel
theorem dX9_tells_29 : decode cX9_tells 29 = .ok (.aload_n 0, 1) := by decide +kernel
theorem dX9_tells_30 : decode cX9_tells 30 = .ok (.getfield 22, 3) := by decide +kernel
theorem dX9_tells_33 : decode cX9_tells 33 = .ok (.iconst 0, 1) := by decide +kernel
theorem dX9_tells_34 : decode cX9_tells 34 = .ok (.iaload, 1) := by decide +kernel
theorem dX9_tells_35 : decode cX9_tells 35 = .ok (.if_icmp .ge 168, 3) := by decide +kernel
theorem dX9_tells_38 : decode cX9_tells 38 = .ok (.iload_n 2, 1) := by decide +kernel
theorem dX9_tells_39 : decode cX9_tells 39 = .ok (.ifCond .le 164, 3) := by decide +kernel
theorem dX9_tells_42 : decode cX9_tells 42 = .ok (.iload 5, 2) := by decide +kernel
theorem dX9_tells_44 : decode cX9_tells 44 = .ok (.iconst 1, 1) := by decide +kernel
theorem dX9_tells_45 : decode cX9_tells 45 = .ok (.iadd, 1) := by decide +kernel
theorem dX9_tells_46 : decode cX9_tells 46 = .ok (.istore 6, 2) := by decide +kernel
theorem dX9_tells_48 : decode cX9_tells 48 = .ok (.iload 6, 2) := by decide +kernel
theorem dX9_tells_50 : decode cX9_tells 50 = .ok (.aload_n 0, 1) := by decide +kernel
theorem dX9_tells_51 : decode cX9_tells 51 = .ok (.getfield 22, 3) := by decide +kernel
theorem dX9_tells_54 : decode cX9_tells 54 = .ok (.iconst 0, 1) := by decide +kernel
theorem dX9_tells_55 : decode cX9_tells 55 = .ok (.iaload, 1) := by decide +kernel
theorem dX9_tells_56 : decode cX9_tells 56 = .ok (.if_icmp .ge 141, 3) := by decide +kernel
theorem dX9_tells_59 : decode cX9_tells 59 = .ok (.iconst 0, 1) := by decide +kernel
theorem dX9_tells_60 : decode cX9_tells 60 = .ok (.istore 7, 2) := by decide +kernel
theorem dX9_tells_62 : decode cX9_tells 62 = .ok (.iconst 0, 1) := by decide +kernel
theorem dX9_tells_63 : decode cX9_tells 63 = .ok (.istore 8, 2) := by decide +kernel
theorem dX9_tells_65 : decode cX9_tells 65 = .ok (.iload 8, 2) := by decide +kernel
theorem dX9_tells_67 : decode cX9_tells 67 = .ok (.iconst 1, 1) := by decide +kernel
theorem dX9_tells_68 : decode cX9_tells 68 = .ok (.aload_n 0, 1) := by decide +kernel
theorem dX9_tells_69 : decode cX9_tells 69 = .ok (.getfield 22, 3) := by decide +kernel
theorem dX9_tells_72 : decode cX9_tells 72 = .ok (.iconst 1, 1) := by decide +kernel
theorem dX9_tells_73 : decode cX9_tells 73 = .ok (.iaload, 1) := by decide +kernel
theorem dX9_tells_74 : decode cX9_tells 74 = .ok (.ishl, 1) := by decide +kernel
theorem dX9_tells_75 : decode cX9_tells 75 = .ok (.if_icmp .ge 44, 3) := by decide +kernel
theorem dX9_tells_78 : decode cX9_tells 78 = .ok (.iload 7, 2) := by decide +kernel
theorem dX9_tells_80 : decode cX9_tells 80 = .ok (.aload_n 0, 1) := by decide +kernel
theorem dX9_tells_81 : decode cX9_tells 81 = .ok (.iload 8, 2) := by decide +kernel
theorem dX9_tells_83 : decode cX9_tells 83 = .ok (.invokevirtual 200, 3) := by decide +kernel
theorem dX9_tells_86 : decode cX9_tells 86 = .ok (.ifCond .eq 23, 3) := by decide +kernel
theorem dX9_tells_89 : decode cX9_tells 89 = .ok (.aload_n 0, 1) := by decide +kernel
theorem dX9_tells_90 : decode cX9_tells 90 = .ok (.iload 5, 2) := by decide +kernel
theorem dX9_tells_92 : decode cX9_tells 92 = .ok (.iload 8, 2) := by decide +kernel
theorem dX9_tells_94 : decode cX9_tells 94 = .ok (.invokevirtual 150, 3) := by decide +kernel
theorem dX9_tells_97 : decode cX9_tells 97 = .ok (.iload 6, 2) := by decide +kernel
theorem dX9_tells_99 : decode cX9_tells 99 = .ok (.invokestatic 143, 3) := by decide +kernel
theorem dX9_tells_102 : decode cX9_tells 102 = .ok (.ifCond .eq 7, 3) := by decide +kernel
theorem dX9_tells_105 : decode cX9_tells 105 = .ok (.iconst 1, 1) := by decide +kernel
theorem dX9_tells_106 : decode cX9_tells 106 = .ok (.goto 4, 3) := by decide +kernel
theorem dX9_tells_109 : decode cX9_tells 109 = .ok (.iconst 0, 1) := by decide +kernel
theorem dX9_tells_110 : decode cX9_tells 110 = .ok (.iadd, 1) := by decide +kernel
theorem dX9_tells_111 : decode cX9_tells 111 = .ok (.istore 7, 2) := by decide +kernel
theorem dX9_tells_113 : decode cX9_tells 113 = .ok (.iinc 8 1, 3) := by decide +kernel
theorem dX9_tells_116 : decode cX9_tells 116 = .ok (.goto (-51), 3) := by decide +kernel
theorem dX9_tells_119 : decode cX9_tells 119 = .ok (.aload_n 0, 1) := by decide +kernel
theorem dX9_tells_120 : decode cX9_tells 120 = .ok (.iload 5, 2) := by decide +kernel
theorem dX9_tells_122 : decode cX9_tells 122 = .ok (.iload 6, 2) := by decide +kernel
theorem dX9_tells_124 : decode cX9_tells 124 = .ok (.invokevirtual 206, 3) := by decide +kernel
theorem dX9_tells_127 : decode cX9_tells 127 = .ok (.ifCond .eq 8, 3) := by decide +kernel
theorem dX9_tells_130 : decode cX9_tells 130 = .ok (.ldc 183, 2) := by decide +kernel
theorem dX9_tells_132 : decode cX9_tells 132 = .ok (.goto 21, 3) := by decide +kernel
theorem dX9_tells_135 : decode cX9_tells 135 = .ok (.iload 7, 2) := by decide +kernel
theorem dX9_tells_137 : decode cX9_tells 137 = .ok (.iload_n 2, 1) := by decide +kernel
theorem dX9_tells_138 : decode cX9_tells 138 = .ok (.iload 7, 2) := by decide +kernel
theorem dX9_tells_140 : decode cX9_tells 140 = .ok (.isub, 1) := by decide +kernel
theorem dX9_tells_141 : decode cX9_tells 141 = .ok (.if_icmp .le 8, 3) := by decide +kernel
theorem dX9_tells_144 : decode cX9_tells 144 = .ok (.iload 7, 2) := by decide +kernel
theorem dX9_tells_146 : decode cX9_tells 146 = .ok (.goto 7, 3) := by decide +kernel
theorem dX9_tells_149 : decode cX9_tells 149 = .ok (.iload_n 2, 1) := by decide +kernel
theorem dX9_tells_150 : decode cX9_tells 150 = .ok (.iload 7, 2) := by decide +kernel
theorem dX9_tells_152 : decode cX9_tells 152 = .ok (.isub, 1) := by decide +kernel
theorem dX9_tells_153 : decode cX9_tells 153 = .ok (.istore 8, 2) := by decide +kernel
theorem dX9_tells_155 : decode cX9_tells 155 = .ok (.iload 8, 2) := by decide +kernel
theorem dX9_tells_157 : decode cX9_tells 157 = .ok (.iload 4, 2) := by decide +kernel
theorem dX9_tells_159 : decode cX9_tells 159 = .ok (.if_icmp .ge 14, 3) := by decide +kernel
theorem dX9_tells_162 : decode cX9_tells 162 = .ok (.bipush 10, 2) := by decide +kernel
theorem dX9_tells_164 : decode cX9_tells 164 = .ok (.iload 5, 2) := by decide +kernel
theorem dX9_tells_166 : decode cX9_tells 166 = .ok (.imul, 1) := by decide +kernel
theorem dX9_tells_167 : decode cX9_tells 167 = .ok (.iload 6, 2) := by decide +kernel
theorem dX9_tells_169 : decode cX9_tells 169 = .ok (.iadd, 1) := by decide +kernel
theorem dX9_tells_170 : decode cX9_tells 170 = .ok (.goto 4, 3) := by decide +kernel
theorem dX9_tells_173 : decode cX9_tells 173 = .ok (.iload_n 3, 1) := by decide +kernel
theorem dX9_tells_174 : decode cX9_tells 174 = .ok (.istore_n 3, 1) := by decide +kernel
theorem dX9_tells_175 : decode cX9_tells 175 = .ok (.iload 8, 2) := by decide +kernel
theorem dX9_tells_177 : decode cX9_tells 177 = .ok (.iload 4, 2) := by decide +kernel
theorem dX9_tells_179 : decode cX9_tells 179 = .ok (.if_icmp .ge 8, 3) := by decide +kernel
theorem dX9_tells_182 : decode cX9_tells 182 = .ok (.iload 8, 2) := by decide +kernel
theorem dX9_tells_184 : decode cX9_tells 184 = .ok (.goto 5, 3) := by decide +kernel
theorem dX9_tells_187 : decode cX9_tells 187 = .ok (.iload 4, 2) := by decide +kernel
theorem dX9_tells_189 : decode cX9_tells 189 = .ok (.istore 4, 2) := by decide +kernel
theorem dX9_tells_191 : decode cX9_tells 191 = .ok (.iinc 6 1, 3) := by decide +kernel
theorem dX9_tells_194 : decode cX9_tells 194 = .ok (.goto (-146), 3) := by decide +kernel
theorem dX9_tells_197 : decode cX9_tells 197 = .ok (.iinc 5 1, 3) := by decide +kernel
theorem dX9_tells_200 : decode cX9_tells 200 = .ok (.goto (-173), 3) := by decide +kernel
theorem dX9_tells_203 : decode cX9_tells 203 = .ok (.iload_n 3, 1) := by decide +kernel
theorem dX9_tells_204 : decode cX9_tells 204 = .ok (.bipush (-4), 2) := by decide +kernel
theorem dX9_tells_206 : decode cX9_tells 206 = .ok (.if_icmp .ne 8, 3) := by decide +kernel
theorem dX9_tells_209 : decode cX9_tells 209 = .ok (.bipush (-4), 2) := by decide +kernel
theorem dX9_tells_211 : decode cX9_tells 211 = .ok (.goto 13, 3) := by decide +kernel
theorem dX9_tells_214 : decode cX9_tells 214 = .ok (.iload_n 1, 1) := by decide +kernel
theorem dX9_tells_215 : decode cX9_tells 215 = .ok (.ifCond .ne 7, 3) := by decide +kernel
theorem dX9_tells_218 : decode cX9_tells 218 = .ok (.iload_n 3, 1) := by decide +kernel
theorem dX9_tells_219 : decode cX9_tells 219 = .ok (.goto 5, 3) := by decide +kernel
theorem dX9_tells_222 : decode cX9_tells 222 = .ok (.iload 4, 2) := by decide +kernel
theorem dX9_tells_224 : decode cX9_tells 224 = .ok (.ireturn, 1) := by decide +kernel
theorem dX9_common_0 : decode cX9_common 0 = .ok (.iload_n 0, 1) := by decide +kernel
theorem dX9_common_1 : decode cX9_common 1 = .ok (.istore_n 2, 1) := by decide +kernel
theorem dX9_common_2 : decode cX9_common 2 = .ok (.iload_n 1, 1) := by decide +kernel
theorem dX9_common_3 : decode cX9_common 3 = .ok (.istore_n 3, 1) := by decide +kernel
theorem dX9_common_4 : decode cX9_common 4 = .ok (.iload_n 3, 1) := by decide +kernel
theorem dX9_common_5 : decode cX9_common 5 = .ok (.ifCond .eq 16, 3) := by decide +kernel
theorem dX9_common_8 : decode cX9_common 8 = .ok (.iload_n 2, 1) := by decide +kernel
theorem dX9_common_9 : decode cX9_common 9 = .ok (.iload_n 3, 1) := by decide +kernel
theorem dX9_common_10 : decode cX9_common 10 = .ok (.irem, 1) := by decide +kernel
theorem dX9_common_11 : decode cX9_common 11 = .ok (.istore 4, 2) := by decide +kernel
theorem dX9_common_13 : decode cX9_common 13 = .ok (.iload_n 3, 1) := by decide +kernel
theorem dX9_common_14 : decode cX9_common 14 = .ok (.istore_n 2, 1) := by decide +kernel
theorem dX9_common_15 : decode cX9_common 15 = .ok (.iload 4, 2) := by decide +kernel
theorem dX9_common_17 : decode cX9_common 17 = .ok (.istore_n 3, 1) := by decide +kernel
theorem dX9_common_18 : decode cX9_common 18 = .ok (.goto (-14), 3) := by decide +kernel
theorem dX9_common_21 : decode cX9_common 21 = .ok (.iload_n 2, 1) := by decide +kernel
theorem dX9_common_22 : decode cX9_common 22 = .ok (.ireturn, 1) := by decide +kernel
theorem dX9_showers_0 : decode cX9_showers 0 = .ok (.aload_n 0, 1) := by decide +kernel
theorem dX9_showers_1 : decode cX9_showers 1 = .ok (.iload_n 1, 1) := by decide +kernel
theorem dX9_showers_2 : decode cX9_showers 2 = .ok (.invokevirtual 137, 3) := by decide +kernel
theorem dX9_showers_5 : decode cX9_showers 5 = .ok (.ifCond .eq 33, 3) := by decide +kernel
theorem dX9_showers_8 : decode cX9_showers 8 = .ok (.iload_n 2, 1) := by decide +kernel
theorem dX9_showers_9 : decode cX9_showers 9 = .ok (.iconst 0, 1) := by decide +kernel
theorem dX9_showers_10 : decode cX9_showers 10 = .ok (.bipush 8, 2) := by decide +kernel
theorem dX9_showers_12 : decode cX9_showers 12 = .ok (.invokestatic 54, 3) := by decide +kernel
theorem dX9_showers_15 : decode cX9_showers 15 = .ok (.ifCond .eq 23, 3) := by decide +kernel
theorem dX9_showers_18 : decode cX9_showers 18 = .ok (.iload_n 3, 1) := by decide +kernel
theorem dX9_showers_19 : decode cX9_showers 19 = .ok (.iconst 0, 1) := by decide +kernel
theorem dX9_showers_20 : decode cX9_showers 20 = .ok (.bipush 10, 2) := by decide +kernel
theorem dX9_showers_22 : decode cX9_showers 22 = .ok (.invokestatic 54, 3) := by decide +kernel
theorem dX9_showers_25 : decode cX9_showers 25 = .ok (.ifCond .eq 13, 3) := by decide +kernel
theorem dX9_showers_28 : decode cX9_showers 28 = .ok (.iload 4, 2) := by decide +kernel
theorem dX9_showers_30 : decode cX9_showers 30 = .ok (.iconst 0, 1) := by decide +kernel
theorem dX9_showers_31 : decode cX9_showers 31 = .ok (.iconst 1, 1) := by decide +kernel
theorem dX9_showers_32 : decode cX9_showers 32 = .ok (.invokestatic 54, 3) := by decide +kernel
theorem dX9_showers_35 : decode cX9_showers 35 = .ok (.ifCond .ne 5, 3) := by decide +kernel
theorem dX9_showers_38 : decode cX9_showers 38 = .ok (.iconst (-1), 1) := by decide +kernel
theorem dX9_showers_39 : decode cX9_showers 39 = .ok (.ireturn, 1) := by decide +kernel
theorem dX9_showers_40 : decode cX9_showers 40 = .ok (.iconst 0, 1) := by decide +kernel
theorem dX9_showers_41 : decode cX9_showers 41 = .ok (.istore 5, 2) := by decide +kernel
theorem dX9_showers_43 : decode cX9_showers 43 = .ok (.iconst 1, 1) := by decide +kernel
theorem dX9_showers_44 : decode cX9_showers 44 = .ok (.istore 6, 2) := by decide +kernel
theorem dX9_showers_46 : decode cX9_showers 46 = .ok (.iconst 0, 1) := by decide +kernel
theorem dX9_showers_47 : decode cX9_showers 47 = .ok (.istore 7, 2) := by decide +kernel
theorem dX9_showers_49 : decode cX9_showers 49 = .ok (.iload 7, 2) := by decide +kernel
theorem dX9_showers_51 : decode cX9_showers 51 = .ok (.iload_n 2, 1) := by decide +kernel
theorem dX9_showers_52 : decode cX9_showers 52 = .ok (.if_icmp .ge 16, 3) := by decide +kernel
theorem dX9_showers_55 : decode cX9_showers 55 = .ok (.iload 6, 2) := by decide +kernel
theorem dX9_showers_57 : decode cX9_showers 57 = .ok (.bipush 10, 2) := by decide +kernel
theorem dX9_showers_59 : decode cX9_showers 59 = .ok (.imul, 1) := by decide +kernel
theorem dX9_showers_60 : decode cX9_showers 60 = .ok (.istore 6, 2) := by decide +kernel
theorem dX9_showers_62 : decode cX9_showers 62 = .ok (.iinc 7 1, 3) := by decide +kernel
theorem dX9_showers_65 : decode cX9_showers 65 = .ok (.goto (-16), 3) := by decide +kernel
theorem dX9_showers_68 : decode cX9_showers 68 = .ok (.iconst 0, 1) := by decide +kernel
theorem dX9_showers_69 : decode cX9_showers 69 = .ok (.istore 7, 2) := by decide +kernel
theorem dX9_showers_71 : decode cX9_showers 71 = .ok (.iload 7, 2) := by decide +kernel
theorem dX9_showers_73 : decode cX9_showers 73 = .ok (.iconst 1, 1) := by decide +kernel
theorem dX9_showers_74 : decode cX9_showers 74 = .ok (.iload_n 2, 1) := by decide +kernel
theorem dX9_showers_75 : decode cX9_showers 75 = .ok (.ishl, 1) := by decide +kernel
theorem dX9_showers_76 : decode cX9_showers 76 = .ok (.if_icmp .ge 92, 3) := by decide +kernel
theorem dX9_showers_79 : decode cX9_showers 79 = .ok (.iconst 1, 1) := by decide +kernel
theorem dX9_showers_80 : decode cX9_showers 80 = .ok (.istore 8, 2) := by decide +kernel
theorem dX9_showers_82 : decode cX9_showers 82 = .ok (.aload_n 0, 1) := by decide +kernel
theorem dX9_showers_83 : decode cX9_showers 83 = .ok (.invokevirtual 177, 3) := by decide +kernel
theorem dX9_showers_86 : decode cX9_showers 86 = .ok (.iconst 0, 1) := by decide +kernel
theorem dX9_showers_87 : decode cX9_showers 87 = .ok (.istore 9, 2) := by decide +kernel
theorem dX9_showers_89 : decode cX9_showers 89 = .ok (.iload 9, 2) := by decide +kernel
theorem dX9_showers_91 : decode cX9_showers 91 = .ok (.iload_n 2, 1) := by decide +kernel
theorem dX9_showers_92 : decode cX9_showers 92 = .ok (.if_icmp .ge 47, 3) := by decide +kernel
theorem dX9_showers_95 : decode cX9_showers 95 = .ok (.iload 8, 2) := by decide +kernel
theorem dX9_showers_97 : decode cX9_showers 97 = .ok (.iload 7, 2) := by decide +kernel
theorem dX9_showers_99 : decode cX9_showers 99 = .ok (.iload 9, 2) := by decide +kernel
theorem dX9_showers_101 : decode cX9_showers 101 = .ok (.invokestatic 143, 3) := by decide +kernel
theorem dX9_showers_104 : decode cX9_showers 104 = .ok (.ifCond .eq 7, 3) := by decide +kernel
theorem dX9_showers_107 : decode cX9_showers 107 = .ok (.iload_n 3, 1) := by decide +kernel
theorem dX9_showers_108 : decode cX9_showers 108 = .ok (.goto 7, 3) := by decide +kernel
theorem dX9_showers_111 : decode cX9_showers 111 = .ok (.bipush 10, 2) := by decide +kernel
theorem dX9_showers_113 : decode cX9_showers 113 = .ok (.iload_n 3, 1) := by decide +kernel
theorem dX9_showers_114 : decode cX9_showers 114 = .ok (.isub, 1) := by decide +kernel
theorem dX9_showers_115 : decode cX9_showers 115 = .ok (.imul, 1) := by decide +kernel
theorem dX9_showers_116 : decode cX9_showers 116 = .ok (.istore 8, 2) := by decide +kernel
theorem dX9_showers_118 : decode cX9_showers 118 = .ok (.aload_n 0, 1) := by decide +kernel
theorem dX9_showers_119 : decode cX9_showers 119 = .ok (.aload_n 0, 1) := by decide +kernel
theorem dX9_showers_120 : decode cX9_showers 120 = .ok (.getfield 28, 3) := by decide +kernel
theorem dX9_showers_123 : decode cX9_showers 123 = .ok (.iload 7, 2) := by decide +kernel
theorem dX9_showers_125 : decode cX9_showers 125 = .ok (.iload 9, 2) := by decide +kernel
theorem dX9_showers_127 : decode cX9_showers 127 = .ok (.invokestatic 143, 3) := by decide +kernel
theorem dX9_showers_130 : decode cX9_showers 130 = .ok (.invokevirtual 133, 3) := by decide +kernel
theorem dX9_showers_133 : decode cX9_showers 133 = .ok (.iinc 9 1, 3) := by decide +kernel
theorem dX9_showers_136 : decode cX9_showers 136 = .ok (.goto (-47), 3) := by decide +kernel
theorem dX9_showers_139 : decode cX9_showers 139 = .ok (.iload 5, 2) := by decide +kernel
theorem dX9_showers_141 : decode cX9_showers 141 = .ok (.aload_n 0, 1) := by decide +kernel
theorem dX9_showers_142 : decode cX9_showers 142 = .ok (.aload_n 0, 1) := by decide +kernel
theorem dX9_showers_143 : decode cX9_showers 143 = .ok (.getfield 28, 3) := by decide +kernel
theorem dX9_showers_146 : decode cX9_showers 146 = .ok (.iload_n 1, 1) := by decide +kernel
theorem dX9_showers_147 : decode cX9_showers 147 = .ok (.invokevirtual 116, 3) := by decide +kernel
theorem dX9_showers_150 : decode cX9_showers 150 = .ok (.ifCond .eq 8, 3) := by decide +kernel
theorem dX9_showers_153 : decode cX9_showers 153 = .ok (.iload 8, 2) := by decide +kernel
theorem dX9_showers_155 : decode cX9_showers 155 = .ok (.goto 4, 3) := by decide +kernel
theorem dX9_showers_158 : decode cX9_showers 158 = .ok (.iconst 0, 1) := by decide +kernel
theorem dX9_showers_159 : decode cX9_showers 159 = .ok (.iadd, 1) := by decide +kernel
theorem dX9_showers_160 : decode cX9_showers 160 = .ok (.istore 5, 2) := by decide +kernel
theorem dX9_showers_162 : decode cX9_showers 162 = .ok (.iinc 7 1, 3) := by decide +kernel
theorem dX9_showers_165 : decode cX9_showers 165 = .ok (.goto (-94), 3) := by decide +kernel
theorem dX9_showers_168 : decode cX9_showers 168 = .ok (.iload 5, 2) := by decide +kernel
theorem dX9_showers_170 : decode cX9_showers 170 = .ok (.iload 6, 2) := by decide +kernel
theorem dX9_showers_172 : decode cX9_showers 172 = .ok (.invokestatic 209, 3) := by decide +kernel
theorem dX9_showers_175 : decode cX9_showers 175 = .ok (.istore 7, 2) := by decide +kernel
theorem dX9_showers_177 : decode cX9_showers 177 = .ok (.iload 4, 2) := by decide +kernel
theorem dX9_showers_179 : decode cX9_showers 179 = .ok (.ifCond .ne 11, 3) := by decide +kernel
theorem dX9_showers_182 : decode cX9_showers 182 = .ok (.iload 5, 2) := by decide +kernel
theorem dX9_showers_184 : decode cX9_showers 184 = .ok (.iload 7, 2) := by decide +kernel
theorem dX9_showers_186 : decode cX9_showers 186 = .ok (.idiv, 1) := by decide +kernel
theorem dX9_showers_187 : decode cX9_showers 187 = .ok (.goto 8, 3) := by decide +kernel
theorem dX9_showers_190 : decode cX9_showers 190 = .ok (.iload 6, 2) := by decide +kernel
theorem dX9_showers_192 : decode cX9_showers 192 = .ok (.iload 7, 2) := by decide +kernel
theorem dX9_showers_194 : decode cX9_showers 194 = .ok (.idiv, 1) := by decide +kernel
theorem dX9_showers_195 : decode cX9_showers 195 = .ok (.ireturn, 1) := by decide +kernel
theorem dX9_stitches_0 : decode cX9_stitches 0 = .ok (.iconst 0, 1) := by decide +kernel
theorem dX9_stitches_1 : decode cX9_stitches 1 = .ok (.istore_n 2, 1) := by decide +kernel
theorem dX9_stitches_2 : decode cX9_stitches 2 = .ok (.iconst 0, 1) := by decide +kernel
theorem dX9_stitches_3 : decode cX9_stitches 3 = .ok (.istore_n 3, 1) := by decide +kernel
theorem dX9_stitches_4 : decode cX9_stitches 4 = .ok (.iload_n 3, 1) := by decide +kernel
theorem dX9_stitches_5 : decode cX9_stitches 5 = .ok (.aload_n 0, 1) := by decide +kernel
theorem dX9_stitches_6 : decode cX9_stitches 6 = .ok (.getfield 22, 3) := by decide +kernel
theorem dX9_stitches_9 : decode cX9_stitches 9 = .ok (.iconst 1, 1) := by decide +kernel
theorem dX9_stitches_10 : decode cX9_stitches 10 = .ok (.iaload, 1) := by decide +kernel
theorem dX9_stitches_11 : decode cX9_stitches 11 = .ok (.if_icmp .ge 17, 3) := by decide +kernel
theorem dX9_stitches_14 : decode cX9_stitches 14 = .ok (.iload_n 2, 1) := by decide +kernel
theorem dX9_stitches_15 : decode cX9_stitches 15 = .ok (.aload_n 1, 1) := by decide +kernel
theorem dX9_stitches_16 : decode cX9_stitches 16 = .ok (.iconst 1, 1) := by decide +kernel
theorem dX9_stitches_17 : decode cX9_stitches 17 = .ok (.iload_n 3, 1) := by decide +kernel
theorem dX9_stitches_18 : decode cX9_stitches 18 = .ok (.iadd, 1) := by decide +kernel
theorem dX9_stitches_19 : decode cX9_stitches 19 = .ok (.iaload, 1) := by decide +kernel
theorem dX9_stitches_20 : decode cX9_stitches 20 = .ok (.iadd, 1) := by decide +kernel
theorem dX9_stitches_21 : decode cX9_stitches 21 = .ok (.istore_n 2, 1) := by decide +kernel
theorem dX9_stitches_22 : decode cX9_stitches 22 = .ok (.iinc 3 1, 3) := by decide +kernel
theorem dX9_stitches_25 : decode cX9_stitches 25 = .ok (.goto (-21), 3) := by decide +kernel
theorem dX9_stitches_28 : decode cX9_stitches 28 = .ok (.iload_n 2, 1) := by decide +kernel
theorem dX9_stitches_29 : decode cX9_stitches 29 = .ok (.ireturn, 1) := by decide +kernel
theorem dX9_draws_0 : decode cX9_draws 0 = .ok (.iload_n 2, 1) := by decide +kernel
theorem dX9_draws_1 : decode cX9_draws 1 = .ok (.bipush 8, 2) := by decide +kernel
theorem dX9_draws_3 : decode cX9_draws 3 = .ok (.irem, 1) := by decide +kernel
theorem dX9_draws_4 : decode cX9_draws 4 = .ok (.iconst 4, 1) := by decide +kernel
theorem dX9_draws_5 : decode cX9_draws 5 = .ok (.if_icmp .ge 59, 3) := by decide +kernel
theorem dX9_draws_8 : decode cX9_draws 8 = .ok (.iload_n 2, 1) := by decide +kernel
theorem dX9_draws_9 : decode cX9_draws 9 = .ok (.bipush 8, 2) := by decide +kernel
theorem dX9_draws_11 : decode cX9_draws 11 = .ok (.idiv, 1) := by decide +kernel
theorem dX9_draws_12 : decode cX9_draws 12 = .ok (.aload_n 0, 1) := by decide +kernel
theorem dX9_draws_13 : decode cX9_draws 13 = .ok (.getfield 22, 3) := by decide +kernel
theorem dX9_draws_16 : decode cX9_draws 16 = .ok (.iconst 2, 1) := by decide +kernel
theorem dX9_draws_17 : decode cX9_draws 17 = .ok (.iaload, 1) := by decide +kernel
theorem dX9_draws_18 : decode cX9_draws 18 = .ok (.irem, 1) := by decide +kernel
theorem dX9_draws_19 : decode cX9_draws 19 = .ok (.istore_n 3, 1) := by decide +kernel
theorem dX9_draws_20 : decode cX9_draws 20 = .ok (.iload_n 2, 1) := by decide +kernel
theorem dX9_draws_21 : decode cX9_draws 21 = .ok (.bipush 64, 2) := by decide +kernel
theorem dX9_draws_23 : decode cX9_draws 23 = .ok (.idiv, 1) := by decide +kernel
theorem dX9_draws_24 : decode cX9_draws 24 = .ok (.aload_n 0, 1) := by decide +kernel
theorem dX9_draws_25 : decode cX9_draws 25 = .ok (.getfield 22, 3) := by decide +kernel
theorem dX9_draws_28 : decode cX9_draws 28 = .ok (.iconst 1, 1) := by decide +kernel
theorem dX9_draws_29 : decode cX9_draws 29 = .ok (.iaload, 1) := by decide +kernel
theorem dX9_draws_30 : decode cX9_draws 30 = .ok (.irem, 1) := by decide +kernel
theorem dX9_draws_31 : decode cX9_draws 31 = .ok (.istore 4, 2) := by decide +kernel
theorem dX9_draws_33 : decode cX9_draws 33 = .ok (.aload_n 1, 1) := by decide +kernel
theorem dX9_draws_34 : decode cX9_draws 34 = .ok (.bipush 13, 2) := by decide +kernel
theorem dX9_draws_36 : decode cX9_draws 36 = .ok (.iload_n 3, 1) := by decide +kernel
theorem dX9_draws_37 : decode cX9_draws 37 = .ok (.iadd, 1) := by decide +kernel
theorem dX9_draws_38 : decode cX9_draws 38 = .ok (.aload_n 0, 1) := by decide +kernel
theorem dX9_draws_39 : decode cX9_draws 39 = .ok (.aload_n 1, 1) := by decide +kernel
theorem dX9_draws_40 : decode cX9_draws 40 = .ok (.iload_n 3, 1) := by decide +kernel
theorem dX9_draws_41 : decode cX9_draws 41 = .ok (.iload 4, 2) := by decide +kernel
theorem dX9_draws_43 : decode cX9_draws 43 = .ok (.invokevirtual 166, 3) := by decide +kernel
theorem dX9_draws_46 : decode cX9_draws 46 = .ok (.ifCond .eq 8, 3) := by decide +kernel
theorem dX9_draws_49 : decode cX9_draws 49 = .ok (.iload 4, 2) := by decide +kernel
theorem dX9_draws_51 : decode cX9_draws 51 = .ok (.goto 9, 3) := by decide +kernel
theorem dX9_draws_54 : decode cX9_draws 54 = .ok (.aload_n 1, 1) := by decide +kernel
theorem dX9_draws_55 : decode cX9_draws 55 = .ok (.bipush 13, 2) := by decide +kernel
theorem dX9_draws_57 : decode cX9_draws 57 = .ok (.iload_n 3, 1) := by decide +kernel
theorem dX9_draws_58 : decode cX9_draws 58 = .ok (.iadd, 1) := by decide +kernel
theorem dX9_draws_59 : decode cX9_draws 59 = .ok (.iaload, 1) := by decide +kernel
theorem dX9_draws_60 : decode cX9_draws 60 = .ok (.iastore, 1) := by decide +kernel
theorem dX9_draws_61 : decode cX9_draws 61 = .ok (.goto 46, 3) := by decide +kernel
theorem dX9_draws_64 : decode cX9_draws 64 = .ok (.iload_n 2, 1) := by decide +kernel
theorem dX9_draws_65 : decode cX9_draws 65 = .ok (.bipush 8, 2) := by decide +kernel
theorem dX9_draws_67 : decode cX9_draws 67 = .ok (.irem, 1) := by decide +kernel
theorem dX9_draws_68 : decode cX9_draws 68 = .ok (.iconst 4, 1) := by decide +kernel
theorem dX9_draws_69 : decode cX9_draws 69 = .ok (.if_icmp .ne 38, 3) := by decide +kernel
theorem dX9_draws_72 : decode cX9_draws 72 = .ok (.iload_n 2, 1) := by decide +kernel
theorem dX9_draws_73 : decode cX9_draws 73 = .ok (.bipush 8, 2) := by decide +kernel
theorem dX9_draws_75 : decode cX9_draws 75 = .ok (.idiv, 1) := by decide +kernel
theorem dX9_draws_76 : decode cX9_draws 76 = .ok (.aload_n 0, 1) := by decide +kernel
theorem dX9_draws_77 : decode cX9_draws 77 = .ok (.getfield 22, 3) := by decide +kernel
theorem dX9_draws_80 : decode cX9_draws 80 = .ok (.iconst 1, 1) := by decide +kernel
theorem dX9_draws_81 : decode cX9_draws 81 = .ok (.iaload, 1) := by decide +kernel
theorem dX9_draws_82 : decode cX9_draws 82 = .ok (.irem, 1) := by decide +kernel
theorem dX9_draws_83 : decode cX9_draws 83 = .ok (.istore_n 3, 1) := by decide +kernel
theorem dX9_draws_84 : decode cX9_draws 84 = .ok (.aload_n 1, 1) := by decide +kernel
theorem dX9_draws_85 : decode cX9_draws 85 = .ok (.iconst 1, 1) := by decide +kernel
theorem dX9_draws_86 : decode cX9_draws 86 = .ok (.iload_n 3, 1) := by decide +kernel
theorem dX9_draws_87 : decode cX9_draws 87 = .ok (.iadd, 1) := by decide +kernel
theorem dX9_draws_88 : decode cX9_draws 88 = .ok (.aload_n 0, 1) := by decide +kernel
theorem dX9_draws_89 : decode cX9_draws 89 = .ok (.aload_n 1, 1) := by decide +kernel
theorem dX9_draws_90 : decode cX9_draws 90 = .ok (.iload_n 3, 1) := by decide +kernel
theorem dX9_draws_91 : decode cX9_draws 91 = .ok (.invokevirtual 116, 3) := by decide +kernel
theorem dX9_draws_94 : decode cX9_draws 94 = .ok (.ifCond .eq 7, 3) := by decide +kernel
theorem dX9_draws_97 : decode cX9_draws 97 = .ok (.iconst 0, 1) := by decide +kernel
theorem dX9_draws_98 : decode cX9_draws 98 = .ok (.goto 8, 3) := by decide +kernel
theorem dX9_draws_101 : decode cX9_draws 101 = .ok (.aload_n 1, 1) := by decide +kernel
theorem dX9_draws_102 : decode cX9_draws 102 = .ok (.iconst 1, 1) := by decide +kernel
theorem dX9_draws_103 : decode cX9_draws 103 = .ok (.iload_n 3, 1) := by decide +kernel
theorem dX9_draws_104 : decode cX9_draws 104 = .ok (.iadd, 1) := by decide +kernel
theorem dX9_draws_105 : decode cX9_draws 105 = .ok (.iaload, 1) := by decide +kernel
theorem dX9_draws_106 : decode cX9_draws 106 = .ok (.iastore, 1) := by decide +kernel
theorem dX9_draws_107 : decode cX9_draws 107 = .ok (.return_, 1) := by decide +kernel
theorem dX9_summer_0 : decode cX9_summer 0 = .ok (.iload_n 1, 1) := by decide +kernel
theorem dX9_summer_1 : decode cX9_summer 1 = .ok (.iconst 0, 1) := by decide +kernel
theorem dX9_summer_2 : decode cX9_summer 2 = .ok (.sipush 9999, 3) := by decide +kernel
theorem dX9_summer_5 : decode cX9_summer 5 = .ok (.invokestatic 54, 3) := by decide +kernel
theorem dX9_summer_8 : decode cX9_summer 8 = .ok (.ifCond .eq 22, 3) := by decide +kernel
theorem dX9_summer_11 : decode cX9_summer 11 = .ok (.iload_n 2, 1) := by decide +kernel
theorem dX9_summer_12 : decode cX9_summer 12 = .ok (.iconst 1, 1) := by decide +kernel
theorem dX9_summer_13 : decode cX9_summer 13 = .ok (.bipush 60, 2) := by decide +kernel
theorem dX9_summer_15 : decode cX9_summer 15 = .ok (.invokestatic 54, 3) := by decide +kernel
theorem dX9_summer_18 : decode cX9_summer 18 = .ok (.ifCond .eq 12, 3) := by decide +kernel
theorem dX9_summer_21 : decode cX9_summer 21 = .ok (.iload_n 3, 1) := by decide +kernel
theorem dX9_summer_22 : decode cX9_summer 22 = .ok (.iconst 0, 1) := by decide +kernel
theorem dX9_summer_23 : decode cX9_summer 23 = .ok (.iconst 1, 1) := by decide +kernel
theorem dX9_summer_24 : decode cX9_summer 24 = .ok (.invokestatic 54, 3) := by decide +kernel
theorem dX9_summer_27 : decode cX9_summer 27 = .ok (.ifCond .ne 5, 3) := by decide +kernel
theorem dX9_summer_30 : decode cX9_summer 30 = .ok (.iconst (-1), 1) := by decide +kernel
theorem dX9_summer_31 : decode cX9_summer 31 = .ok (.ireturn, 1) := by decide +kernel
theorem dX9_summer_32 : decode cX9_summer 32 = .ok (.aload_n 0, 1) := by decide +kernel
theorem dX9_summer_33 : decode cX9_summer 33 = .ok (.invokevirtual 177, 3) := by decide +kernel
theorem dX9_summer_36 : decode cX9_summer 36 = .ok (.iconst 0, 1) := by decide +kernel
theorem dX9_summer_37 : decode cX9_summer 37 = .ok (.istore 4, 2) := by decide +kernel
theorem dX9_summer_39 : decode cX9_summer 39 = .ok (.iload 4, 2) := by decide +kernel
theorem dX9_summer_41 : decode cX9_summer 41 = .ok (.iload_n 2, 1) := by decide +kernel
theorem dX9_summer_42 : decode cX9_summer 42 = .ok (.if_icmp .ge 53, 3) := by decide +kernel
theorem dX9_summer_45 : decode cX9_summer 45 = .ok (.ldc2_w 212, 3) := by decide +kernel
theorem dX9_summer_48 : decode cX9_summer 48 = .ok (.iload_n 1, 1) := by decide +kernel
theorem dX9_summer_49 : decode cX9_summer 49 = .ok (.i2l, 1) := by decide +kernel
theorem dX9_summer_50 : decode cX9_summer 50 = .ok (.lmul, 1) := by decide +kernel
theorem dX9_summer_51 : decode cX9_summer 51 = .ok (.ldc2_w 214, 3) := by decide +kernel
theorem dX9_summer_54 : decode cX9_summer 54 = .ok (.iload 4, 2) := by decide +kernel
theorem dX9_summer_56 : decode cX9_summer 56 = .ok (.i2l, 1) := by decide +kernel
theorem dX9_summer_57 : decode cX9_summer 57 = .ok (.lmul, 1) := by decide +kernel
theorem dX9_summer_58 : decode cX9_summer 58 = .ok (.ladd, 1) := by decide +kernel
theorem dX9_summer_59 : decode cX9_summer 59 = .ok (.lconst 1, 1) := by decide +kernel
theorem dX9_summer_60 : decode cX9_summer 60 = .ok (.ladd, 1) := by decide +kernel
theorem dX9_summer_61 : decode cX9_summer 61 = .ok (.lstore 5, 2) := by decide +kernel
theorem dX9_summer_63 : decode cX9_summer 63 = .ok (.aload_n 0, 1) := by decide +kernel
theorem dX9_summer_64 : decode cX9_summer 64 = .ok (.aload_n 0, 1) := by decide +kernel
theorem dX9_summer_65 : decode cX9_summer 65 = .ok (.getfield 28, 3) := by decide +kernel
theorem dX9_summer_68 : decode cX9_summer 68 = .ok (.lload 5, 2) := by decide +kernel
theorem dX9_summer_70 : decode cX9_summer 70 = .ok (.lload 5, 2) := by decide +kernel
theorem dX9_summer_72 : decode cX9_summer 72 = .ok (.lmul, 1) := by decide +kernel
theorem dX9_summer_73 : decode cX9_summer 73 = .ok (.ldc2_w 216, 3) := by decide +kernel
theorem dX9_summer_76 : decode cX9_summer 76 = .ok (.lrem, 1) := by decide +kernel
theorem dX9_summer_77 : decode cX9_summer 77 = .ok (.l2i, 1) := by decide +kernel
theorem dX9_summer_78 : decode cX9_summer 78 = .ok (.invokevirtual 218, 3) := by decide +kernel
theorem dX9_summer_81 : decode cX9_summer 81 = .ok (.aload_n 0, 1) := by decide +kernel
theorem dX9_summer_82 : decode cX9_summer 82 = .ok (.aload_n 0, 1) := by decide +kernel
theorem dX9_summer_83 : decode cX9_summer 83 = .ok (.getfield 28, 3) := by decide +kernel
theorem dX9_summer_86 : decode cX9_summer 86 = .ok (.invokevirtual 173, 3) := by decide +kernel
theorem dX9_summer_89 : decode cX9_summer 89 = .ok (.iinc 4 1, 3) := by decide +kernel
theorem dX9_summer_92 : decode cX9_summer 92 = .ok (.goto (-53), 3) := by decide +kernel
theorem dX9_summer_95 : decode cX9_summer 95 = .ok (.iload_n 3, 1) := by decide +kernel
theorem dX9_summer_96 : decode cX9_summer 96 = .ok (.ifCond .ne 17, 3) := by decide +kernel
theorem dX9_summer_99 : decode cX9_summer 99 = .ok (.aload_n 0, 1) := by decide +kernel
theorem dX9_summer_100 : decode cX9_summer 100 = .ok (.aload_n 0, 1) := by decide +kernel
theorem dX9_summer_101 : decode cX9_summer 101 = .ok (.getfield 28, 3) := by decide +kernel
theorem dX9_summer_104 : decode cX9_summer 104 = .ok (.invokevirtual 159, 3) := by decide +kernel
theorem dX9_summer_107 : decode cX9_summer 107 = .ok (.invokestatic 153, 3) := by decide +kernel
theorem dX9_summer_110 : decode cX9_summer 110 = .ok (.goto 11, 3) := by decide +kernel
theorem dX9_summer_113 : decode cX9_summer 113 = .ok (.aload_n 0, 1) := by decide +kernel
theorem dX9_summer_114 : decode cX9_summer 114 = .ok (.aload_n 0, 1) := by decide +kernel
theorem dX9_summer_115 : decode cX9_summer 115 = .ok (.getfield 28, 3) := by decide +kernel
theorem dX9_summer_118 : decode cX9_summer 118 = .ok (.invokevirtual 221, 3) := by decide +kernel
theorem dX9_summer_121 : decode cX9_summer 121 = .ok (.ireturn, 1) := by decide +kernel
