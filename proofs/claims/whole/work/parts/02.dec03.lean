theorem dX9_readsGap_0 : decode cX9_readsGap 0 = .ok (.aload_n 0, 1) := by decide +kernel
theorem dX9_readsGap_1 : decode cX9_readsGap 1 = .ok (.getfield 16, 3) := by decide +kernel
theorem dX9_readsGap_4 : decode cX9_readsGap 4 = .ok (.iconst 0, 1) := by decide +kernel
theorem dX9_readsGap_5 : decode cX9_readsGap 5 = .ok (.iaload, 1) := by decide +kernel
theorem dX9_readsGap_6 : decode cX9_readsGap 6 = .ok (.iconst 1, 1) := by decide +kernel
theorem dX9_readsGap_7 : decode cX9_readsGap 7 = .ok (.isub, 1) := by decide +kernel
theorem dX9_readsGap_8 : decode cX9_readsGap 8 = .ok (.istore_n 1, 1) := by decide +kernel
theorem dX9_readsGap_9 : decode cX9_readsGap 9 = .ok (.aload_n 0, 1) := by decide +kernel
theorem dX9_readsGap_10 : decode cX9_readsGap 10 = .ok (.getfield 16, 3) := by decide +kernel
theorem dX9_readsGap_13 : decode cX9_readsGap 13 = .ok (.iconst 1, 1) := by decide +kernel
theorem dX9_readsGap_14 : decode cX9_readsGap 14 = .ok (.iaload, 1) := by decide +kernel
theorem dX9_readsGap_15 : decode cX9_readsGap 15 = .ok (.bipush 8, 2) := by decide +kernel
theorem dX9_readsGap_17 : decode cX9_readsGap 17 = .ok (.if_icmp .ge 102, 3) := by decide +kernel
theorem dX9_readsGap_20 : decode cX9_readsGap 20 = .ok (.aload_n 0, 1) := by decide +kernel
theorem dX9_readsGap_21 : decode cX9_readsGap 21 = .ok (.iconst 5, 1) := by decide +kernel
theorem dX9_readsGap_22 : decode cX9_readsGap 22 = .ok (.invokevirtual 73, 3) := by decide +kernel
theorem dX9_readsGap_25 : decode cX9_readsGap 25 = .ok (.ifCond .eq 94, 3) := by decide +kernel
theorem dX9_readsGap_28 : decode cX9_readsGap 28 = .ok (.aload_n 0, 1) := by decide +kernel
theorem dX9_readsGap_29 : decode cX9_readsGap 29 = .ok (.getfield 13, 3) := by decide +kernel
theorem dX9_readsGap_32 : decode cX9_readsGap 32 = .ok (.iconst 0, 1) := by decide +kernel
theorem dX9_readsGap_33 : decode cX9_readsGap 33 = .ok (.iaload, 1) := by decide +kernel
theorem dX9_readsGap_34 : decode cX9_readsGap 34 = .ok (.iconst 0, 1) := by decide +kernel
theorem dX9_readsGap_35 : decode cX9_readsGap 35 = .ok (.iconst 3, 1) := by decide +kernel
theorem dX9_readsGap_36 : decode cX9_readsGap 36 = .ok (.invokestatic 54, 3) := by decide +kernel
theorem dX9_readsGap_39 : decode cX9_readsGap 39 = .ok (.ifCond .eq 80, 3) := by decide +kernel
theorem dX9_readsGap_42 : decode cX9_readsGap 42 = .ok (.aload_n 0, 1) := by decide +kernel
theorem dX9_readsGap_43 : decode cX9_readsGap 43 = .ok (.getfield 13, 3) := by decide +kernel
theorem dX9_readsGap_46 : decode cX9_readsGap 46 = .ok (.iconst 1, 1) := by decide +kernel
theorem dX9_readsGap_47 : decode cX9_readsGap 47 = .ok (.iaload, 1) := by decide +kernel
theorem dX9_readsGap_48 : decode cX9_readsGap 48 = .ok (.iconst 0, 1) := by decide +kernel
theorem dX9_readsGap_49 : decode cX9_readsGap 49 = .ok (.iload_n 1, 1) := by decide +kernel
theorem dX9_readsGap_50 : decode cX9_readsGap 50 = .ok (.invokestatic 54, 3) := by decide +kernel
theorem dX9_readsGap_53 : decode cX9_readsGap 53 = .ok (.ifCond .eq 66, 3) := by decide +kernel
theorem dX9_readsGap_56 : decode cX9_readsGap 56 = .ok (.aload_n 0, 1) := by decide +kernel
theorem dX9_readsGap_57 : decode cX9_readsGap 57 = .ok (.getfield 13, 3) := by decide +kernel
theorem dX9_readsGap_60 : decode cX9_readsGap 60 = .ok (.iconst 2, 1) := by decide +kernel
theorem dX9_readsGap_61 : decode cX9_readsGap 61 = .ok (.iaload, 1) := by decide +kernel
theorem dX9_readsGap_62 : decode cX9_readsGap 62 = .ok (.iconst 0, 1) := by decide +kernel
theorem dX9_readsGap_63 : decode cX9_readsGap 63 = .ok (.iload_n 1, 1) := by decide +kernel
theorem dX9_readsGap_64 : decode cX9_readsGap 64 = .ok (.invokestatic 54, 3) := by decide +kernel
theorem dX9_readsGap_67 : decode cX9_readsGap 67 = .ok (.ifCond .eq 52, 3) := by decide +kernel
theorem dX9_readsGap_70 : decode cX9_readsGap 70 = .ok (.aload_n 0, 1) := by decide +kernel
theorem dX9_readsGap_71 : decode cX9_readsGap 71 = .ok (.getfield 13, 3) := by decide +kernel
theorem dX9_readsGap_74 : decode cX9_readsGap 74 = .ok (.iconst 1, 1) := by decide +kernel
theorem dX9_readsGap_75 : decode cX9_readsGap 75 = .ok (.iaload, 1) := by decide +kernel
theorem dX9_readsGap_76 : decode cX9_readsGap 76 = .ok (.aload_n 0, 1) := by decide +kernel
theorem dX9_readsGap_77 : decode cX9_readsGap 77 = .ok (.getfield 13, 3) := by decide +kernel
theorem dX9_readsGap_80 : decode cX9_readsGap 80 = .ok (.iconst 2, 1) := by decide +kernel
theorem dX9_readsGap_81 : decode cX9_readsGap 81 = .ok (.iaload, 1) := by decide +kernel
theorem dX9_readsGap_82 : decode cX9_readsGap 82 = .ok (.if_icmp .eq 37, 3) := by decide +kernel
theorem dX9_readsGap_85 : decode cX9_readsGap 85 = .ok (.aload_n 0, 1) := by decide +kernel
theorem dX9_readsGap_86 : decode cX9_readsGap 86 = .ok (.getfield 13, 3) := by decide +kernel
theorem dX9_readsGap_89 : decode cX9_readsGap 89 = .ok (.iconst 3, 1) := by decide +kernel
theorem dX9_readsGap_90 : decode cX9_readsGap 90 = .ok (.iaload, 1) := by decide +kernel
theorem dX9_readsGap_91 : decode cX9_readsGap 91 = .ok (.iconst 0, 1) := by decide +kernel
theorem dX9_readsGap_92 : decode cX9_readsGap 92 = .ok (.bipush 40, 2) := by decide +kernel
theorem dX9_readsGap_94 : decode cX9_readsGap 94 = .ok (.invokestatic 54, 3) := by decide +kernel
theorem dX9_readsGap_97 : decode cX9_readsGap 97 = .ok (.ifCond .eq 22, 3) := by decide +kernel
theorem dX9_readsGap_100 : decode cX9_readsGap 100 = .ok (.aload_n 0, 1) := by decide +kernel
theorem dX9_readsGap_101 : decode cX9_readsGap 101 = .ok (.getfield 13, 3) := by decide +kernel
theorem dX9_readsGap_104 : decode cX9_readsGap 104 = .ok (.iconst 4, 1) := by decide +kernel
theorem dX9_readsGap_105 : decode cX9_readsGap 105 = .ok (.iaload, 1) := by decide +kernel
theorem dX9_readsGap_106 : decode cX9_readsGap 106 = .ok (.iconst 1, 1) := by decide +kernel
theorem dX9_readsGap_107 : decode cX9_readsGap 107 = .ok (.bipush 20, 2) := by decide +kernel
theorem dX9_readsGap_109 : decode cX9_readsGap 109 = .ok (.invokestatic 54, 3) := by decide +kernel
theorem dX9_readsGap_112 : decode cX9_readsGap 112 = .ok (.ifCond .eq 7, 3) := by decide +kernel
theorem dX9_readsGap_115 : decode cX9_readsGap 115 = .ok (.iconst 1, 1) := by decide +kernel
theorem dX9_readsGap_116 : decode cX9_readsGap 116 = .ok (.goto 4, 3) := by decide +kernel
theorem dX9_readsGap_119 : decode cX9_readsGap 119 = .ok (.iconst 0, 1) := by decide +kernel
theorem dX9_readsGap_120 : decode cX9_readsGap 120 = .ok (.istore_n 2, 1) := by decide +kernel
theorem dX9_readsGap_121 : decode cX9_readsGap 121 = .ok (.iload_n 2, 1) := by decide +kernel
theorem dX9_readsGap_122 : decode cX9_readsGap 122 = .ok (.ifCond .eq 50, 3) := by decide +kernel
theorem dX9_readsGap_125 : decode cX9_readsGap 125 = .ok (.iconst 0, 1) := by decide +kernel
theorem dX9_readsGap_126 : decode cX9_readsGap 126 = .ok (.istore_n 3, 1) := by decide +kernel
theorem dX9_readsGap_127 : decode cX9_readsGap 127 = .ok (.iload_n 3, 1) := by decide +kernel
theorem dX9_readsGap_128 : decode cX9_readsGap 128 = .ok (.iconst 5, 1) := by decide +kernel
theorem dX9_readsGap_129 : decode cX9_readsGap 129 = .ok (.if_icmp .ge 33, 3) := by decide +kernel
theorem dX9_readsGap_132 : decode cX9_readsGap 132 = .ok (.aload_n 0, 1) := by decide +kernel
theorem dX9_readsGap_133 : decode cX9_readsGap 133 = .ok (.getfield 16, 3) := by decide +kernel
theorem dX9_readsGap_136 : decode cX9_readsGap 136 = .ok (.bipush 17, 2) := by decide +kernel
theorem dX9_readsGap_138 : decode cX9_readsGap 138 = .ok (.iconst 5, 1) := by decide +kernel
theorem dX9_readsGap_139 : decode cX9_readsGap 139 = .ok (.aload_n 0, 1) := by decide +kernel
theorem dX9_readsGap_140 : decode cX9_readsGap 140 = .ok (.getfield 16, 3) := by decide +kernel
theorem dX9_readsGap_143 : decode cX9_readsGap 143 = .ok (.iconst 1, 1) := by decide +kernel
theorem dX9_readsGap_144 : decode cX9_readsGap 144 = .ok (.iaload, 1) := by decide +kernel
theorem dX9_readsGap_145 : decode cX9_readsGap 145 = .ok (.imul, 1) := by decide +kernel
theorem dX9_readsGap_146 : decode cX9_readsGap 146 = .ok (.iadd, 1) := by decide +kernel
theorem dX9_readsGap_147 : decode cX9_readsGap 147 = .ok (.iload_n 3, 1) := by decide +kernel
theorem dX9_readsGap_148 : decode cX9_readsGap 148 = .ok (.iadd, 1) := by decide +kernel
theorem dX9_readsGap_149 : decode cX9_readsGap 149 = .ok (.aload_n 0, 1) := by decide +kernel
theorem dX9_readsGap_150 : decode cX9_readsGap 150 = .ok (.getfield 13, 3) := by decide +kernel
theorem dX9_readsGap_153 : decode cX9_readsGap 153 = .ok (.iload_n 3, 1) := by decide +kernel
theorem dX9_readsGap_154 : decode cX9_readsGap 154 = .ok (.iaload, 1) := by decide +kernel
theorem dX9_readsGap_155 : decode cX9_readsGap 155 = .ok (.iastore, 1) := by decide +kernel
theorem dX9_readsGap_156 : decode cX9_readsGap 156 = .ok (.iinc 3 1, 3) := by decide +kernel
theorem dX9_readsGap_159 : decode cX9_readsGap 159 = .ok (.goto (-32), 3) := by decide +kernel
theorem dX9_readsGap_162 : decode cX9_readsGap 162 = .ok (.aload_n 0, 1) := by decide +kernel
theorem dX9_readsGap_163 : decode cX9_readsGap 163 = .ok (.getfield 16, 3) := by decide +kernel
theorem dX9_readsGap_166 : decode cX9_readsGap 166 = .ok (.iconst 1, 1) := by decide +kernel
theorem dX9_readsGap_167 : decode cX9_readsGap 167 = .ok (.dup2, 1) := by decide +kernel
theorem dX9_readsGap_168 : decode cX9_readsGap 168 = .ok (.iaload, 1) := by decide +kernel
theorem dX9_readsGap_169 : decode cX9_readsGap 169 = .ok (.iconst 1, 1) := by decide +kernel
theorem dX9_readsGap_170 : decode cX9_readsGap 170 = .ok (.iadd, 1) := by decide +kernel
theorem dX9_readsGap_171 : decode cX9_readsGap 171 = .ok (.iastore, 1) := by decide +kernel
theorem dX9_readsGap_172 : decode cX9_readsGap 172 = .ok (.iload_n 2, 1) := by decide +kernel
theorem dX9_readsGap_173 : decode cX9_readsGap 173 = .ok (.ireturn, 1) := by decide +kernel
theorem dX9_readsStitcher_0 : decode cX9_readsStitcher 0 = .ok (.aload_n 0, 1) := by decide +kernel
theorem dX9_readsStitcher_1 : decode cX9_readsStitcher 1 = .ok (.getfield 16, 3) := by decide +kernel
theorem dX9_readsStitcher_4 : decode cX9_readsStitcher 4 = .ok (.iconst 2, 1) := by decide +kernel
theorem dX9_readsStitcher_5 : decode cX9_readsStitcher 5 = .ok (.iaload, 1) := by decide +kernel
theorem dX9_readsStitcher_6 : decode cX9_readsStitcher 6 = .ok (.istore_n 1, 1) := by decide +kernel
theorem dX9_readsStitcher_7 : decode cX9_readsStitcher 7 = .ok (.iload_n 1, 1) := by decide +kernel
theorem dX9_readsStitcher_8 : decode cX9_readsStitcher 8 = .ok (.iconst 4, 1) := by decide +kernel
theorem dX9_readsStitcher_9 : decode cX9_readsStitcher 9 = .ok (.if_icmp .ge 59, 3) := by decide +kernel
theorem dX9_readsStitcher_12 : decode cX9_readsStitcher 12 = .ok (.aload_n 0, 1) := by decide +kernel
theorem dX9_readsStitcher_13 : decode cX9_readsStitcher 13 = .ok (.iconst 3, 1) := by decide +kernel
theorem dX9_readsStitcher_14 : decode cX9_readsStitcher 14 = .ok (.invokevirtual 73, 3) := by decide +kernel
theorem dX9_readsStitcher_17 : decode cX9_readsStitcher 17 = .ok (.ifCond .eq 51, 3) := by decide +kernel
theorem dX9_readsStitcher_20 : decode cX9_readsStitcher 20 = .ok (.aload_n 0, 1) := by decide +kernel
theorem dX9_readsStitcher_21 : decode cX9_readsStitcher 21 = .ok (.getfield 13, 3) := by decide +kernel
theorem dX9_readsStitcher_24 : decode cX9_readsStitcher 24 = .ok (.iconst 0, 1) := by decide +kernel
theorem dX9_readsStitcher_25 : decode cX9_readsStitcher 25 = .ok (.iaload, 1) := by decide +kernel
theorem dX9_readsStitcher_26 : decode cX9_readsStitcher 26 = .ok (.iconst 0, 1) := by decide +kernel
theorem dX9_readsStitcher_27 : decode cX9_readsStitcher 27 = .ok (.iconst 3, 1) := by decide +kernel
theorem dX9_readsStitcher_28 : decode cX9_readsStitcher 28 = .ok (.invokestatic 54, 3) := by decide +kernel
theorem dX9_readsStitcher_31 : decode cX9_readsStitcher 31 = .ok (.ifCond .eq 37, 3) := by decide +kernel
theorem dX9_readsStitcher_34 : decode cX9_readsStitcher 34 = .ok (.aload_n 0, 1) := by decide +kernel
theorem dX9_readsStitcher_35 : decode cX9_readsStitcher 35 = .ok (.getfield 13, 3) := by decide +kernel
theorem dX9_readsStitcher_38 : decode cX9_readsStitcher 38 = .ok (.iconst 1, 1) := by decide +kernel
theorem dX9_readsStitcher_39 : decode cX9_readsStitcher 39 = .ok (.iaload, 1) := by decide +kernel
theorem dX9_readsStitcher_40 : decode cX9_readsStitcher 40 = .ok (.iconst 0, 1) := by decide +kernel
theorem dX9_readsStitcher_41 : decode cX9_readsStitcher 41 = .ok (.bipush 40, 2) := by decide +kernel
theorem dX9_readsStitcher_43 : decode cX9_readsStitcher 43 = .ok (.invokestatic 54, 3) := by decide +kernel
theorem dX9_readsStitcher_46 : decode cX9_readsStitcher 46 = .ok (.ifCond .eq 22, 3) := by decide +kernel
theorem dX9_readsStitcher_49 : decode cX9_readsStitcher 49 = .ok (.aload_n 0, 1) := by decide +kernel
theorem dX9_readsStitcher_50 : decode cX9_readsStitcher 50 = .ok (.getfield 13, 3) := by decide +kernel
theorem dX9_readsStitcher_53 : decode cX9_readsStitcher 53 = .ok (.iconst 2, 1) := by decide +kernel
theorem dX9_readsStitcher_54 : decode cX9_readsStitcher 54 = .ok (.iaload, 1) := by decide +kernel
theorem dX9_readsStitcher_55 : decode cX9_readsStitcher 55 = .ok (.iconst 1, 1) := by decide +kernel
theorem dX9_readsStitcher_56 : decode cX9_readsStitcher 56 = .ok (.bipush 9, 2) := by decide +kernel
theorem dX9_readsStitcher_58 : decode cX9_readsStitcher 58 = .ok (.invokestatic 54, 3) := by decide +kernel
theorem dX9_readsStitcher_61 : decode cX9_readsStitcher 61 = .ok (.ifCond .eq 7, 3) := by decide +kernel
theorem dX9_readsStitcher_64 : decode cX9_readsStitcher 64 = .ok (.iconst 1, 1) := by decide +kernel
theorem dX9_readsStitcher_65 : decode cX9_readsStitcher 65 = .ok (.goto 4, 3) := by decide +kernel
theorem dX9_readsStitcher_68 : decode cX9_readsStitcher 68 = .ok (.iconst 0, 1) := by decide +kernel
theorem dX9_readsStitcher_69 : decode cX9_readsStitcher 69 = .ok (.istore_n 2, 1) := by decide +kernel
theorem dX9_readsStitcher_70 : decode cX9_readsStitcher 70 = .ok (.iload_n 2, 1) := by decide +kernel
theorem dX9_readsStitcher_71 : decode cX9_readsStitcher 71 = .ok (.ifCond .eq 64, 3) := by decide +kernel
theorem dX9_readsStitcher_74 : decode cX9_readsStitcher 74 = .ok (.aload_n 0, 1) := by decide +kernel
theorem dX9_readsStitcher_75 : decode cX9_readsStitcher 75 = .ok (.getfield 16, 3) := by decide +kernel
theorem dX9_readsStitcher_78 : decode cX9_readsStitcher 78 = .ok (.bipush 57, 2) := by decide +kernel
theorem dX9_readsStitcher_80 : decode cX9_readsStitcher 80 = .ok (.iconst 2, 1) := by decide +kernel
theorem dX9_readsStitcher_81 : decode cX9_readsStitcher 81 = .ok (.iload_n 1, 1) := by decide +kernel
theorem dX9_readsStitcher_82 : decode cX9_readsStitcher 82 = .ok (.imul, 1) := by decide +kernel
theorem dX9_readsStitcher_83 : decode cX9_readsStitcher 83 = .ok (.iadd, 1) := by decide +kernel
theorem dX9_readsStitcher_84 : decode cX9_readsStitcher 84 = .ok (.aload_n 0, 1) := by decide +kernel
theorem dX9_readsStitcher_85 : decode cX9_readsStitcher 85 = .ok (.getfield 13, 3) := by decide +kernel
theorem dX9_readsStitcher_88 : decode cX9_readsStitcher 88 = .ok (.iconst 0, 1) := by decide +kernel
theorem dX9_readsStitcher_89 : decode cX9_readsStitcher 89 = .ok (.iaload, 1) := by decide +kernel
theorem dX9_readsStitcher_90 : decode cX9_readsStitcher 90 = .ok (.iastore, 1) := by decide +kernel
theorem dX9_readsStitcher_91 : decode cX9_readsStitcher 91 = .ok (.aload_n 0, 1) := by decide +kernel
theorem dX9_readsStitcher_92 : decode cX9_readsStitcher 92 = .ok (.getfield 16, 3) := by decide +kernel
theorem dX9_readsStitcher_95 : decode cX9_readsStitcher 95 = .ok (.bipush 57, 2) := by decide +kernel
theorem dX9_readsStitcher_97 : decode cX9_readsStitcher 97 = .ok (.iconst 2, 1) := by decide +kernel
theorem dX9_readsStitcher_98 : decode cX9_readsStitcher 98 = .ok (.iload_n 1, 1) := by decide +kernel
theorem dX9_readsStitcher_99 : decode cX9_readsStitcher 99 = .ok (.imul, 1) := by decide +kernel
theorem dX9_readsStitcher_100 : decode cX9_readsStitcher 100 = .ok (.iadd, 1) := by decide +kernel
theorem dX9_readsStitcher_101 : decode cX9_readsStitcher 101 = .ok (.iconst 1, 1) := by decide +kernel
theorem dX9_readsStitcher_102 : decode cX9_readsStitcher 102 = .ok (.iadd, 1) := by decide +kernel
theorem dX9_readsStitcher_103 : decode cX9_readsStitcher 103 = .ok (.aload_n 0, 1) := by decide +kernel
theorem dX9_readsStitcher_104 : decode cX9_readsStitcher 104 = .ok (.getfield 13, 3) := by decide +kernel
theorem dX9_readsStitcher_107 : decode cX9_readsStitcher 107 = .ok (.iconst 2, 1) := by decide +kernel
theorem dX9_readsStitcher_108 : decode cX9_readsStitcher 108 = .ok (.iaload, 1) := by decide +kernel
theorem dX9_readsStitcher_109 : decode cX9_readsStitcher 109 = .ok (.iastore, 1) := by decide +kernel
theorem dX9_readsStitcher_110 : decode cX9_readsStitcher 110 = .ok (.aload_n 0, 1) := by decide +kernel
theorem dX9_readsStitcher_111 : decode cX9_readsStitcher 111 = .ok (.getfield 19, 3) := by decide +kernel
theorem dX9_readsStitcher_114 : decode cX9_readsStitcher 114 = .ok (.bipush 9, 2) := by decide +kernel
theorem dX9_readsStitcher_116 : decode cX9_readsStitcher 116 = .ok (.iload_n 1, 1) := by decide +kernel
theorem dX9_readsStitcher_117 : decode cX9_readsStitcher 117 = .ok (.iadd, 1) := by decide +kernel
theorem dX9_readsStitcher_118 : decode cX9_readsStitcher 118 = .ok (.aload_n 0, 1) := by decide +kernel
theorem dX9_readsStitcher_119 : decode cX9_readsStitcher 119 = .ok (.getfield 13, 3) := by decide +kernel
theorem dX9_readsStitcher_122 : decode cX9_readsStitcher 122 = .ok (.iconst 1, 1) := by decide +kernel
theorem dX9_readsStitcher_123 : decode cX9_readsStitcher 123 = .ok (.iaload, 1) := by decide +kernel
theorem dX9_readsStitcher_124 : decode cX9_readsStitcher 124 = .ok (.iastore, 1) := by decide +kernel
theorem dX9_readsStitcher_125 : decode cX9_readsStitcher 125 = .ok (.aload_n 0, 1) := by decide +kernel
theorem dX9_readsStitcher_126 : decode cX9_readsStitcher 126 = .ok (.getfield 16, 3) := by decide +kernel
theorem dX9_readsStitcher_129 : decode cX9_readsStitcher 129 = .ok (.iconst 2, 1) := by decide +kernel
theorem dX9_readsStitcher_130 : decode cX9_readsStitcher 130 = .ok (.dup2, 1) := by decide +kernel
theorem dX9_readsStitcher_131 : decode cX9_readsStitcher 131 = .ok (.iaload, 1) := by decide +kernel
theorem dX9_readsStitcher_132 : decode cX9_readsStitcher 132 = .ok (.iconst 1, 1) := by decide +kernel
theorem dX9_readsStitcher_133 : decode cX9_readsStitcher 133 = .ok (.iadd, 1) := by decide +kernel
theorem dX9_readsStitcher_134 : decode cX9_readsStitcher 134 = .ok (.iastore, 1) := by decide +kernel
theorem dX9_readsStitcher_135 : decode cX9_readsStitcher 135 = .ok (.iload_n 2, 1) := by decide +kernel
theorem dX9_readsStitcher_136 : decode cX9_readsStitcher 136 = .ok (.ireturn, 1) := by decide +kernel
theorem dX9_readsLight_0 : decode cX9_readsLight 0 = .ok (.aload_n 0, 1) := by decide +kernel
theorem dX9_readsLight_1 : decode cX9_readsLight 1 = .ok (.iconst 1, 1) := by decide +kernel
theorem dX9_readsLight_2 : decode cX9_readsLight 2 = .ok (.invokevirtual 73, 3) := by decide +kernel
theorem dX9_readsLight_5 : decode cX9_readsLight 5 = .ok (.ifCond .eq 18, 3) := by decide +kernel
theorem dX9_readsLight_8 : decode cX9_readsLight 8 = .ok (.aload_n 0, 1) := by decide +kernel
theorem dX9_readsLight_9 : decode cX9_readsLight 9 = .ok (.getfield 13, 3) := by decide +kernel
theorem dX9_readsLight_12 : decode cX9_readsLight 12 = .ok (.iconst 0, 1) := by decide +kernel
theorem dX9_readsLight_13 : decode cX9_readsLight 13 = .ok (.iaload, 1) := by decide +kernel
theorem dX9_readsLight_14 : decode cX9_readsLight 14 = .ok (.iconst 1, 1) := by decide +kernel
theorem dX9_readsLight_15 : decode cX9_readsLight 15 = .ok (.bipush 24, 2) := by decide +kernel
theorem dX9_readsLight_17 : decode cX9_readsLight 17 = .ok (.invokestatic 54, 3) := by decide +kernel
theorem dX9_readsLight_20 : decode cX9_readsLight 20 = .ok (.ifCond .ne 5, 3) := by decide +kernel
theorem dX9_readsLight_23 : decode cX9_readsLight 23 = .ok (.iconst 0, 1) := by decide +kernel
theorem dX9_readsLight_24 : decode cX9_readsLight 24 = .ok (.ireturn, 1) := by decide +kernel
theorem dX9_readsLight_25 : decode cX9_readsLight 25 = .ok (.aload_n 0, 1) := by decide +kernel
theorem dX9_readsLight_26 : decode cX9_readsLight 26 = .ok (.getfield 16, 3) := by decide +kernel
theorem dX9_readsLight_29 : decode cX9_readsLight 29 = .ok (.iconst 3, 1) := by decide +kernel
theorem dX9_readsLight_30 : decode cX9_readsLight 30 = .ok (.aload_n 0, 1) := by decide +kernel
theorem dX9_readsLight_31 : decode cX9_readsLight 31 = .ok (.getfield 13, 3) := by decide +kernel
theorem dX9_readsLight_34 : decode cX9_readsLight 34 = .ok (.iconst 0, 1) := by decide +kernel
theorem dX9_readsLight_35 : decode cX9_readsLight 35 = .ok (.iaload, 1) := by decide +kernel
theorem dX9_readsLight_36 : decode cX9_readsLight 36 = .ok (.iastore, 1) := by decide +kernel
theorem dX9_readsLight_37 : decode cX9_readsLight 37 = .ok (.iconst 1, 1) := by decide +kernel
theorem dX9_readsLight_38 : decode cX9_readsLight 38 = .ok (.ireturn, 1) := by decide +kernel
theorem dX9_readsRain_0 : decode cX9_readsRain 0 = .ok (.aload_n 0, 1) := by decide +kernel
theorem dX9_readsRain_1 : decode cX9_readsRain 1 = .ok (.getfield 16, 3) := by decide +kernel
theorem dX9_readsRain_4 : decode cX9_readsRain 4 = .ok (.iconst 4, 1) := by decide +kernel
theorem dX9_readsRain_5 : decode cX9_readsRain 5 = .ok (.iaload, 1) := by decide +kernel
theorem dX9_readsRain_6 : decode cX9_readsRain 6 = .ok (.bipush 12, 2) := by decide +kernel
theorem dX9_readsRain_8 : decode cX9_readsRain 8 = .ok (.if_icmp .eq 25, 3) := by decide +kernel
theorem dX9_readsRain_11 : decode cX9_readsRain 11 = .ok (.aload_n 0, 1) := by decide +kernel
theorem dX9_readsRain_12 : decode cX9_readsRain 12 = .ok (.iconst 1, 1) := by decide +kernel
theorem dX9_readsRain_13 : decode cX9_readsRain 13 = .ok (.invokevirtual 73, 3) := by decide +kernel
theorem dX9_readsRain_16 : decode cX9_readsRain 16 = .ok (.ifCond .eq 17, 3) := by decide +kernel
theorem dX9_readsRain_19 : decode cX9_readsRain 19 = .ok (.aload_n 0, 1) := by decide +kernel
theorem dX9_readsRain_20 : decode cX9_readsRain 20 = .ok (.getfield 13, 3) := by decide +kernel
theorem dX9_readsRain_23 : decode cX9_readsRain 23 = .ok (.iconst 0, 1) := by decide +kernel
theorem dX9_readsRain_24 : decode cX9_readsRain 24 = .ok (.iaload, 1) := by decide +kernel
theorem dX9_readsRain_25 : decode cX9_readsRain 25 = .ok (.iconst 0, 1) := by decide +kernel
theorem dX9_readsRain_26 : decode cX9_readsRain 26 = .ok (.iconst 1, 1) := by decide +kernel
theorem dX9_readsRain_27 : decode cX9_readsRain 27 = .ok (.invokestatic 54, 3) := by decide +kernel
theorem dX9_readsRain_30 : decode cX9_readsRain 30 = .ok (.ifCond .ne 5, 3) := by decide +kernel
theorem dX9_readsRain_33 : decode cX9_readsRain 33 = .ok (.iconst 0, 1) := by decide +kernel
theorem dX9_readsRain_34 : decode cX9_readsRain 34 = .ok (.ireturn, 1) := by decide +kernel
theorem dX9_readsRain_35 : decode cX9_readsRain 35 = .ok (.aload_n 0, 1) := by decide +kernel
theorem dX9_readsRain_36 : decode cX9_readsRain 36 = .ok (.getfield 16, 3) := by decide +kernel
theorem dX9_readsRain_39 : decode cX9_readsRain 39 = .ok (.iconst 5, 1) := by decide +kernel
theorem dX9_readsRain_40 : decode cX9_readsRain 40 = .ok (.aload_n 0, 1) := by decide +kernel
theorem dX9_readsRain_41 : decode cX9_readsRain 41 = .ok (.getfield 16, 3) := by decide +kernel
theorem dX9_readsRain_44 : decode cX9_readsRain 44 = .ok (.iconst 4, 1) := by decide +kernel
theorem dX9_readsRain_45 : decode cX9_readsRain 45 = .ok (.iaload, 1) := by decide +kernel
theorem dX9_readsRain_46 : decode cX9_readsRain 46 = .ok (.iadd, 1) := by decide +kernel
theorem dX9_readsRain_47 : decode cX9_readsRain 47 = .ok (.aload_n 0, 1) := by decide +kernel
theorem dX9_readsRain_48 : decode cX9_readsRain 48 = .ok (.getfield 13, 3) := by decide +kernel
theorem dX9_readsRain_51 : decode cX9_readsRain 51 = .ok (.iconst 0, 1) := by decide +kernel
theorem dX9_readsRain_52 : decode cX9_readsRain 52 = .ok (.iaload, 1) := by decide +kernel
theorem dX9_readsRain_53 : decode cX9_readsRain 53 = .ok (.iastore, 1) := by decide +kernel
theorem dX9_readsRain_54 : decode cX9_readsRain 54 = .ok (.aload_n 0, 1) := by decide +kernel
theorem dX9_readsRain_55 : decode cX9_readsRain 55 = .ok (.getfield 16, 3) := by decide +kernel
theorem dX9_readsRain_58 : decode cX9_readsRain 58 = .ok (.iconst 4, 1) := by decide +kernel
theorem dX9_readsRain_59 : decode cX9_readsRain 59 = .ok (.dup2, 1) := by decide +kernel
theorem dX9_readsRain_60 : decode cX9_readsRain 60 = .ok (.iaload, 1) := by decide +kernel
theorem dX9_readsRain_61 : decode cX9_readsRain 61 = .ok (.iconst 1, 1) := by decide +kernel
theorem dX9_readsRain_62 : decode cX9_readsRain 62 = .ok (.iadd, 1) := by decide +kernel
theorem dX9_readsRain_63 : decode cX9_readsRain 63 = .ok (.iastore, 1) := by decide +kernel
theorem dX9_readsRain_64 : decode cX9_readsRain 64 = .ok (.iconst 1, 1) := by decide +kernel
theorem dX9_readsRain_65 : decode cX9_readsRain 65 = .ok (.ireturn, 1) := by decide +kernel
theorem dX9_readsItem_0 : decode cX9_readsItem 0 = .ok (.aload_n 0, 1) := by decide +kernel
theorem dX9_readsItem_1 : decode cX9_readsItem 1 = .ok (.aload_n 0, 1) := by decide +kernel
theorem dX9_readsItem_2 : decode cX9_readsItem 2 = .ok (.getfield 62, 3) := by decide +kernel
theorem dX9_readsItem_5 : decode cX9_readsItem 5 = .ok (.invokevirtual 65, 3) := by decide +kernel
theorem dX9_readsItem_8 : decode cX9_readsItem 8 = .ok (.istore_n 1, 1) := by decide +kernel
theorem dX9_readsItem_9 : decode cX9_readsItem 9 = .ok (.aload_n 0, 1) := by decide +kernel
theorem dX9_readsItem_10 : decode cX9_readsItem 10 = .ok (.dup, 1) := by decide +kernel
theorem dX9_readsItem_11 : decode cX9_readsItem 11 = .ok (.getfield 62, 3) := by decide +kernel
theorem dX9_readsItem_14 : decode cX9_readsItem 14 = .ok (.iconst 1, 1) := by decide +kernel
theorem dX9_readsItem_15 : decode cX9_readsItem 15 = .ok (.iadd, 1) := by decide +kernel
theorem dX9_readsItem_16 : decode cX9_readsItem 16 = .ok (.putfield 62, 3) := by decide +kernel
theorem dX9_readsItem_19 : decode cX9_readsItem 19 = .ok (.iload_n 1, 1) := by decide +kernel
theorem dX9_readsItem_20 : decode cX9_readsItem 20 = .ok (.bipush 112, 2) := by decide +kernel
theorem dX9_readsItem_22 : decode cX9_readsItem 22 = .ok (.if_icmp .ne 8, 3) := by decide +kernel
theorem dX9_readsItem_25 : decode cX9_readsItem 25 = .ok (.aload_n 0, 1) := by decide +kernel
theorem dX9_readsItem_26 : decode cX9_readsItem 26 = .ok (.invokevirtual 80, 3) := by decide +kernel
theorem dX9_readsItem_29 : decode cX9_readsItem 29 = .ok (.ireturn, 1) := by decide +kernel
theorem dX9_readsItem_30 : decode cX9_readsItem 30 = .ok (.aload_n 0, 1) := by decide +kernel
theorem dX9_readsItem_31 : decode cX9_readsItem 31 = .ok (.iconst 1, 1) := by decide +kernel
theorem dX9_readsItem_32 : decode cX9_readsItem 32 = .ok (.putfield 76, 3) := by decide +kernel
theorem dX9_readsItem_35 : decode cX9_readsItem 35 = .ok (.iload_n 1, 1) := by decide +kernel
theorem dX9_readsItem_36 : decode cX9_readsItem 36 = .ok (.lookupswitch 64 #[(100, 49), (103, 44), (108, 54), (114, 59)], 44) := by decide +kernel
theorem dX9_readsItem_80 : decode cX9_readsItem 80 = .ok (.aload_n 0, 1) := by decide +kernel
theorem dX9_readsItem_81 : decode cX9_readsItem 81 = .ok (.invokevirtual 84, 3) := by decide +kernel
theorem dX9_readsItem_84 : decode cX9_readsItem 84 = .ok (.ireturn, 1) := by decide +kernel
theorem dX9_readsItem_85 : decode cX9_readsItem 85 = .ok (.aload_n 0, 1) := by decide +kernel
theorem dX9_readsItem_86 : decode cX9_readsItem 86 = .ok (.invokevirtual 87, 3) := by decide +kernel
theorem dX9_readsItem_89 : decode cX9_readsItem 89 = .ok (.ireturn, 1) := by decide +kernel
theorem dX9_readsItem_90 : decode cX9_readsItem 90 = .ok (.aload_n 0, 1) := by decide +kernel
theorem dX9_readsItem_91 : decode cX9_readsItem 91 = .ok (.invokevirtual 90, 3) := by decide +kernel
theorem dX9_readsItem_94 : decode cX9_readsItem 94 = .ok (.ireturn, 1) := by decide +kernel
theorem dX9_readsItem_95 : decode cX9_readsItem 95 = .ok (.aload_n 0, 1) := by decide +kernel
theorem dX9_readsItem_96 : decode cX9_readsItem 96 = .ok (.invokevirtual 93, 3) := by decide +kernel
theorem dX9_readsItem_99 : decode cX9_readsItem 99 = .ok (.ireturn, 1) := by decide +kernel
theorem dX9_readsItem_100 : decode cX9_readsItem 100 = .ok (.iconst 0, 1) := by decide +kernel
theorem dX9_readsItem_101 : decode cX9_readsItem 101 = .ok (.ireturn, 1) := by decide +kernel
theorem dX9_fault_0 : decode cX9_fault 0 = .ok (.aload_n 0, 1) := by decide +kernel
theorem dX9_fault_1 : decode cX9_fault 1 = .ok (.iconst 0, 1) := by decide +kernel
theorem dX9_fault_2 : decode cX9_fault 2 = .ok (.putfield 62, 3) := by decide +kernel
theorem dX9_fault_5 : decode cX9_fault 5 = .ok (.aload_n 0, 1) := by decide +kernel
theorem dX9_fault_6 : decode cX9_fault 6 = .ok (.iconst 0, 1) := by decide +kernel
theorem dX9_fault_7 : decode cX9_fault 7 = .ok (.putfield 76, 3) := by decide +kernel
theorem dX9_fault_10 : decode cX9_fault 10 = .ok (.iconst 0, 1) := by decide +kernel
theorem dX9_fault_11 : decode cX9_fault 11 = .ok (.istore_n 1, 1) := by decide +kernel
theorem dX9_fault_12 : decode cX9_fault 12 = .ok (.iload_n 1, 1) := by decide +kernel
theorem dX9_fault_13 : decode cX9_fault 13 = .ok (.bipush 65, 2) := by decide +kernel
theorem dX9_fault_15 : decode cX9_fault 15 = .ok (.if_icmp .ge 16, 3) := by decide +kernel
theorem dX9_fault_18 : decode cX9_fault 18 = .ok (.aload_n 0, 1) := by decide +kernel
theorem dX9_fault_19 : decode cX9_fault 19 = .ok (.getfield 16, 3) := by decide +kernel
theorem dX9_fault_22 : decode cX9_fault 22 = .ok (.iload_n 1, 1) := by decide +kernel
theorem dX9_fault_23 : decode cX9_fault 23 = .ok (.iconst 0, 1) := by decide +kernel
theorem dX9_fault_24 : decode cX9_fault 24 = .ok (.iastore, 1) := by decide +kernel
theorem dX9_fault_25 : decode cX9_fault 25 = .ok (.iinc 1 1, 3) := by decide +kernel
theorem dX9_fault_28 : decode cX9_fault 28 = .ok (.goto (-16), 3) := by decide +kernel
theorem dX9_fault_31 : decode cX9_fault 31 = .ok (.iconst 0, 1) := by decide +kernel
theorem dX9_fault_32 : decode cX9_fault 32 = .ok (.istore_n 1, 1) := by decide +kernel
theorem dX9_fault_33 : decode cX9_fault 33 = .ok (.iload_n 1, 1) := by decide +kernel
theorem dX9_fault_34 : decode cX9_fault 34 = .ok (.bipush 17, 2) := by decide +kernel
theorem dX9_fault_36 : decode cX9_fault 36 = .ok (.if_icmp .ge 16, 3) := by decide +kernel
theorem dX9_fault_39 : decode cX9_fault 39 = .ok (.aload_n 0, 1) := by decide +kernel
theorem dX9_fault_40 : decode cX9_fault 40 = .ok (.getfield 19, 3) := by decide +kernel
theorem dX9_fault_43 : decode cX9_fault 43 = .ok (.iload_n 1, 1) := by decide +kernel
theorem dX9_fault_44 : decode cX9_fault 44 = .ok (.iconst 0, 1) := by decide +kernel
theorem dX9_fault_45 : decode cX9_fault 45 = .ok (.iastore, 1) := by decide +kernel
theorem dX9_fault_46 : decode cX9_fault 46 = .ok (.iinc 1 1, 3) := by decide +kernel
theorem dX9_fault_49 : decode cX9_fault 49 = .ok (.goto (-16), 3) := by decide +kernel
theorem dX9_fault_52 : decode cX9_fault 52 = .ok (.aload_n 0, 1) := by decide +kernel
theorem dX9_fault_53 : decode cX9_fault 53 = .ok (.getfield 16, 3) := by decide +kernel
theorem dX9_fault_56 : decode cX9_fault 56 = .ok (.iconst 0, 1) := by decide +kernel
theorem dX9_fault_57 : decode cX9_fault 57 = .ok (.iconst 4, 1) := by decide +kernel
theorem dX9_fault_58 : decode cX9_fault 58 = .ok (.iastore, 1) := by decide +kernel
theorem dX9_fault_59 : decode cX9_fault 59 = .ok (.aload_n 0, 1) := by decide +kernel
theorem dX9_fault_60 : decode cX9_fault 60 = .ok (.getfield 16, 3) := by decide +kernel
theorem dX9_fault_63 : decode cX9_fault 63 = .ok (.iconst 3, 1) := by decide +kernel
theorem dX9_fault_64 : decode cX9_fault 64 = .ok (.bipush 12, 2) := by decide +kernel
theorem dX9_fault_66 : decode cX9_fault 66 = .ok (.iastore, 1) := by decide +kernel
theorem dX9_fault_67 : decode cX9_fault 67 = .ok (.aload_n 0, 1) := by decide +kernel
theorem dX9_fault_68 : decode cX9_fault 68 = .ok (.getfield 62, 3) := by decide +kernel
theorem dX9_fault_71 : decode cX9_fault 71 = .ok (.aload_n 0, 1) := by decide +kernel
theorem dX9_fault_72 : decode cX9_fault 72 = .ok (.getfield 58, 3) := by decide +kernel
theorem dX9_fault_75 : decode cX9_fault 75 = .ok (.if_icmp .ge 20, 3) := by decide +kernel
theorem dX9_fault_78 : decode cX9_fault 78 = .ok (.aload_n 0, 1) := by decide +kernel
theorem dX9_fault_79 : decode cX9_fault 79 = .ok (.getfield 62, 3) := by decide +kernel
theorem dX9_fault_82 : decode cX9_fault 82 = .ok (.istore_n 1, 1) := by decide +kernel
theorem dX9_fault_83 : decode cX9_fault 83 = .ok (.aload_n 0, 1) := by decide +kernel
theorem dX9_fault_84 : decode cX9_fault 84 = .ok (.invokevirtual 96, 3) := by decide +kernel
theorem dX9_fault_87 : decode cX9_fault 87 = .ok (.ifCond .ne 5, 3) := by decide +kernel
theorem dX9_fault_90 : decode cX9_fault 90 = .ok (.iload_n 1, 1) := by decide +kernel
theorem dX9_fault_91 : decode cX9_fault 91 = .ok (.ireturn, 1) := by decide +kernel
theorem dX9_fault_92 : decode cX9_fault 92 = .ok (.goto (-25), 3) := by decide +kernel
theorem dX9_fault_95 : decode cX9_fault 95 = .ok (.bipush (-4), 2) := by decide +kernel
theorem dX9_fault_97 : decode cX9_fault 97 = .ok (.ireturn, 1) := by decide +kernel
theorem dX9_lay_0 : decode cX9_lay 0 = .ok (.aload_n 0, 1) := by decide +kernel
theorem dX9_lay_1 : decode cX9_lay 1 = .ok (.invokevirtual 99, 3) := by decide +kernel
theorem dX9_lay_4 : decode cX9_lay 4 = .ok (.bipush (-4), 2) := by decide +kernel
theorem dX9_lay_6 : decode cX9_lay 6 = .ok (.if_icmp .ne 21, 3) := by decide +kernel
theorem dX9_lay_9 : decode cX9_lay 9 = .ok (.aload_n 0, 1) := by decide +kernel
theorem dX9_lay_10 : decode cX9_lay 10 = .ok (.getfield 16, 3) := by decide +kernel
theorem dX9_lay_13 : decode cX9_lay 13 = .ok (.iconst 1, 1) := by decide +kernel
theorem dX9_lay_14 : decode cX9_lay 14 = .ok (.iaload, 1) := by decide +kernel
theorem dX9_lay_15 : decode cX9_lay 15 = .ok (.ifCond .eq 12, 3) := by decide +kernel
theorem dX9_lay_18 : decode cX9_lay 18 = .ok (.aload_n 0, 1) := by decide +kernel
theorem dX9_lay_19 : decode cX9_lay 19 = .ok (.getfield 16, 3) := by decide +kernel
theorem dX9_lay_22 : decode cX9_lay 22 = .ok (.iconst 2, 1) := by decide +kernel
theorem dX9_lay_23 : decode cX9_lay 23 = .ok (.iaload, 1) := by decide +kernel
theorem dX9_lay_24 : decode cX9_lay 24 = .ok (.ifCond .ne 6, 3) := by decide +kernel
theorem dX9_lay_27 : decode cX9_lay 27 = .ok (.bipush (-2), 2) := by decide +kernel
theorem dX9_lay_29 : decode cX9_lay 29 = .ok (.ireturn, 1) := by decide +kernel
theorem dX9_lay_30 : decode cX9_lay 30 = .ok (.iconst 0, 1) := by decide +kernel
theorem dX9_lay_31 : decode cX9_lay 31 = .ok (.istore_n 1, 1) := by decide +kernel
theorem dX9_lay_32 : decode cX9_lay 32 = .ok (.iload_n 1, 1) := by decide +kernel
theorem dX9_lay_33 : decode cX9_lay 33 = .ok (.bipush 65, 2) := by decide +kernel
theorem dX9_lay_35 : decode cX9_lay 35 = .ok (.if_icmp .ge 21, 3) := by decide +kernel
theorem dX9_lay_38 : decode cX9_lay 38 = .ok (.aload_n 0, 1) := by decide +kernel
theorem dX9_lay_39 : decode cX9_lay 39 = .ok (.getfield 22, 3) := by decide +kernel
theorem dX9_lay_42 : decode cX9_lay 42 = .ok (.iload_n 1, 1) := by decide +kernel
theorem dX9_lay_43 : decode cX9_lay 43 = .ok (.aload_n 0, 1) := by decide +kernel
theorem dX9_lay_44 : decode cX9_lay 44 = .ok (.getfield 16, 3) := by decide +kernel
theorem dX9_lay_47 : decode cX9_lay 47 = .ok (.iload_n 1, 1) := by decide +kernel
theorem dX9_lay_48 : decode cX9_lay 48 = .ok (.iaload, 1) := by decide +kernel
theorem dX9_lay_49 : decode cX9_lay 49 = .ok (.iastore, 1) := by decide +kernel
theorem dX9_lay_50 : decode cX9_lay 50 = .ok (.iinc 1 1, 3) := by decide +kernel
theorem dX9_lay_53 : decode cX9_lay 53 = .ok (.goto (-21), 3) := by decide +kernel
theorem dX9_lay_56 : decode cX9_lay 56 = .ok (.iconst 0, 1) := by decide +kernel
theorem dX9_lay_57 : decode cX9_lay 57 = .ok (.istore_n 1, 1) := by decide +kernel
theorem dX9_lay_58 : decode cX9_lay 58 = .ok (.iload_n 1, 1) := by decide +kernel
theorem dX9_lay_59 : decode cX9_lay 59 = .ok (.bipush 17, 2) := by decide +kernel
theorem dX9_lay_61 : decode cX9_lay 61 = .ok (.if_icmp .ge 21, 3) := by decide +kernel
theorem dX9_lay_64 : decode cX9_lay 64 = .ok (.aload_n 0, 1) := by decide +kernel
theorem dX9_lay_65 : decode cX9_lay 65 = .ok (.getfield 25, 3) := by decide +kernel
theorem dX9_lay_68 : decode cX9_lay 68 = .ok (.iload_n 1, 1) := by decide +kernel
theorem dX9_lay_69 : decode cX9_lay 69 = .ok (.aload_n 0, 1) := by decide +kernel
theorem dX9_lay_70 : decode cX9_lay 70 = .ok (.getfield 19, 3) := by decide +kernel
theorem dX9_lay_73 : decode cX9_lay 73 = .ok (.iload_n 1, 1) := by decide +kernel
theorem dX9_lay_74 : decode cX9_lay 74 = .ok (.iaload, 1) := by decide +kernel
theorem dX9_lay_75 : decode cX9_lay 75 = .ok (.iastore, 1) := by decide +kernel
theorem dX9_lay_76 : decode cX9_lay 76 = .ok (.iinc 1 1, 3) := by decide +kernel
theorem dX9_lay_79 : decode cX9_lay 79 = .ok (.goto (-21), 3) := by decide +kernel
theorem dX9_lay_82 : decode cX9_lay 82 = .ok (.iconst 0, 1) := by decide +kernel
theorem dX9_lay_83 : decode cX9_lay 83 = .ok (.istore_n 1, 1) := by decide +kernel
theorem dX9_lay_84 : decode cX9_lay 84 = .ok (.iload_n 1, 1) := by decide +kernel
theorem dX9_lay_85 : decode cX9_lay 85 = .ok (.iconst 4, 1) := by decide +kernel
theorem dX9_lay_86 : decode cX9_lay 86 = .ok (.if_icmp .ge 20, 3) := by decide +kernel
theorem dX9_lay_89 : decode cX9_lay 89 = .ok (.aload_n 0, 1) := by decide +kernel
theorem dX9_lay_90 : decode cX9_lay 90 = .ok (.getfield 25, 3) := by decide +kernel
theorem dX9_lay_93 : decode cX9_lay 93 = .ok (.bipush 13, 2) := by decide +kernel
theorem dX9_lay_95 : decode cX9_lay 95 = .ok (.iload_n 1, 1) := by decide +kernel
theorem dX9_lay_96 : decode cX9_lay 96 = .ok (.iadd, 1) := by decide +kernel
theorem dX9_lay_97 : decode cX9_lay 97 = .ok (.bipush (-4), 2) := by decide +kernel
theorem dX9_lay_99 : decode cX9_lay 99 = .ok (.iastore, 1) := by decide +kernel
theorem dX9_lay_100 : decode cX9_lay 100 = .ok (.iinc 1 1, 3) := by decide +kernel
theorem dX9_lay_103 : decode cX9_lay 103 = .ok (.goto (-19), 3) := by decide +kernel
theorem dX9_lay_106 : decode cX9_lay 106 = .ok (.aload_n 0, 1) := by decide +kernel
theorem dX9_lay_107 : decode cX9_lay 107 = .ok (.iconst 0, 1) := by decide +kernel
theorem dX9_lay_108 : decode cX9_lay 108 = .ok (.putfield 103, 3) := by decide +kernel
theorem dX9_lay_111 : decode cX9_lay 111 = .ok (.aload_n 0, 1) := by decide +kernel
theorem dX9_lay_112 : decode cX9_lay 112 = .ok (.iconst 0, 1) := by decide +kernel
theorem dX9_lay_113 : decode cX9_lay 113 = .ok (.putfield 106, 3) := by decide +kernel
theorem dX9_lay_116 : decode cX9_lay 116 = .ok (.aload_n 0, 1) := by decide +kernel
theorem dX9_lay_117 : decode cX9_lay 117 = .ok (.iconst 0, 1) := by decide +kernel
theorem dX9_lay_118 : decode cX9_lay 118 = .ok (.putfield 109, 3) := by decide +kernel
theorem dX9_lay_121 : decode cX9_lay 121 = .ok (.aload_n 0, 1) := by decide +kernel
theorem dX9_lay_122 : decode cX9_lay 122 = .ok (.getfield 22, 3) := by decide +kernel
theorem dX9_lay_125 : decode cX9_lay 125 = .ok (.iconst 1, 1) := by decide +kernel
theorem dX9_lay_126 : decode cX9_lay 126 = .ok (.iaload, 1) := by decide +kernel
theorem dX9_lay_127 : decode cX9_lay 127 = .ok (.ireturn, 1) := by decide +kernel
theorem dX9_isGap_0 : decode cX9_isGap 0 = .ok (.iload_n 1, 1) := by decide +kernel
theorem dX9_isGap_1 : decode cX9_isGap 1 = .ok (.iconst 0, 1) := by decide +kernel
theorem dX9_isGap_2 : decode cX9_isGap 2 = .ok (.aload_n 0, 1) := by decide +kernel
theorem dX9_isGap_3 : decode cX9_isGap 3 = .ok (.getfield 22, 3) := by decide +kernel
theorem dX9_isGap_6 : decode cX9_isGap 6 = .ok (.iconst 1, 1) := by decide +kernel
theorem dX9_isGap_7 : decode cX9_isGap 7 = .ok (.iaload, 1) := by decide +kernel
theorem dX9_isGap_8 : decode cX9_isGap 8 = .ok (.iconst 1, 1) := by decide +kernel
theorem dX9_isGap_9 : decode cX9_isGap 9 = .ok (.isub, 1) := by decide +kernel
theorem dX9_isGap_10 : decode cX9_isGap 10 = .ok (.invokestatic 54, 3) := by decide +kernel
theorem dX9_isGap_13 : decode cX9_isGap 13 = .ok (.ireturn, 1) := by decide +kernel
theorem dX9_isStitcher_0 : decode cX9_isStitcher 0 = .ok (.iload_n 1, 1) := by decide +kernel
theorem dX9_isStitcher_1 : decode cX9_isStitcher 1 = .ok (.iconst 0, 1) := by decide +kernel
theorem dX9_isStitcher_2 : decode cX9_isStitcher 2 = .ok (.aload_n 0, 1) := by decide +kernel
theorem dX9_isStitcher_3 : decode cX9_isStitcher 3 = .ok (.getfield 22, 3) := by decide +kernel
theorem dX9_isStitcher_6 : decode cX9_isStitcher 6 = .ok (.iconst 2, 1) := by decide +kernel
theorem dX9_isStitcher_7 : decode cX9_isStitcher 7 = .ok (.iaload, 1) := by decide +kernel
theorem dX9_isStitcher_8 : decode cX9_isStitcher 8 = .ok (.iconst 1, 1) := by decide +kernel
theorem dX9_isStitcher_9 : decode cX9_isStitcher 9 = .ok (.isub, 1) := by decide +kernel
theorem dX9_isStitcher_10 : decode cX9_isStitcher 10 = .ok (.invokestatic 54, 3) := by decide +kernel
theorem dX9_isStitcher_13 : decode cX9_isStitcher 13 = .ok (.ireturn, 1) := by decide +kernel
theorem dX9_isPiece_0 : decode cX9_isPiece 0 = .ok (.iload_n 1, 1) := by decide +kernel
theorem dX9_isPiece_1 : decode cX9_isPiece 1 = .ok (.iconst 0, 1) := by decide +kernel
theorem dX9_isPiece_2 : decode cX9_isPiece 2 = .ok (.aload_n 0, 1) := by decide +kernel
theorem dX9_isPiece_3 : decode cX9_isPiece 3 = .ok (.getfield 22, 3) := by decide +kernel
theorem dX9_isPiece_6 : decode cX9_isPiece 6 = .ok (.iconst 0, 1) := by decide +kernel
theorem dX9_isPiece_7 : decode cX9_isPiece 7 = .ok (.iaload, 1) := by decide +kernel
theorem dX9_isPiece_8 : decode cX9_isPiece 8 = .ok (.iconst 1, 1) := by decide +kernel
theorem dX9_isPiece_9 : decode cX9_isPiece 9 = .ok (.isub, 1) := by decide +kernel
theorem dX9_isPiece_10 : decode cX9_isPiece 10 = .ok (.invokestatic 54, 3) := by decide +kernel
theorem dX9_isPiece_13 : decode cX9_isPiece 13 = .ok (.ireturn, 1) := by decide +kernel
theorem dX9_of_0 : decode cX9_of 0 = .ok (.aload_n 0, 1) := by decide +kernel
theorem dX9_of_1 : decode cX9_of 1 = .ok (.getfield 22, 3) := by decide +kernel
theorem dX9_of_4 : decode cX9_of 4 = .ok (.bipush 17, 2) := by decide +kernel
theorem dX9_of_6 : decode cX9_of 6 = .ok (.iconst 5, 1) := by decide +kernel
theorem dX9_of_7 : decode cX9_of 7 = .ok (.iload_n 1, 1) := by decide +kernel
theorem dX9_of_8 : decode cX9_of 8 = .ok (.imul, 1) := by decide +kernel
theorem dX9_of_9 : decode cX9_of 9 = .ok (.iadd, 1) := by decide +kernel
theorem dX9_of_10 : decode cX9_of 10 = .ok (.iload_n 2, 1) := by decide +kernel
theorem dX9_of_11 : decode cX9_of 11 = .ok (.iadd, 1) := by decide +kernel
theorem dX9_of_12 : decode cX9_of 12 = .ok (.iaload, 1) := by decide +kernel
theorem dX9_of_13 : decode cX9_of 13 = .ok (.ireturn, 1) := by decide +kernel
theorem dX9_isClosed_0 : decode cX9_isClosed 0 = .ok (.aload_n 1, 1) := by decide +kernel
theorem dX9_isClosed_1 : decode cX9_isClosed 1 = .ok (.iconst 1, 1) := by decide +kernel
theorem dX9_isClosed_2 : decode cX9_isClosed 2 = .ok (.iload_n 2, 1) := by decide +kernel
theorem dX9_isClosed_3 : decode cX9_isClosed 3 = .ok (.iadd, 1) := by decide +kernel
theorem dX9_isClosed_4 : decode cX9_isClosed 4 = .ok (.iaload, 1) := by decide +kernel
theorem dX9_isClosed_5 : decode cX9_isClosed 5 = .ok (.aload_n 0, 1) := by decide +kernel
theorem dX9_isClosed_6 : decode cX9_isClosed 6 = .ok (.iload_n 2, 1) := by decide +kernel
theorem dX9_isClosed_7 : decode cX9_isClosed 7 = .ok (.iconst 4, 1) := by decide +kernel
theorem dX9_isClosed_8 : decode cX9_isClosed 8 = .ok (.invokevirtual 112, 3) := by decide +kernel
theorem dX9_isClosed_11 : decode cX9_isClosed 11 = .ok (.if_icmp .ne 7, 3) := by decide +kernel
theorem dX9_isClosed_14 : decode cX9_isClosed 14 = .ok (.iconst 1, 1) := by decide +kernel
theorem dX9_isClosed_15 : decode cX9_isClosed 15 = .ok (.goto 4, 3) := by decide +kernel
theorem dX9_isClosed_18 : decode cX9_isClosed 18 = .ok (.iconst 0, 1) := by decide +kernel
theorem dX9_isClosed_19 : decode cX9_isClosed 19 = .ok (.ireturn, 1) := by decide +kernel
theorem dX9_closed_0 : decode cX9_closed 0 = .ok (.iconst 0, 1) := by decide +kernel
theorem dX9_closed_1 : decode cX9_closed 1 = .ok (.istore_n 2, 1) := by decide +kernel
theorem dX9_closed_2 : decode cX9_closed 2 = .ok (.iconst 0, 1) := by decide +kernel
theorem dX9_closed_3 : decode cX9_closed 3 = .ok (.istore_n 3, 1) := by decide +kernel
theorem dX9_closed_4 : decode cX9_closed 4 = .ok (.iload_n 3, 1) := by decide +kernel
theorem dX9_closed_5 : decode cX9_closed 5 = .ok (.aload_n 0, 1) := by decide +kernel
theorem dX9_closed_6 : decode cX9_closed 6 = .ok (.getfield 22, 3) := by decide +kernel
theorem dX9_closed_9 : decode cX9_closed 9 = .ok (.iconst 1, 1) := by decide +kernel
theorem dX9_closed_10 : decode cX9_closed 10 = .ok (.iaload, 1) := by decide +kernel
theorem dX9_closed_11 : decode cX9_closed 11 = .ok (.if_icmp .ge 28, 3) := by decide +kernel
theorem dX9_closed_14 : decode cX9_closed 14 = .ok (.iload_n 2, 1) := by decide +kernel
theorem dX9_closed_15 : decode cX9_closed 15 = .ok (.aload_n 0, 1) := by decide +kernel
theorem dX9_closed_16 : decode cX9_closed 16 = .ok (.aload_n 1, 1) := by decide +kernel
theorem dX9_closed_17 : decode cX9_closed 17 = .ok (.iload_n 3, 1) := by decide +kernel
theorem dX9_closed_18 : decode cX9_closed 18 = .ok (.invokevirtual 116, 3) := by decide +kernel
theorem dX9_closed_21 : decode cX9_closed 21 = .ok (.ifCond .eq 9, 3) := by decide +kernel
theorem dX9_closed_24 : decode cX9_closed 24 = .ok (.iconst 1, 1) := by decide +kernel
theorem dX9_closed_25 : decode cX9_closed 25 = .ok (.iload_n 3, 1) := by decide +kernel
theorem dX9_closed_26 : decode cX9_closed 26 = .ok (.ishl, 1) := by decide +kernel
theorem dX9_closed_27 : decode cX9_closed 27 = .ok (.goto 4, 3) := by decide +kernel
theorem dX9_closed_30 : decode cX9_closed 30 = .ok (.iconst 0, 1) := by decide +kernel
theorem dX9_closed_31 : decode cX9_closed 31 = .ok (.ior, 1) := by decide +kernel
theorem dX9_closed_32 : decode cX9_closed 32 = .ok (.istore_n 2, 1) := by decide +kernel
theorem dX9_closed_33 : decode cX9_closed 33 = .ok (.iinc 3 1, 3) := by decide +kernel
theorem dX9_closed_36 : decode cX9_closed 36 = .ok (.goto (-32), 3) := by decide +kernel
theorem dX9_closed_39 : decode cX9_closed 39 = .ok (.iload_n 2, 1) := by decide +kernel
theorem dX9_closed_40 : decode cX9_closed 40 = .ok (.ireturn, 1) := by decide +kernel
theorem dX9_isLight_0 : decode cX9_isLight 0 = .ok (.iload_n 1, 1) := by decide +kernel
theorem dX9_isLight_1 : decode cX9_isLight 1 = .ok (.bipush 24, 2) := by decide +kernel
theorem dX9_isLight_3 : decode cX9_isLight 3 = .ok (.irem, 1) := by decide +kernel
theorem dX9_isLight_4 : decode cX9_isLight 4 = .ok (.aload_n 0, 1) := by decide +kernel
theorem dX9_isLight_5 : decode cX9_isLight 5 = .ok (.getfield 22, 3) := by decide +kernel
theorem dX9_isLight_8 : decode cX9_isLight 8 = .ok (.iconst 3, 1) := by decide +kernel
theorem dX9_isLight_9 : decode cX9_isLight 9 = .ok (.iaload, 1) := by decide +kernel
theorem dX9_isLight_10 : decode cX9_isLight 10 = .ok (.if_icmp .ge 7, 3) := by decide +kernel
theorem dX9_isLight_13 : decode cX9_isLight 13 = .ok (.iconst 1, 1) := by decide +kernel
theorem dX9_isLight_14 : decode cX9_isLight 14 = .ok (.goto 4, 3) := by decide +kernel
theorem dX9_isLight_17 : decode cX9_isLight 17 = .ok (.iconst 0, 1) := by decide +kernel
theorem dX9_isLight_18 : decode cX9_isLight 18 = .ok (.ireturn, 1) := by decide +kernel
theorem dX9_rains_0 : decode cX9_rains 0 = .ok (.aload_n 0, 1) := by decide +kernel
theorem dX9_rains_1 : decode cX9_rains 1 = .ok (.getfield 22, 3) := by decide +kernel
theorem dX9_rains_4 : decode cX9_rains 4 = .ok (.iconst 4, 1) := by decide +kernel
theorem dX9_rains_5 : decode cX9_rains 5 = .ok (.iaload, 1) := by decide +kernel
theorem dX9_rains_6 : decode cX9_rains 6 = .ok (.ifCond .le 26, 3) := by decide +kernel
theorem dX9_rains_9 : decode cX9_rains 9 = .ok (.aload_n 0, 1) := by decide +kernel
theorem dX9_rains_10 : decode cX9_rains 10 = .ok (.getfield 22, 3) := by decide +kernel
theorem dX9_rains_13 : decode cX9_rains 13 = .ok (.iconst 5, 1) := by decide +kernel
theorem dX9_rains_14 : decode cX9_rains 14 = .ok (.iload_n 1, 1) := by decide +kernel
theorem dX9_rains_15 : decode cX9_rains 15 = .ok (.aload_n 0, 1) := by decide +kernel
theorem dX9_rains_16 : decode cX9_rains 16 = .ok (.getfield 22, 3) := by decide +kernel
theorem dX9_rains_19 : decode cX9_rains 19 = .ok (.iconst 4, 1) := by decide +kernel
theorem dX9_rains_20 : decode cX9_rains 20 = .ok (.iaload, 1) := by decide +kernel
theorem dX9_rains_21 : decode cX9_rains 21 = .ok (.irem, 1) := by decide +kernel
theorem dX9_rains_22 : decode cX9_rains 22 = .ok (.iadd, 1) := by decide +kernel
theorem dX9_rains_23 : decode cX9_rains 23 = .ok (.iaload, 1) := by decide +kernel
theorem dX9_rains_24 : decode cX9_rains 24 = .ok (.iconst 1, 1) := by decide +kernel
theorem dX9_rains_25 : decode cX9_rains 25 = .ok (.if_icmp .ne 7, 3) := by decide +kernel
theorem dX9_rains_28 : decode cX9_rains 28 = .ok (.iconst 1, 1) := by decide +kernel
theorem dX9_rains_29 : decode cX9_rains 29 = .ok (.goto 4, 3) := by decide +kernel
theorem dX9_rains_32 : decode cX9_rains 32 = .ok (.iconst 0, 1) := by decide +kernel
theorem dX9_rains_33 : decode cX9_rains 33 = .ok (.ireturn, 1) := by decide +kernel
theorem dX9_sews_0 : decode cX9_sews 0 = .ok (.aload_n 0, 1) := by decide +kernel
theorem dX9_sews_1 : decode cX9_sews 1 = .ok (.getfield 22, 3) := by decide +kernel
theorem dX9_sews_4 : decode cX9_sews 4 = .ok (.bipush 57, 2) := by decide +kernel
theorem dX9_sews_6 : decode cX9_sews 6 = .ok (.iconst 2, 1) := by decide +kernel
theorem dX9_sews_7 : decode cX9_sews 7 = .ok (.iload_n 1, 1) := by decide +kernel
theorem dX9_sews_8 : decode cX9_sews 8 = .ok (.imul, 1) := by decide +kernel
theorem dX9_sews_9 : decode cX9_sews 9 = .ok (.iadd, 1) := by decide +kernel
theorem dX9_sews_10 : decode cX9_sews 10 = .ok (.iaload, 1) := by decide +kernel
theorem dX9_sews_11 : decode cX9_sews 11 = .ok (.istore_n 3, 1) := by decide +kernel
theorem dX9_sews_12 : decode cX9_sews 12 = .ok (.aload_n 0, 1) := by decide +kernel
theorem dX9_sews_13 : decode cX9_sews 13 = .ok (.iload_n 2, 1) := by decide +kernel
theorem dX9_sews_14 : decode cX9_sews 14 = .ok (.iconst 0, 1) := by decide +kernel
theorem dX9_sews_15 : decode cX9_sews 15 = .ok (.invokevirtual 112, 3) := by decide +kernel
theorem dX9_sews_18 : decode cX9_sews 18 = .ok (.istore 4, 2) := by decide +kernel
theorem dX9_sews_20 : decode cX9_sews 20 = .ok (.iload 4, 2) := by decide +kernel
theorem dX9_sews_22 : decode cX9_sews 22 = .ok (.iconst 1, 1) := by decide +kernel
theorem dX9_sews_23 : decode cX9_sews 23 = .ok (.if_icmp .ne 14, 3) := by decide +kernel
theorem dX9_sews_26 : decode cX9_sews 26 = .ok (.iload_n 3, 1) := by decide +kernel
theorem dX9_sews_27 : decode cX9_sews 27 = .ok (.iconst 1, 1) := by decide +kernel
theorem dX9_sews_28 : decode cX9_sews 28 = .ok (.if_icmp .ne 7, 3) := by decide +kernel
theorem dX9_sews_31 : decode cX9_sews 31 = .ok (.iconst 4, 1) := by decide +kernel
theorem dX9_sews_32 : decode cX9_sews 32 = .ok (.goto 4, 3) := by decide +kernel
theorem dX9_sews_35 : decode cX9_sews 35 = .ok (.iconst 0, 1) := by decide +kernel
theorem dX9_sews_36 : decode cX9_sews 36 = .ok (.ireturn, 1) := by decide +kernel
theorem dX9_sews_37 : decode cX9_sews 37 = .ok (.iload_n 3, 1) := by decide +kernel
theorem dX9_sews_38 : decode cX9_sews 38 = .ok (.tableswitch 42 0 2 #[26, 28, 30], 26) := by decide +kernel
theorem dX9_sews_64 : decode cX9_sews 64 = .ok (.iconst 2, 1) := by decide +kernel
theorem dX9_sews_65 : decode cX9_sews 65 = .ok (.ireturn, 1) := by decide +kernel
theorem dX9_sews_66 : decode cX9_sews 66 = .ok (.iconst 1, 1) := by decide +kernel
theorem dX9_sews_67 : decode cX9_sews 67 = .ok (.ireturn, 1) := by decide +kernel
theorem dX9_sews_68 : decode cX9_sews 68 = .ok (.iload 4, 2) := by decide +kernel
theorem dX9_sews_70 : decode cX9_sews 70 = .ok (.iconst 3, 1) := by decide +kernel
theorem dX9_sews_71 : decode cX9_sews 71 = .ok (.if_icmp .ne 7, 3) := by decide +kernel
theorem dX9_sews_74 : decode cX9_sews 74 = .ok (.iconst 0, 1) := by decide +kernel
theorem dX9_sews_75 : decode cX9_sews 75 = .ok (.goto 4, 3) := by decide +kernel
theorem dX9_sews_78 : decode cX9_sews 78 = .ok (.iconst 4, 1) := by decide +kernel
theorem dX9_sews_79 : decode cX9_sews 79 = .ok (.ireturn, 1) := by decide +kernel
theorem dX9_sews_80 : decode cX9_sews 80 = .ok (.aload_n 0, 1) := by decide +kernel
theorem dX9_sews_81 : decode cX9_sews 81 = .ok (.iload_n 2, 1) := by decide +kernel
theorem dX9_sews_82 : decode cX9_sews 82 = .ok (.iconst 4, 1) := by decide +kernel
theorem dX9_sews_83 : decode cX9_sews 83 = .ok (.invokevirtual 112, 3) := by decide +kernel
theorem dX9_sews_86 : decode cX9_sews 86 = .ok (.bipush 6, 2) := by decide +kernel
theorem dX9_sews_88 : decode cX9_sews 88 = .ok (.if_icmp .le 7, 3) := by decide +kernel
theorem dX9_sews_91 : decode cX9_sews 91 = .ok (.iconst 0, 1) := by decide +kernel
theorem dX9_sews_92 : decode cX9_sews 92 = .ok (.goto 4, 3) := by decide +kernel
theorem dX9_sews_95 : decode cX9_sews 95 = .ok (.iconst 1, 1) := by decide +kernel
theorem dX9_sews_96 : decode cX9_sews 96 = .ok (.ireturn, 1) := by decide +kernel
theorem dX9_flies_0 : decode cX9_flies 0 = .ok (.aload_n 1, 1) := by decide +kernel
theorem dX9_flies_1 : decode cX9_flies 1 = .ok (.bipush 13, 2) := by decide +kernel
theorem dX9_flies_3 : decode cX9_flies 3 = .ok (.iload_n 2, 1) := by decide +kernel
theorem dX9_flies_4 : decode cX9_flies 4 = .ok (.iadd, 1) := by decide +kernel
theorem dX9_flies_5 : decode cX9_flies 5 = .ok (.iaload, 1) := by decide +kernel
theorem dX9_flies_6 : decode cX9_flies 6 = .ok (.istore_n 3, 1) := by decide +kernel
theorem dX9_flies_7 : decode cX9_flies 7 = .ok (.aload_n 0, 1) := by decide +kernel
theorem dX9_flies_8 : decode cX9_flies 8 = .ok (.iload_n 3, 1) := by decide +kernel
theorem dX9_flies_9 : decode cX9_flies 9 = .ok (.iconst 3, 1) := by decide +kernel
theorem dX9_flies_10 : decode cX9_flies 10 = .ok (.invokevirtual 112, 3) := by decide +kernel
theorem dX9_flies_13 : decode cX9_flies 13 = .ok (.istore 4, 2) := by decide +kernel
theorem dX9_flies_15 : decode cX9_flies 15 = .ok (.aload_n 0, 1) := by decide +kernel
theorem dX9_flies_16 : decode cX9_flies 16 = .ok (.getfield 22, 3) := by decide +kernel
theorem dX9_flies_19 : decode cX9_flies 19 = .ok (.bipush 57, 2) := by decide +kernel
theorem dX9_flies_21 : decode cX9_flies 21 = .ok (.iconst 2, 1) := by decide +kernel
theorem dX9_flies_22 : decode cX9_flies 22 = .ok (.iload_n 2, 1) := by decide +kernel
theorem dX9_flies_23 : decode cX9_flies 23 = .ok (.imul, 1) := by decide +kernel
theorem dX9_flies_24 : decode cX9_flies 24 = .ok (.iadd, 1) := by decide +kernel
theorem dX9_flies_25 : decode cX9_flies 25 = .ok (.iconst 1, 1) := by decide +kernel
theorem dX9_flies_26 : decode cX9_flies 26 = .ok (.iadd, 1) := by decide +kernel
theorem dX9_flies_27 : decode cX9_flies 27 = .ok (.iaload, 1) := by decide +kernel
theorem dX9_flies_28 : decode cX9_flies 28 = .ok (.istore 5, 2) := by decide +kernel
theorem dX9_flies_30 : decode cX9_flies 30 = .ok (.iload 4, 2) := by decide +kernel
theorem dX9_flies_32 : decode cX9_flies 32 = .ok (.aload_n 1, 1) := by decide +kernel
theorem dX9_flies_33 : decode cX9_flies 33 = .ok (.bipush 9, 2) := by decide +kernel
theorem dX9_flies_35 : decode cX9_flies 35 = .ok (.iload_n 2, 1) := by decide +kernel
theorem dX9_flies_36 : decode cX9_flies 36 = .ok (.iadd, 1) := by decide +kernel
theorem dX9_flies_37 : decode cX9_flies 37 = .ok (.iaload, 1) := by decide +kernel
theorem dX9_flies_38 : decode cX9_flies 38 = .ok (.isub, 1) := by decide +kernel
theorem dX9_flies_39 : decode cX9_flies 39 = .ok (.istore 6, 2) := by decide +kernel
theorem dX9_flies_41 : decode cX9_flies 41 = .ok (.iload 6, 2) := by decide +kernel
theorem dX9_flies_43 : decode cX9_flies 43 = .ok (.ifCond .eq 41, 3) := by decide +kernel
theorem dX9_flies_46 : decode cX9_flies 46 = .ok (.aload_n 1, 1) := by decide +kernel
theorem dX9_flies_47 : decode cX9_flies 47 = .ok (.bipush 9, 2) := by decide +kernel
theorem dX9_flies_49 : decode cX9_flies 49 = .ok (.iload_n 2, 1) := by decide +kernel
theorem dX9_flies_50 : decode cX9_flies 50 = .ok (.iadd, 1) := by decide +kernel
theorem dX9_flies_51 : decode cX9_flies 51 = .ok (.dup2, 1) := by decide +kernel
theorem dX9_flies_52 : decode cX9_flies 52 = .ok (.iaload, 1) := by decide +kernel
theorem dX9_flies_53 : decode cX9_flies 53 = .ok (.iload 6, 2) := by decide +kernel
theorem dX9_flies_55 : decode cX9_flies 55 = .ok (.iload 5, 2) := by decide +kernel
theorem dX9_flies_57 : decode cX9_flies 57 = .ok (.if_icmp .le 8, 3) := by decide +kernel
theorem dX9_flies_60 : decode cX9_flies 60 = .ok (.iload 5, 2) := by decide +kernel
theorem dX9_flies_62 : decode cX9_flies 62 = .ok (.goto 19, 3) := by decide +kernel
theorem dX9_flies_65 : decode cX9_flies 65 = .ok (.iload 6, 2) := by decide +kernel
theorem dX9_flies_67 : decode cX9_flies 67 = .ok (.iload 5, 2) := by decide +kernel
theorem dX9_flies_69 : decode cX9_flies 69 = .ok (.ineg, 1) := by decide +kernel
theorem dX9_flies_70 : decode cX9_flies 70 = .ok (.if_icmp .ge 9, 3) := by decide +kernel
theorem dX9_flies_73 : decode cX9_flies 73 = .ok (.iload 5, 2) := by decide +kernel
theorem dX9_flies_75 : decode cX9_flies 75 = .ok (.ineg, 1) := by decide +kernel
theorem dX9_flies_76 : decode cX9_flies 76 = .ok (.goto 5, 3) := by decide +kernel
theorem dX9_flies_79 : decode cX9_flies 79 = .ok (.iload 6, 2) := by decide +kernel
theorem dX9_flies_81 : decode cX9_flies 81 = .ok (.iadd, 1) := by decide +kernel
theorem dX9_flies_82 : decode cX9_flies 82 = .ok (.iastore, 1) := by decide +kernel
theorem dX9_flies_83 : decode cX9_flies 83 = .ok (.return_, 1) := by decide +kernel
theorem dX9_flies_84 : decode cX9_flies 84 = .ok (.aload_n 1, 1) := by decide +kernel
theorem dX9_flies_85 : decode cX9_flies 85 = .ok (.iconst 1, 1) := by decide +kernel
theorem dX9_flies_86 : decode cX9_flies 86 = .ok (.iload_n 3, 1) := by decide +kernel
theorem dX9_flies_87 : decode cX9_flies 87 = .ok (.iadd, 1) := by decide +kernel
theorem dX9_flies_88 : decode cX9_flies 88 = .ok (.iaload, 1) := by decide +kernel
theorem dX9_flies_89 : decode cX9_flies 89 = .ok (.aload_n 0, 1) := by decide +kernel
theorem dX9_flies_90 : decode cX9_flies 90 = .ok (.iload_n 2, 1) := by decide +kernel
theorem dX9_flies_91 : decode cX9_flies 91 = .ok (.iload_n 3, 1) := by decide +kernel
theorem dX9_flies_92 : decode cX9_flies 92 = .ok (.invokevirtual 120, 3) := by decide +kernel
theorem dX9_flies_95 : decode cX9_flies 95 = .ok (.iadd, 1) := by decide +kernel
theorem dX9_flies_96 : decode cX9_flies 96 = .ok (.istore 7, 2) := by decide +kernel
theorem dX9_flies_98 : decode cX9_flies 98 = .ok (.aload_n 1, 1) := by decide +kernel
theorem dX9_flies_99 : decode cX9_flies 99 = .ok (.iconst 1, 1) := by decide +kernel
theorem dX9_flies_100 : decode cX9_flies 100 = .ok (.iload_n 3, 1) := by decide +kernel
theorem dX9_flies_101 : decode cX9_flies 101 = .ok (.iadd, 1) := by decide +kernel
theorem dX9_flies_102 : decode cX9_flies 102 = .ok (.iload 7, 2) := by decide +kernel
theorem dX9_flies_104 : decode cX9_flies 104 = .ok (.aload_n 0, 1) := by decide +kernel
theorem dX9_flies_105 : decode cX9_flies 105 = .ok (.iload_n 3, 1) := by decide +kernel
theorem dX9_flies_106 : decode cX9_flies 106 = .ok (.iconst 4, 1) := by decide +kernel
theorem dX9_flies_107 : decode cX9_flies 107 = .ok (.invokevirtual 112, 3) := by decide +kernel
theorem dX9_flies_110 : decode cX9_flies 110 = .ok (.if_icmp .le 12, 3) := by decide +kernel
theorem dX9_flies_113 : decode cX9_flies 113 = .ok (.aload_n 0, 1) := by decide +kernel
theorem dX9_flies_114 : decode cX9_flies 114 = .ok (.iload_n 3, 1) := by decide +kernel
theorem dX9_flies_115 : decode cX9_flies 115 = .ok (.iconst 4, 1) := by decide +kernel
theorem dX9_flies_116 : decode cX9_flies 116 = .ok (.invokevirtual 112, 3) := by decide +kernel
theorem dX9_flies_119 : decode cX9_flies 119 = .ok (.goto 5, 3) := by decide +kernel
theorem dX9_flies_122 : decode cX9_flies 122 = .ok (.iload 7, 2) := by decide +kernel
theorem dX9_flies_124 : decode cX9_flies 124 = .ok (.iastore, 1) := by decide +kernel
theorem dX9_flies_125 : decode cX9_flies 125 = .ok (.iconst 0, 1) := by decide +kernel
theorem dX9_flies_126 : decode cX9_flies 126 = .ok (.istore 8, 2) := by decide +kernel
theorem dX9_flies_128 : decode cX9_flies 128 = .ok (.iload 8, 2) := by decide +kernel
theorem dX9_flies_130 : decode cX9_flies 130 = .ok (.aload_n 0, 1) := by decide +kernel
theorem dX9_flies_131 : decode cX9_flies 131 = .ok (.getfield 22, 3) := by decide +kernel
theorem dX9_flies_134 : decode cX9_flies 134 = .ok (.iconst 2, 1) := by decide +kernel
theorem dX9_flies_135 : decode cX9_flies 135 = .ok (.iaload, 1) := by decide +kernel
theorem dX9_flies_136 : decode cX9_flies 136 = .ok (.if_icmp .ge 48, 3) := by decide +kernel
theorem dX9_flies_139 : decode cX9_flies 139 = .ok (.aload_n 0, 1) := by decide +kernel
theorem dX9_flies_140 : decode cX9_flies 140 = .ok (.aload_n 1, 1) := by decide +kernel
theorem dX9_flies_141 : decode cX9_flies 141 = .ok (.iload_n 3, 1) := by decide +kernel
theorem dX9_flies_142 : decode cX9_flies 142 = .ok (.invokevirtual 116, 3) := by decide +kernel
theorem dX9_flies_145 : decode cX9_flies 145 = .ok (.ifCond .eq 39, 3) := by decide +kernel
theorem dX9_flies_148 : decode cX9_flies 148 = .ok (.aload_n 1, 1) := by decide +kernel
theorem dX9_flies_149 : decode cX9_flies 149 = .ok (.bipush 13, 2) := by decide +kernel
theorem dX9_flies_151 : decode cX9_flies 151 = .ok (.iload 8, 2) := by decide +kernel
theorem dX9_flies_153 : decode cX9_flies 153 = .ok (.iadd, 1) := by decide +kernel
theorem dX9_flies_154 : decode cX9_flies 154 = .ok (.aload_n 1, 1) := by decide +kernel
theorem dX9_flies_155 : decode cX9_flies 155 = .ok (.bipush 13, 2) := by decide +kernel
theorem dX9_flies_157 : decode cX9_flies 157 = .ok (.iload 8, 2) := by decide +kernel
theorem dX9_flies_159 : decode cX9_flies 159 = .ok (.iadd, 1) := by decide +kernel
theorem dX9_flies_160 : decode cX9_flies 160 = .ok (.iaload, 1) := by decide +kernel
theorem dX9_flies_161 : decode cX9_flies 161 = .ok (.iload_n 3, 1) := by decide +kernel
theorem dX9_flies_162 : decode cX9_flies 162 = .ok (.if_icmp .ne 8, 3) := by decide +kernel
theorem dX9_flies_165 : decode cX9_flies 165 = .ok (.bipush (-4), 2) := by decide +kernel
theorem dX9_flies_167 : decode cX9_flies 167 = .ok (.goto 10, 3) := by decide +kernel
theorem dX9_flies_170 : decode cX9_flies 170 = .ok (.aload_n 1, 1) := by decide +kernel
theorem dX9_flies_171 : decode cX9_flies 171 = .ok (.bipush 13, 2) := by decide +kernel
theorem dX9_flies_173 : decode cX9_flies 173 = .ok (.iload 8, 2) := by decide +kernel
theorem dX9_flies_175 : decode cX9_flies 175 = .ok (.iadd, 1) := by decide +kernel
theorem dX9_flies_176 : decode cX9_flies 176 = .ok (.iaload, 1) := by decide +kernel
theorem dX9_flies_177 : decode cX9_flies 177 = .ok (.iastore, 1) := by decide +kernel
theorem dX9_flies_178 : decode cX9_flies 178 = .ok (.iinc 8 1, 3) := by decide +kernel
theorem dX9_flies_181 : decode cX9_flies 181 = .ok (.goto (-53), 3) := by decide +kernel
theorem dX9_flies_184 : decode cX9_flies 184 = .ok (.return_, 1) := by decide +kernel
theorem dX9_passes_0 : decode cX9_passes 0 = .ok (.iconst 0, 1) := by decide +kernel
theorem dX9_passes_1 : decode cX9_passes 1 = .ok (.istore_n 3, 1) := by decide +kernel
theorem dX9_passes_2 : decode cX9_passes 2 = .ok (.iload_n 3, 1) := by decide +kernel
theorem dX9_passes_3 : decode cX9_passes 3 = .ok (.aload_n 0, 1) := by decide +kernel
theorem dX9_passes_4 : decode cX9_passes 4 = .ok (.getfield 22, 3) := by decide +kernel
theorem dX9_passes_7 : decode cX9_passes 7 = .ok (.iconst 2, 1) := by decide +kernel
theorem dX9_passes_8 : decode cX9_passes 8 = .ok (.iaload, 1) := by decide +kernel
theorem dX9_passes_9 : decode cX9_passes 9 = .ok (.if_icmp .ge 36, 3) := by decide +kernel
theorem dX9_passes_12 : decode cX9_passes 12 = .ok (.aload_n 1, 1) := by decide +kernel
theorem dX9_passes_13 : decode cX9_passes 13 = .ok (.bipush 13, 2) := by decide +kernel
theorem dX9_passes_15 : decode cX9_passes 15 = .ok (.iload_n 3, 1) := by decide +kernel
theorem dX9_passes_16 : decode cX9_passes 16 = .ok (.iadd, 1) := by decide +kernel
theorem dX9_passes_17 : decode cX9_passes 17 = .ok (.iaload, 1) := by decide +kernel
theorem dX9_passes_18 : decode cX9_passes 18 = .ok (.bipush (-4), 2) := by decide +kernel
theorem dX9_passes_20 : decode cX9_passes 20 = .ok (.if_icmp .eq 19, 3) := by decide +kernel
theorem dX9_passes_23 : decode cX9_passes 23 = .ok (.aload_n 0, 1) := by decide +kernel
theorem dX9_passes_24 : decode cX9_passes 24 = .ok (.aload_n 1, 1) := by decide +kernel
theorem dX9_passes_25 : decode cX9_passes 25 = .ok (.iconst 0, 1) := by decide +kernel
theorem dX9_passes_26 : decode cX9_passes 26 = .ok (.iaload, 1) := by decide +kernel
theorem dX9_passes_27 : decode cX9_passes 27 = .ok (.invokevirtual 123, 3) := by decide +kernel
theorem dX9_passes_30 : decode cX9_passes 30 = .ok (.ifCond .eq 9, 3) := by decide +kernel
theorem dX9_passes_33 : decode cX9_passes 33 = .ok (.aload_n 0, 1) := by decide +kernel
theorem dX9_passes_34 : decode cX9_passes 34 = .ok (.aload_n 1, 1) := by decide +kernel
theorem dX9_passes_35 : decode cX9_passes 35 = .ok (.iload_n 3, 1) := by decide +kernel
theorem dX9_passes_36 : decode cX9_passes 36 = .ok (.invokevirtual 126, 3) := by decide +kernel
theorem dX9_passes_39 : decode cX9_passes 39 = .ok (.iinc 3 1, 3) := by decide +kernel
theorem dX9_passes_42 : decode cX9_passes 42 = .ok (.goto (-40), 3) := by decide +kernel
theorem dX9_passes_45 : decode cX9_passes 45 = .ok (.iconst 0, 1) := by decide +kernel
theorem dX9_passes_46 : decode cX9_passes 46 = .ok (.istore_n 3, 1) := by decide +kernel
theorem dX9_passes_47 : decode cX9_passes 47 = .ok (.iload_n 3, 1) := by decide +kernel
theorem dX9_passes_48 : decode cX9_passes 48 = .ok (.aload_n 0, 1) := by decide +kernel
theorem dX9_passes_49 : decode cX9_passes 49 = .ok (.getfield 22, 3) := by decide +kernel
theorem dX9_passes_52 : decode cX9_passes 52 = .ok (.iconst 1, 1) := by decide +kernel
theorem dX9_passes_53 : decode cX9_passes 53 = .ok (.iaload, 1) := by decide +kernel
theorem dX9_passes_54 : decode cX9_passes 54 = .ok (.if_icmp .ge 87, 3) := by decide +kernel
theorem dX9_passes_57 : decode cX9_passes 57 = .ok (.iload_n 2, 1) := by decide +kernel
theorem dX9_passes_58 : decode cX9_passes 58 = .ok (.ifCond .eq 83, 3) := by decide +kernel
theorem dX9_passes_61 : decode cX9_passes 61 = .ok (.aload_n 0, 1) := by decide +kernel
theorem dX9_passes_62 : decode cX9_passes 62 = .ok (.aload_n 1, 1) := by decide +kernel
theorem dX9_passes_63 : decode cX9_passes 63 = .ok (.iload_n 3, 1) := by decide +kernel
theorem dX9_passes_64 : decode cX9_passes 64 = .ok (.invokevirtual 116, 3) := by decide +kernel
theorem dX9_passes_67 : decode cX9_passes 67 = .ok (.ifCond .eq 7, 3) := by decide +kernel
theorem dX9_passes_70 : decode cX9_passes 70 = .ok (.iconst 0, 1) := by decide +kernel
theorem dX9_passes_71 : decode cX9_passes 71 = .ok (.goto 18, 3) := by decide +kernel
theorem dX9_passes_74 : decode cX9_passes 74 = .ok (.aload_n 0, 1) := by decide +kernel
theorem dX9_passes_75 : decode cX9_passes 75 = .ok (.iload_n 3, 1) := by decide +kernel
theorem dX9_passes_76 : decode cX9_passes 76 = .ok (.iconst 0, 1) := by decide +kernel
theorem dX9_passes_77 : decode cX9_passes 77 = .ok (.invokevirtual 112, 3) := by decide +kernel
theorem dX9_passes_80 : decode cX9_passes 80 = .ok (.iconst 2, 1) := by decide +kernel
theorem dX9_passes_81 : decode cX9_passes 81 = .ok (.if_icmp .ne 7, 3) := by decide +kernel
theorem dX9_passes_84 : decode cX9_passes 84 = .ok (.iconst 2, 1) := by decide +kernel
theorem dX9_passes_85 : decode cX9_passes 85 = .ok (.goto 4, 3) := by decide +kernel
theorem dX9_passes_88 : decode cX9_passes 88 = .ok (.iconst 1, 1) := by decide +kernel
theorem dX9_passes_89 : decode cX9_passes 89 = .ok (.istore 4, 2) := by decide +kernel
theorem dX9_passes_91 : decode cX9_passes 91 = .ok (.aload_n 1, 1) := by decide +kernel
theorem dX9_passes_92 : decode cX9_passes 92 = .ok (.iconst 1, 1) := by decide +kernel
theorem dX9_passes_93 : decode cX9_passes 93 = .ok (.iload_n 3, 1) := by decide +kernel
theorem dX9_passes_94 : decode cX9_passes 94 = .ok (.iadd, 1) := by decide +kernel
theorem dX9_passes_95 : decode cX9_passes 95 = .ok (.aload_n 1, 1) := by decide +kernel
theorem dX9_passes_96 : decode cX9_passes 96 = .ok (.iconst 1, 1) := by decide +kernel
theorem dX9_passes_97 : decode cX9_passes 97 = .ok (.iload_n 3, 1) := by decide +kernel
theorem dX9_passes_98 : decode cX9_passes 98 = .ok (.iadd, 1) := by decide +kernel
theorem dX9_passes_99 : decode cX9_passes 99 = .ok (.iaload, 1) := by decide +kernel
theorem dX9_passes_100 : decode cX9_passes 100 = .ok (.iload 4, 2) := by decide +kernel
theorem dX9_passes_102 : decode cX9_passes 102 = .ok (.if_icmp .le 14, 3) := by decide +kernel
theorem dX9_passes_105 : decode cX9_passes 105 = .ok (.aload_n 1, 1) := by decide +kernel
theorem dX9_passes_106 : decode cX9_passes 106 = .ok (.iconst 1, 1) := by decide +kernel
theorem dX9_passes_107 : decode cX9_passes 107 = .ok (.iload_n 3, 1) := by decide +kernel
theorem dX9_passes_108 : decode cX9_passes 108 = .ok (.iadd, 1) := by decide +kernel
theorem dX9_passes_109 : decode cX9_passes 109 = .ok (.iaload, 1) := by decide +kernel
theorem dX9_passes_110 : decode cX9_passes 110 = .ok (.iload 4, 2) := by decide +kernel
theorem dX9_passes_112 : decode cX9_passes 112 = .ok (.isub, 1) := by decide +kernel
theorem dX9_passes_113 : decode cX9_passes 113 = .ok (.goto 21, 3) := by decide +kernel
theorem dX9_passes_116 : decode cX9_passes 116 = .ok (.aload_n 0, 1) := by decide +kernel
theorem dX9_passes_117 : decode cX9_passes 117 = .ok (.aload_n 1, 1) := by decide +kernel
theorem dX9_passes_118 : decode cX9_passes 118 = .ok (.iload_n 3, 1) := by decide +kernel
theorem dX9_passes_119 : decode cX9_passes 119 = .ok (.invokevirtual 116, 3) := by decide +kernel
theorem dX9_passes_122 : decode cX9_passes 122 = .ok (.ifCond .eq 11, 3) := by decide +kernel
theorem dX9_passes_125 : decode cX9_passes 125 = .ok (.aload_n 1, 1) := by decide +kernel
theorem dX9_passes_126 : decode cX9_passes 126 = .ok (.iconst 1, 1) := by decide +kernel
theorem dX9_passes_127 : decode cX9_passes 127 = .ok (.iload_n 3, 1) := by decide +kernel
theorem dX9_passes_128 : decode cX9_passes 128 = .ok (.iadd, 1) := by decide +kernel
theorem dX9_passes_129 : decode cX9_passes 129 = .ok (.iaload, 1) := by decide +kernel
theorem dX9_passes_130 : decode cX9_passes 130 = .ok (.goto 4, 3) := by decide +kernel
theorem dX9_passes_133 : decode cX9_passes 133 = .ok (.iconst 0, 1) := by decide +kernel
theorem dX9_passes_134 : decode cX9_passes 134 = .ok (.iastore, 1) := by decide +kernel
theorem dX9_passes_135 : decode cX9_passes 135 = .ok (.iinc 3 1, 3) := by decide +kernel
theorem dX9_passes_138 : decode cX9_passes 138 = .ok (.goto (-91), 3) := by decide +kernel
theorem dX9_passes_141 : decode cX9_passes 141 = .ok (.aload_n 1, 1) := by decide +kernel
theorem dX9_passes_142 : decode cX9_passes 142 = .ok (.iconst 0, 1) := by decide +kernel
theorem dX9_passes_143 : decode cX9_passes 143 = .ok (.dup2, 1) := by decide +kernel
theorem dX9_passes_144 : decode cX9_passes 144 = .ok (.iaload, 1) := by decide +kernel
theorem dX9_passes_145 : decode cX9_passes 145 = .ok (.iconst 1, 1) := by decide +kernel
theorem dX9_passes_146 : decode cX9_passes 146 = .ok (.iadd, 1) := by decide +kernel
theorem dX9_passes_147 : decode cX9_passes 147 = .ok (.iastore, 1) := by decide +kernel
theorem dX9_passes_148 : decode cX9_passes 148 = .ok (.return_, 1) := by decide +kernel
theorem dX9_goes_0 : decode cX9_goes 0 = .ok (.aload_n 0, 1) := by decide +kernel
theorem dX9_goes_1 : decode cX9_goes 1 = .ok (.aload_n 1, 1) := by decide +kernel
theorem dX9_goes_2 : decode cX9_goes 2 = .ok (.aload_n 0, 1) := by decide +kernel
theorem dX9_goes_3 : decode cX9_goes 3 = .ok (.aload_n 1, 1) := by decide +kernel
theorem dX9_goes_4 : decode cX9_goes 4 = .ok (.iconst 0, 1) := by decide +kernel
theorem dX9_goes_5 : decode cX9_goes 5 = .ok (.iaload, 1) := by decide +kernel
theorem dX9_goes_6 : decode cX9_goes 6 = .ok (.invokevirtual 130, 3) := by decide +kernel
theorem dX9_goes_9 : decode cX9_goes 9 = .ok (.invokevirtual 133, 3) := by decide +kernel
theorem dX9_goes_12 : decode cX9_goes 12 = .ok (.return_, 1) := by decide +kernel
theorem dX9_gap_0 : decode cX9_gap 0 = .ok (.aload_n 0, 1) := by decide +kernel
theorem dX9_gap_1 : decode cX9_gap 1 = .ok (.iload_n 1, 1) := by decide +kernel
theorem dX9_gap_2 : decode cX9_gap 2 = .ok (.invokevirtual 137, 3) := by decide +kernel
theorem dX9_gap_5 : decode cX9_gap 5 = .ok (.ifCond .eq 13, 3) := by decide +kernel
theorem dX9_gap_8 : decode cX9_gap 8 = .ok (.iload_n 2, 1) := by decide +kernel
theorem dX9_gap_9 : decode cX9_gap 9 = .ok (.iconst 0, 1) := by decide +kernel
theorem dX9_gap_10 : decode cX9_gap 10 = .ok (.bipush 6, 2) := by decide +kernel
theorem dX9_gap_12 : decode cX9_gap 12 = .ok (.invokestatic 54, 3) := by decide +kernel
theorem dX9_gap_15 : decode cX9_gap 15 = .ok (.ifCond .ne 7, 3) := by decide +kernel
theorem dX9_gap_18 : decode cX9_gap 18 = .ok (.iconst (-1), 1) := by decide +kernel
theorem dX9_gap_19 : decode cX9_gap 19 = .ok (.goto 50, 3) := by decide +kernel
theorem dX9_gap_22 : decode cX9_gap 22 = .ok (.iload_n 2, 1) := by decide +kernel
theorem dX9_gap_23 : decode cX9_gap 23 = .ok (.iconst 5, 1) := by decide +kernel
theorem dX9_gap_24 : decode cX9_gap 24 = .ok (.if_icmp .ge 12, 3) := by decide +kernel
theorem dX9_gap_27 : decode cX9_gap 27 = .ok (.aload_n 0, 1) := by decide +kernel
theorem dX9_gap_28 : decode cX9_gap 28 = .ok (.iload_n 1, 1) := by decide +kernel
theorem dX9_gap_29 : decode cX9_gap 29 = .ok (.iload_n 2, 1) := by decide +kernel
theorem dX9_gap_30 : decode cX9_gap 30 = .ok (.invokevirtual 112, 3) := by decide +kernel
theorem dX9_gap_33 : decode cX9_gap 33 = .ok (.goto 36, 3) := by decide +kernel
theorem dX9_gap_36 : decode cX9_gap 36 = .ok (.iload_n 2, 1) := by decide +kernel
theorem dX9_gap_37 : decode cX9_gap 37 = .ok (.iconst 5, 1) := by decide +kernel
theorem dX9_gap_38 : decode cX9_gap 38 = .ok (.if_icmp .ne 14, 3) := by decide +kernel
theorem dX9_gap_41 : decode cX9_gap 41 = .ok (.aload_n 0, 1) := by decide +kernel
theorem dX9_gap_42 : decode cX9_gap 42 = .ok (.getfield 25, 3) := by decide +kernel
theorem dX9_gap_45 : decode cX9_gap 45 = .ok (.iconst 1, 1) := by decide +kernel
theorem dX9_gap_46 : decode cX9_gap 46 = .ok (.iload_n 1, 1) := by decide +kernel
theorem dX9_gap_47 : decode cX9_gap 47 = .ok (.iadd, 1) := by decide +kernel
theorem dX9_gap_48 : decode cX9_gap 48 = .ok (.iaload, 1) := by decide +kernel
theorem dX9_gap_49 : decode cX9_gap 49 = .ok (.goto 20, 3) := by decide +kernel
theorem dX9_gap_52 : decode cX9_gap 52 = .ok (.aload_n 0, 1) := by decide +kernel
theorem dX9_gap_53 : decode cX9_gap 53 = .ok (.aload_n 0, 1) := by decide +kernel
theorem dX9_gap_54 : decode cX9_gap 54 = .ok (.getfield 25, 3) := by decide +kernel
theorem dX9_gap_57 : decode cX9_gap 57 = .ok (.iload_n 1, 1) := by decide +kernel
theorem dX9_gap_58 : decode cX9_gap 58 = .ok (.invokevirtual 116, 3) := by decide +kernel
theorem dX9_gap_61 : decode cX9_gap 61 = .ok (.ifCond .eq 7, 3) := by decide +kernel
theorem dX9_gap_64 : decode cX9_gap 64 = .ok (.iconst 1, 1) := by decide +kernel
theorem dX9_gap_65 : decode cX9_gap 65 = .ok (.goto 4, 3) := by decide +kernel
theorem dX9_gap_68 : decode cX9_gap 68 = .ok (.iconst 0, 1) := by decide +kernel
theorem dX9_gap_69 : decode cX9_gap 69 = .ok (.ireturn, 1) := by decide +kernel
theorem dX9_stitcher_0 : decode cX9_stitcher 0 = .ok (.aload_n 0, 1) := by decide +kernel
theorem dX9_stitcher_1 : decode cX9_stitcher 1 = .ok (.iload_n 1, 1) := by decide +kernel
theorem dX9_stitcher_2 : decode cX9_stitcher 2 = .ok (.invokevirtual 140, 3) := by decide +kernel
theorem dX9_stitcher_5 : decode cX9_stitcher 5 = .ok (.ifCond .eq 12, 3) := by decide +kernel
theorem dX9_stitcher_8 : decode cX9_stitcher 8 = .ok (.iload_n 2, 1) := by decide +kernel
theorem dX9_stitcher_9 : decode cX9_stitcher 9 = .ok (.iconst 0, 1) := by decide +kernel
theorem dX9_stitcher_10 : decode cX9_stitcher 10 = .ok (.iconst 3, 1) := by decide +kernel
theorem dX9_stitcher_11 : decode cX9_stitcher 11 = .ok (.invokestatic 54, 3) := by decide +kernel
theorem dX9_stitcher_14 : decode cX9_stitcher 14 = .ok (.ifCond .ne 7, 3) := by decide +kernel
theorem dX9_stitcher_17 : decode cX9_stitcher 17 = .ok (.iconst (-1), 1) := by decide +kernel
theorem dX9_stitcher_18 : decode cX9_stitcher 18 = .ok (.goto 68, 3) := by decide +kernel
theorem dX9_stitcher_21 : decode cX9_stitcher 21 = .ok (.iload_n 2, 1) := by decide +kernel
theorem dX9_stitcher_22 : decode cX9_stitcher 22 = .ok (.ifCond .ne 17, 3) := by decide +kernel
theorem dX9_stitcher_25 : decode cX9_stitcher 25 = .ok (.aload_n 0, 1) := by decide +kernel
theorem dX9_stitcher_26 : decode cX9_stitcher 26 = .ok (.getfield 22, 3) := by decide +kernel
theorem dX9_stitcher_29 : decode cX9_stitcher 29 = .ok (.bipush 57, 2) := by decide +kernel
theorem dX9_stitcher_31 : decode cX9_stitcher 31 = .ok (.iconst 2, 1) := by decide +kernel
theorem dX9_stitcher_32 : decode cX9_stitcher 32 = .ok (.iload_n 1, 1) := by decide +kernel
theorem dX9_stitcher_33 : decode cX9_stitcher 33 = .ok (.imul, 1) := by decide +kernel
theorem dX9_stitcher_34 : decode cX9_stitcher 34 = .ok (.iadd, 1) := by decide +kernel
theorem dX9_stitcher_35 : decode cX9_stitcher 35 = .ok (.iaload, 1) := by decide +kernel
theorem dX9_stitcher_36 : decode cX9_stitcher 36 = .ok (.goto 50, 3) := by decide +kernel
theorem dX9_stitcher_39 : decode cX9_stitcher 39 = .ok (.iload_n 2, 1) := by decide +kernel
theorem dX9_stitcher_40 : decode cX9_stitcher 40 = .ok (.iconst 1, 1) := by decide +kernel
theorem dX9_stitcher_41 : decode cX9_stitcher 41 = .ok (.if_icmp .ne 15, 3) := by decide +kernel
theorem dX9_stitcher_44 : decode cX9_stitcher 44 = .ok (.aload_n 0, 1) := by decide +kernel
theorem dX9_stitcher_45 : decode cX9_stitcher 45 = .ok (.getfield 25, 3) := by decide +kernel
theorem dX9_stitcher_48 : decode cX9_stitcher 48 = .ok (.bipush 9, 2) := by decide +kernel
theorem dX9_stitcher_50 : decode cX9_stitcher 50 = .ok (.iload_n 1, 1) := by decide +kernel
theorem dX9_stitcher_51 : decode cX9_stitcher 51 = .ok (.iadd, 1) := by decide +kernel
theorem dX9_stitcher_52 : decode cX9_stitcher 52 = .ok (.iaload, 1) := by decide +kernel
theorem dX9_stitcher_53 : decode cX9_stitcher 53 = .ok (.goto 33, 3) := by decide +kernel
theorem dX9_stitcher_56 : decode cX9_stitcher 56 = .ok (.iload_n 2, 1) := by decide +kernel
theorem dX9_stitcher_57 : decode cX9_stitcher 57 = .ok (.iconst 2, 1) := by decide +kernel
theorem dX9_stitcher_58 : decode cX9_stitcher 58 = .ok (.if_icmp .ne 19, 3) := by decide +kernel
theorem dX9_stitcher_61 : decode cX9_stitcher 61 = .ok (.aload_n 0, 1) := by decide +kernel
theorem dX9_stitcher_62 : decode cX9_stitcher 62 = .ok (.getfield 22, 3) := by decide +kernel
theorem dX9_stitcher_65 : decode cX9_stitcher 65 = .ok (.bipush 57, 2) := by decide +kernel
theorem dX9_stitcher_67 : decode cX9_stitcher 67 = .ok (.iconst 2, 1) := by decide +kernel
theorem dX9_stitcher_68 : decode cX9_stitcher 68 = .ok (.iload_n 1, 1) := by decide +kernel
theorem dX9_stitcher_69 : decode cX9_stitcher 69 = .ok (.imul, 1) := by decide +kernel
theorem dX9_stitcher_70 : decode cX9_stitcher 70 = .ok (.iadd, 1) := by decide +kernel
theorem dX9_stitcher_71 : decode cX9_stitcher 71 = .ok (.iconst 1, 1) := by decide +kernel
theorem dX9_stitcher_72 : decode cX9_stitcher 72 = .ok (.iadd, 1) := by decide +kernel
theorem dX9_stitcher_73 : decode cX9_stitcher 73 = .ok (.iaload, 1) := by decide +kernel
theorem dX9_stitcher_74 : decode cX9_stitcher 74 = .ok (.goto 12, 3) := by decide +kernel
theorem dX9_stitcher_77 : decode cX9_stitcher 77 = .ok (.aload_n 0, 1) := by decide +kernel
theorem dX9_stitcher_78 : decode cX9_stitcher 78 = .ok (.getfield 25, 3) := by decide +kernel
theorem dX9_stitcher_81 : decode cX9_stitcher 81 = .ok (.bipush 13, 2) := by decide +kernel
theorem dX9_stitcher_83 : decode cX9_stitcher 83 = .ok (.iload_n 1, 1) := by decide +kernel
theorem dX9_stitcher_84 : decode cX9_stitcher 84 = .ok (.iadd, 1) := by decide +kernel
theorem dX9_stitcher_85 : decode cX9_stitcher 85 = .ok (.iaload, 1) := by decide +kernel
theorem dX9_stitcher_86 : decode cX9_stitcher 86 = .ok (.ireturn, 1) := by decide +kernel
theorem dX9_sky_0 : decode cX9_sky 0 = .ok (.iload_n 1, 1) := by decide +kernel
theorem dX9_sky_1 : decode cX9_sky 1 = .ok (.iconst 0, 1) := by decide +kernel
theorem dX9_sky_2 : decode cX9_sky 2 = .ok (.bipush 99, 2) := by decide +kernel
theorem dX9_sky_4 : decode cX9_sky 4 = .ok (.invokestatic 54, 3) := by decide +kernel
theorem dX9_sky_7 : decode cX9_sky 7 = .ok (.ifCond .eq 12, 3) := by decide +kernel
theorem dX9_sky_10 : decode cX9_sky 10 = .ok (.iload_n 2, 1) := by decide +kernel
theorem dX9_sky_11 : decode cX9_sky 11 = .ok (.iconst 0, 1) := by decide +kernel
theorem dX9_sky_12 : decode cX9_sky 12 = .ok (.iconst 1, 1) := by decide +kernel
theorem dX9_sky_13 : decode cX9_sky 13 = .ok (.invokestatic 54, 3) := by decide +kernel
theorem dX9_sky_16 : decode cX9_sky 16 = .ok (.ifCond .ne 5, 3) := by decide +kernel
theorem dX9_sky_19 : decode cX9_sky 19 = .ok (.iconst (-1), 1) := by decide +kernel
theorem dX9_sky_20 : decode cX9_sky 20 = .ok (.ireturn, 1) := by decide +kernel
theorem dX9_sky_21 : decode cX9_sky 21 = .ok (.iload_n 2, 1) := by decide +kernel
theorem dX9_sky_22 : decode cX9_sky 22 = .ok (.ifCond .ne 21, 3) := by decide +kernel
theorem dX9_sky_25 : decode cX9_sky 25 = .ok (.aload_n 0, 1) := by decide +kernel
theorem dX9_sky_26 : decode cX9_sky 26 = .ok (.aload_n 0, 1) := by decide +kernel
theorem dX9_sky_27 : decode cX9_sky 27 = .ok (.getfield 25, 3) := by decide +kernel
theorem dX9_sky_30 : decode cX9_sky 30 = .ok (.iconst 0, 1) := by decide +kernel
theorem dX9_sky_31 : decode cX9_sky 31 = .ok (.iaload, 1) := by decide +kernel
theorem dX9_sky_32 : decode cX9_sky 32 = .ok (.iload_n 1, 1) := by decide +kernel
theorem dX9_sky_33 : decode cX9_sky 33 = .ok (.iadd, 1) := by decide +kernel
theorem dX9_sky_34 : decode cX9_sky 34 = .ok (.invokevirtual 123, 3) := by decide +kernel
theorem dX9_sky_37 : decode cX9_sky 37 = .ok (.ifCond .eq 25, 3) := by decide +kernel
theorem dX9_sky_40 : decode cX9_sky 40 = .ok (.goto 18, 3) := by decide +kernel
theorem dX9_sky_43 : decode cX9_sky 43 = .ok (.aload_n 0, 1) := by decide +kernel
theorem dX9_sky_44 : decode cX9_sky 44 = .ok (.aload_n 0, 1) := by decide +kernel
theorem dX9_sky_45 : decode cX9_sky 45 = .ok (.getfield 25, 3) := by decide +kernel
theorem dX9_sky_48 : decode cX9_sky 48 = .ok (.iconst 0, 1) := by decide +kernel
theorem dX9_sky_49 : decode cX9_sky 49 = .ok (.iaload, 1) := by decide +kernel
theorem dX9_sky_50 : decode cX9_sky 50 = .ok (.iload_n 1, 1) := by decide +kernel
theorem dX9_sky_51 : decode cX9_sky 51 = .ok (.iadd, 1) := by decide +kernel
theorem dX9_sky_52 : decode cX9_sky 52 = .ok (.invokevirtual 130, 3) := by decide +kernel
theorem dX9_sky_55 : decode cX9_sky 55 = .ok (.ifCond .eq 7, 3) := by decide +kernel
theorem dX9_sky_58 : decode cX9_sky 58 = .ok (.iconst 1, 1) := by decide +kernel
theorem dX9_sky_59 : decode cX9_sky 59 = .ok (.goto 4, 3) := by decide +kernel
theorem dX9_sky_62 : decode cX9_sky 62 = .ok (.iconst 0, 1) := by decide +kernel
theorem dX9_sky_63 : decode cX9_sky 63 = .ok (.ireturn, 1) := by decide +kernel
theorem dX9_onward_0 : decode cX9_onward 0 = .ok (.iload_n 1, 1) := by decide +kernel
theorem dX9_onward_1 : decode cX9_onward 1 = .ok (.istore_n 3, 1) := by decide +kernel
theorem dX9_onward_2 : decode cX9_onward 2 = .ok (.iconst 0, 1) := by decide +kernel
theorem dX9_onward_3 : decode cX9_onward 3 = .ok (.istore 4, 2) := by decide +kernel
theorem dX9_onward_5 : decode cX9_onward 5 = .ok (.iload 4, 2) := by decide +kernel
theorem dX9_onward_7 : decode cX9_onward 7 = .ok (.aload_n 0, 1) := by decide +kernel
theorem dX9_onward_8 : decode cX9_onward 8 = .ok (.getfield 22, 3) := by decide +kernel
theorem dX9_onward_11 : decode cX9_onward 11 = .ok (.iconst 1, 1) := by decide +kernel
theorem dX9_onward_12 : decode cX9_onward 12 = .ok (.iaload, 1) := by decide +kernel
theorem dX9_onward_13 : decode cX9_onward 13 = .ok (.if_icmp .ge 55, 3) := by decide +kernel
theorem dX9_onward_16 : decode cX9_onward 16 = .ok (.iconst 1, 1) := by decide +kernel
theorem dX9_onward_17 : decode cX9_onward 17 = .ok (.aload_n 0, 1) := by decide +kernel
theorem dX9_onward_18 : decode cX9_onward 18 = .ok (.iload 4, 2) := by decide +kernel
theorem dX9_onward_20 : decode cX9_onward 20 = .ok (.iconst 1, 1) := by decide +kernel
theorem dX9_onward_21 : decode cX9_onward 21 = .ok (.invokevirtual 112, 3) := by decide +kernel
theorem dX9_onward_24 : decode cX9_onward 24 = .ok (.ishl, 1) := by decide +kernel
theorem dX9_onward_25 : decode cX9_onward 25 = .ok (.iconst 1, 1) := by decide +kernel
theorem dX9_onward_26 : decode cX9_onward 26 = .ok (.aload_n 0, 1) := by decide +kernel
theorem dX9_onward_27 : decode cX9_onward 27 = .ok (.iload 4, 2) := by decide +kernel
theorem dX9_onward_29 : decode cX9_onward 29 = .ok (.iconst 2, 1) := by decide +kernel
theorem dX9_onward_30 : decode cX9_onward 30 = .ok (.invokevirtual 112, 3) := by decide +kernel
theorem dX9_onward_33 : decode cX9_onward 33 = .ok (.ishl, 1) := by decide +kernel
theorem dX9_onward_34 : decode cX9_onward 34 = .ok (.ior, 1) := by decide +kernel
theorem dX9_onward_35 : decode cX9_onward 35 = .ok (.istore 5, 2) := by decide +kernel
theorem dX9_onward_37 : decode cX9_onward 37 = .ok (.iload_n 3, 1) := by decide +kernel
theorem dX9_onward_38 : decode cX9_onward 38 = .ok (.iload_n 2, 1) := by decide +kernel
theorem dX9_onward_39 : decode cX9_onward 39 = .ok (.iload 4, 2) := by decide +kernel
theorem dX9_onward_41 : decode cX9_onward 41 = .ok (.invokestatic 143, 3) := by decide +kernel
theorem dX9_onward_44 : decode cX9_onward 44 = .ok (.ifCond .eq 15, 3) := by decide +kernel
theorem dX9_onward_47 : decode cX9_onward 47 = .ok (.iload_n 1, 1) := by decide +kernel
theorem dX9_onward_48 : decode cX9_onward 48 = .ok (.iload 5, 2) := by decide +kernel
theorem dX9_onward_50 : decode cX9_onward 50 = .ok (.iand, 1) := by decide +kernel
theorem dX9_onward_51 : decode cX9_onward 51 = .ok (.ifCond .eq 8, 3) := by decide +kernel
theorem dX9_onward_54 : decode cX9_onward 54 = .ok (.iload 5, 2) := by decide +kernel
theorem dX9_onward_56 : decode cX9_onward 56 = .ok (.goto 4, 3) := by decide +kernel
theorem dX9_onward_59 : decode cX9_onward 59 = .ok (.iconst 0, 1) := by decide +kernel
theorem dX9_onward_60 : decode cX9_onward 60 = .ok (.ior, 1) := by decide +kernel
theorem dX9_onward_61 : decode cX9_onward 61 = .ok (.istore_n 3, 1) := by decide +kernel
theorem dX9_onward_62 : decode cX9_onward 62 = .ok (.iinc 4 1, 3) := by decide +kernel
theorem dX9_onward_65 : decode cX9_onward 65 = .ok (.goto (-60), 3) := by decide +kernel
theorem dX9_onward_68 : decode cX9_onward 68 = .ok (.iload_n 3, 1) := by decide +kernel
theorem dX9_onward_69 : decode cX9_onward 69 = .ok (.ireturn, 1) := by decide +kernel
theorem dX9_reached_0 : decode cX9_reached 0 = .ok (.iconst 1, 1) := by decide +kernel
theorem dX9_reached_1 : decode cX9_reached 1 = .ok (.iload_n 1, 1) := by decide +kernel
theorem dX9_reached_2 : decode cX9_reached 2 = .ok (.ishl, 1) := by decide +kernel
theorem dX9_reached_3 : decode cX9_reached 3 = .ok (.istore_n 3, 1) := by decide +kernel
theorem dX9_reached_4 : decode cX9_reached 4 = .ok (.iconst 0, 1) := by decide +kernel
theorem dX9_reached_5 : decode cX9_reached 5 = .ok (.istore 4, 2) := by decide +kernel
theorem dX9_reached_7 : decode cX9_reached 7 = .ok (.iload 4, 2) := by decide +kernel
theorem dX9_reached_9 : decode cX9_reached 9 = .ok (.aload_n 0, 1) := by decide +kernel
theorem dX9_reached_10 : decode cX9_reached 10 = .ok (.getfield 22, 3) := by decide +kernel
theorem dX9_reached_13 : decode cX9_reached 13 = .ok (.iconst 0, 1) := by decide +kernel
theorem dX9_reached_14 : decode cX9_reached 14 = .ok (.iaload, 1) := by decide +kernel
theorem dX9_reached_15 : decode cX9_reached 15 = .ok (.if_icmp .ge 16, 3) := by decide +kernel
theorem dX9_reached_18 : decode cX9_reached 18 = .ok (.aload_n 0, 1) := by decide +kernel
theorem dX9_reached_19 : decode cX9_reached 19 = .ok (.iload_n 3, 1) := by decide +kernel
theorem dX9_reached_20 : decode cX9_reached 20 = .ok (.iload_n 2, 1) := by decide +kernel
theorem dX9_reached_21 : decode cX9_reached 21 = .ok (.invokevirtual 147, 3) := by decide +kernel
theorem dX9_reached_24 : decode cX9_reached 24 = .ok (.istore_n 3, 1) := by decide +kernel
theorem dX9_reached_25 : decode cX9_reached 25 = .ok (.iinc 4 1, 3) := by decide +kernel
theorem dX9_reached_28 : decode cX9_reached 28 = .ok (.goto (-21), 3) := by decide +kernel
theorem dX9_reached_31 : decode cX9_reached 31 = .ok (.iload_n 3, 1) := by decide +kernel
theorem dX9_reached_32 : decode cX9_reached 32 = .ok (.ireturn, 1) := by decide +kernel
theorem dX9_pairs_0 : decode cX9_pairs 0 = .ok (.iconst 0, 1) := by decide +kernel
theorem dX9_pairs_1 : decode cX9_pairs 1 = .ok (.istore_n 2, 1) := by decide +kernel
theorem dX9_pairs_2 : decode cX9_pairs 2 = .ok (.iconst 0, 1) := by decide +kernel
theorem dX9_pairs_3 : decode cX9_pairs 3 = .ok (.istore_n 3, 1) := by decide +kernel
theorem dX9_pairs_4 : decode cX9_pairs 4 = .ok (.iload_n 3, 1) := by decide +kernel
theorem dX9_pairs_5 : decode cX9_pairs 5 = .ok (.aload_n 0, 1) := by decide +kernel
theorem dX9_pairs_6 : decode cX9_pairs 6 = .ok (.getfield 22, 3) := by decide +kernel
theorem dX9_pairs_9 : decode cX9_pairs 9 = .ok (.iconst 0, 1) := by decide +kernel
theorem dX9_pairs_10 : decode cX9_pairs 10 = .ok (.iaload, 1) := by decide +kernel
theorem dX9_pairs_11 : decode cX9_pairs 11 = .ok (.if_icmp .ge 23, 3) := by decide +kernel
theorem dX9_pairs_14 : decode cX9_pairs 14 = .ok (.iload_n 2, 1) := by decide +kernel
theorem dX9_pairs_15 : decode cX9_pairs 15 = .ok (.aload_n 0, 1) := by decide +kernel
theorem dX9_pairs_16 : decode cX9_pairs 16 = .ok (.iload_n 3, 1) := by decide +kernel
theorem dX9_pairs_17 : decode cX9_pairs 17 = .ok (.iload_n 1, 1) := by decide +kernel
theorem dX9_pairs_18 : decode cX9_pairs 18 = .ok (.invokevirtual 150, 3) := by decide +kernel
theorem dX9_pairs_21 : decode cX9_pairs 21 = .ok (.invokestatic 153, 3) := by decide +kernel
theorem dX9_pairs_24 : decode cX9_pairs 24 = .ok (.iconst 1, 1) := by decide +kernel
theorem dX9_pairs_25 : decode cX9_pairs 25 = .ok (.isub, 1) := by decide +kernel
theorem dX9_pairs_26 : decode cX9_pairs 26 = .ok (.iadd, 1) := by decide +kernel
theorem dX9_pairs_27 : decode cX9_pairs 27 = .ok (.istore_n 2, 1) := by decide +kernel
theorem dX9_pairs_28 : decode cX9_pairs 28 = .ok (.iinc 3 1, 3) := by decide +kernel
theorem dX9_pairs_31 : decode cX9_pairs 31 = .ok (.goto (-27), 3) := by decide +kernel
theorem dX9_pairs_34 : decode cX9_pairs 34 = .ok (.iload_n 2, 1) := by decide +kernel
theorem dX9_pairs_35 : decode cX9_pairs 35 = .ok (.iconst 2, 1) := by decide +kernel
theorem dX9_pairs_36 : decode cX9_pairs 36 = .ok (.idiv, 1) := by decide +kernel
theorem dX9_pairs_37 : decode cX9_pairs 37 = .ok (.ireturn, 1) := by decide +kernel
theorem dX9_heaps_0 : decode cX9_heaps 0 = .ok (.iconst 0, 1) := by decide +kernel
theorem dX9_heaps_1 : decode cX9_heaps 1 = .ok (.istore_n 2, 1) := by decide +kernel
theorem dX9_heaps_2 : decode cX9_heaps 2 = .ok (.iconst 0, 1) := by decide +kernel
theorem dX9_heaps_3 : decode cX9_heaps 3 = .ok (.istore_n 3, 1) := by decide +kernel
theorem dX9_heaps_4 : decode cX9_heaps 4 = .ok (.iconst 0, 1) := by decide +kernel
theorem dX9_heaps_5 : decode cX9_heaps 5 = .ok (.istore 4, 2) := by decide +kernel
theorem dX9_heaps_7 : decode cX9_heaps 7 = .ok (.iload 4, 2) := by decide +kernel
theorem dX9_heaps_9 : decode cX9_heaps 9 = .ok (.aload_n 0, 1) := by decide +kernel
theorem dX9_heaps_10 : decode cX9_heaps 10 = .ok (.getfield 22, 3) := by decide +kernel
theorem dX9_heaps_13 : decode cX9_heaps 13 = .ok (.iconst 0, 1) := by decide +kernel
theorem dX9_heaps_14 : decode cX9_heaps 14 = .ok (.iaload, 1) := by decide +kernel
theorem dX9_heaps_15 : decode cX9_heaps 15 = .ok (.if_icmp .ge 36, 3) := by decide +kernel
theorem dX9_heaps_18 : decode cX9_heaps 18 = .ok (.iload_n 2, 1) := by decide +kernel
theorem dX9_heaps_19 : decode cX9_heaps 19 = .ok (.iload_n 3, 1) := by decide +kernel
theorem dX9_heaps_20 : decode cX9_heaps 20 = .ok (.iload 4, 2) := by decide +kernel
theorem dX9_heaps_22 : decode cX9_heaps 22 = .ok (.invokestatic 143, 3) := by decide +kernel
theorem dX9_heaps_25 : decode cX9_heaps 25 = .ok (.ifCond .eq 7, 3) := by decide +kernel
theorem dX9_heaps_28 : decode cX9_heaps 28 = .ok (.iconst 0, 1) := by decide +kernel
theorem dX9_heaps_29 : decode cX9_heaps 29 = .ok (.goto 4, 3) := by decide +kernel
theorem dX9_heaps_32 : decode cX9_heaps 32 = .ok (.iconst 1, 1) := by decide +kernel
theorem dX9_heaps_33 : decode cX9_heaps 33 = .ok (.iadd, 1) := by decide +kernel
theorem dX9_heaps_34 : decode cX9_heaps 34 = .ok (.istore_n 2, 1) := by decide +kernel
theorem dX9_heaps_35 : decode cX9_heaps 35 = .ok (.iload_n 3, 1) := by decide +kernel
theorem dX9_heaps_36 : decode cX9_heaps 36 = .ok (.aload_n 0, 1) := by decide +kernel
theorem dX9_heaps_37 : decode cX9_heaps 37 = .ok (.iload 4, 2) := by decide +kernel
theorem dX9_heaps_39 : decode cX9_heaps 39 = .ok (.iload_n 1, 1) := by decide +kernel
theorem dX9_heaps_40 : decode cX9_heaps 40 = .ok (.invokevirtual 150, 3) := by decide +kernel
theorem dX9_heaps_43 : decode cX9_heaps 43 = .ok (.ior, 1) := by decide +kernel
theorem dX9_heaps_44 : decode cX9_heaps 44 = .ok (.istore_n 3, 1) := by decide +kernel
theorem dX9_heaps_45 : decode cX9_heaps 45 = .ok (.iinc 4 1, 3) := by decide +kernel
theorem dX9_heaps_48 : decode cX9_heaps 48 = .ok (.goto (-41), 3) := by decide +kernel
theorem dX9_heaps_51 : decode cX9_heaps 51 = .ok (.iload_n 2, 1) := by decide +kernel
theorem dX9_heaps_52 : decode cX9_heaps 52 = .ok (.ireturn, 1) := by decide +kernel
theorem dX9_together_0 : decode cX9_together 0 = .ok (.aload_n 0, 1) := by decide +kernel
theorem dX9_together_1 : decode cX9_together 1 = .ok (.iload_n 1, 1) := by decide +kernel
theorem dX9_together_2 : decode cX9_together 2 = .ok (.invokevirtual 156, 3) := by decide +kernel
theorem dX9_together_5 : decode cX9_together 5 = .ok (.ifCond .eq 31, 3) := by decide +kernel
theorem dX9_together_8 : decode cX9_together 8 = .ok (.aload_n 0, 1) := by decide +kernel
theorem dX9_together_9 : decode cX9_together 9 = .ok (.iload_n 2, 1) := by decide +kernel
theorem dX9_together_10 : decode cX9_together 10 = .ok (.invokevirtual 156, 3) := by decide +kernel
theorem dX9_together_13 : decode cX9_together 13 = .ok (.ifCond .eq 23, 3) := by decide +kernel
theorem dX9_together_16 : decode cX9_together 16 = .ok (.aload_n 0, 1) := by decide +kernel
theorem dX9_together_17 : decode cX9_together 17 = .ok (.iload_n 1, 1) := by decide +kernel
theorem dX9_together_18 : decode cX9_together 18 = .ok (.aload_n 0, 1) := by decide +kernel
theorem dX9_together_19 : decode cX9_together 19 = .ok (.aload_n 0, 1) := by decide +kernel
theorem dX9_together_20 : decode cX9_together 20 = .ok (.getfield 25, 3) := by decide +kernel
theorem dX9_together_23 : decode cX9_together 23 = .ok (.invokevirtual 159, 3) := by decide +kernel
theorem dX9_together_26 : decode cX9_together 26 = .ok (.invokevirtual 150, 3) := by decide +kernel
theorem dX9_together_29 : decode cX9_together 29 = .ok (.iload_n 2, 1) := by decide +kernel
theorem dX9_together_30 : decode cX9_together 30 = .ok (.ishr, 1) := by decide +kernel
theorem dX9_together_31 : decode cX9_together 31 = .ok (.iconst 1, 1) := by decide +kernel
theorem dX9_together_32 : decode cX9_together 32 = .ok (.iand, 1) := by decide +kernel
theorem dX9_together_33 : decode cX9_together 33 = .ok (.goto 4, 3) := by decide +kernel
theorem dX9_together_36 : decode cX9_together 36 = .ok (.iconst (-1), 1) := by decide +kernel
theorem dX9_together_37 : decode cX9_together 37 = .ok (.ireturn, 1) := by decide +kernel
theorem dX9_remember_0 : decode cX9_remember 0 = .ok (.iconst 0, 1) := by decide +kernel
theorem dX9_remember_1 : decode cX9_remember 1 = .ok (.istore_n 1, 1) := by decide +kernel
theorem dX9_remember_2 : decode cX9_remember 2 = .ok (.iload_n 1, 1) := by decide +kernel
theorem dX9_remember_3 : decode cX9_remember 3 = .ok (.bipush 17, 2) := by decide +kernel
theorem dX9_remember_5 : decode cX9_remember 5 = .ok (.if_icmp .ge 29, 3) := by decide +kernel
theorem dX9_remember_8 : decode cX9_remember 8 = .ok (.aload_n 0, 1) := by decide +kernel
theorem dX9_remember_9 : decode cX9_remember 9 = .ok (.getfield 31, 3) := by decide +kernel
theorem dX9_remember_12 : decode cX9_remember 12 = .ok (.bipush 17, 2) := by decide +kernel
theorem dX9_remember_14 : decode cX9_remember 14 = .ok (.aload_n 0, 1) := by decide +kernel
theorem dX9_remember_15 : decode cX9_remember 15 = .ok (.getfield 163, 3) := by decide +kernel
theorem dX9_remember_18 : decode cX9_remember 18 = .ok (.imul, 1) := by decide +kernel
theorem dX9_remember_19 : decode cX9_remember 19 = .ok (.iload_n 1, 1) := by decide +kernel
theorem dX9_remember_20 : decode cX9_remember 20 = .ok (.iadd, 1) := by decide +kernel
theorem dX9_remember_21 : decode cX9_remember 21 = .ok (.aload_n 0, 1) := by decide +kernel
theorem dX9_remember_22 : decode cX9_remember 22 = .ok (.getfield 25, 3) := by decide +kernel
theorem dX9_remember_25 : decode cX9_remember 25 = .ok (.iload_n 1, 1) := by decide +kernel
theorem dX9_remember_26 : decode cX9_remember 26 = .ok (.iaload, 1) := by decide +kernel
theorem dX9_remember_27 : decode cX9_remember 27 = .ok (.iastore, 1) := by decide +kernel
theorem dX9_remember_28 : decode cX9_remember 28 = .ok (.iinc 1 1, 3) := by decide +kernel
theorem dX9_remember_31 : decode cX9_remember 31 = .ok (.goto (-29), 3) := by decide +kernel
theorem dX9_remember_34 : decode cX9_remember 34 = .ok (.aload_n 0, 1) := by decide +kernel
theorem dX9_remember_35 : decode cX9_remember 35 = .ok (.aload_n 0, 1) := by decide +kernel
theorem dX9_remember_36 : decode cX9_remember 36 = .ok (.getfield 163, 3) := by decide +kernel
theorem dX9_remember_39 : decode cX9_remember 39 = .ok (.iconst 1, 1) := by decide +kernel
theorem dX9_remember_40 : decode cX9_remember 40 = .ok (.iadd, 1) := by decide +kernel
theorem dX9_remember_41 : decode cX9_remember 41 = .ok (.bipush 8, 2) := by decide +kernel
theorem dX9_remember_43 : decode cX9_remember 43 = .ok (.irem, 1) := by decide +kernel
theorem dX9_remember_44 : decode cX9_remember 44 = .ok (.putfield 163, 3) := by decide +kernel
theorem dX9_remember_47 : decode cX9_remember 47 = .ok (.aload_n 0, 1) := by decide +kernel
theorem dX9_remember_48 : decode cX9_remember 48 = .ok (.dup, 1) := by decide +kernel
theorem dX9_remember_49 : decode cX9_remember 49 = .ok (.getfield 103, 3) := by decide +kernel
theorem dX9_remember_52 : decode cX9_remember 52 = .ok (.aload_n 0, 1) := by decide +kernel
theorem dX9_remember_53 : decode cX9_remember 53 = .ok (.getfield 103, 3) := by decide +kernel
theorem dX9_remember_56 : decode cX9_remember 56 = .ok (.bipush 8, 2) := by decide +kernel
theorem dX9_remember_58 : decode cX9_remember 58 = .ok (.if_icmp .ge 7, 3) := by decide +kernel
theorem dX9_remember_61 : decode cX9_remember 61 = .ok (.iconst 1, 1) := by decide +kernel
theorem dX9_remember_62 : decode cX9_remember 62 = .ok (.goto 4, 3) := by decide +kernel
theorem dX9_remember_65 : decode cX9_remember 65 = .ok (.iconst 0, 1) := by decide +kernel
theorem dX9_remember_66 : decode cX9_remember 66 = .ok (.iadd, 1) := by decide +kernel
theorem dX9_remember_67 : decode cX9_remember 67 = .ok (.putfield 103, 3) := by decide +kernel
theorem dX9_remember_70 : decode cX9_remember 70 = .ok (.return_, 1) := by decide +kernel
theorem dX9_isSendable_0 : decode cX9_isSendable 0 = .ok (.aload_n 1, 1) := by decide +kernel
theorem dX9_isSendable_1 : decode cX9_isSendable 1 = .ok (.bipush 13, 2) := by decide +kernel
theorem dX9_isSendable_3 : decode cX9_isSendable 3 = .ok (.iload_n 2, 1) := by decide +kernel
theorem dX9_isSendable_4 : decode cX9_isSendable 4 = .ok (.iadd, 1) := by decide +kernel
theorem dX9_isSendable_5 : decode cX9_isSendable 5 = .ok (.iaload, 1) := by decide +kernel
theorem dX9_isSendable_6 : decode cX9_isSendable 6 = .ok (.iload_n 3, 1) := by decide +kernel
theorem dX9_isSendable_7 : decode cX9_isSendable 7 = .ok (.ifCond .ge 8, 3) := by decide +kernel
theorem dX9_isSendable_10 : decode cX9_isSendable 10 = .ok (.bipush (-4), 2) := by decide +kernel
theorem dX9_isSendable_12 : decode cX9_isSendable 12 = .ok (.goto 4, 3) := by decide +kernel
theorem dX9_isSendable_15 : decode cX9_isSendable 15 = .ok (.iload_n 3, 1) := by decide +kernel
theorem dX9_isSendable_16 : decode cX9_isSendable 16 = .ok (.if_icmp .eq 20, 3) := by decide +kernel
theorem dX9_isSendable_19 : decode cX9_isSendable 19 = .ok (.iload_n 3, 1) := by decide +kernel
theorem dX9_isSendable_20 : decode cX9_isSendable 20 = .ok (.ifCond .lt 12, 3) := by decide +kernel
theorem dX9_isSendable_23 : decode cX9_isSendable 23 = .ok (.aload_n 0, 1) := by decide +kernel
theorem dX9_isSendable_24 : decode cX9_isSendable 24 = .ok (.aload_n 1, 1) := by decide +kernel
theorem dX9_isSendable_25 : decode cX9_isSendable 25 = .ok (.iload_n 3, 1) := by decide +kernel
theorem dX9_isSendable_26 : decode cX9_isSendable 26 = .ok (.invokevirtual 116, 3) := by decide +kernel
theorem dX9_isSendable_29 : decode cX9_isSendable 29 = .ok (.ifCond .ne 7, 3) := by decide +kernel
theorem dX9_isSendable_32 : decode cX9_isSendable 32 = .ok (.iconst 1, 1) := by decide +kernel
theorem dX9_isSendable_33 : decode cX9_isSendable 33 = .ok (.goto 4, 3) := by decide +kernel
theorem dX9_isSendable_36 : decode cX9_isSendable 36 = .ok (.iconst 0, 1) := by decide +kernel
theorem dX9_isSendable_37 : decode cX9_isSendable 37 = .ok (.ireturn, 1) := by decide +kernel
theorem dX9_send_0 : decode cX9_send 0 = .ok (.aload_n 0, 1) := by decide +kernel
theorem dX9_send_1 : decode cX9_send 1 = .ok (.iload_n 1, 1) := by decide +kernel
theorem dX9_send_2 : decode cX9_send 2 = .ok (.invokevirtual 140, 3) := by decide +kernel
theorem dX9_send_5 : decode cX9_send 5 = .ok (.ifCond .eq 16, 3) := by decide +kernel
theorem dX9_send_8 : decode cX9_send 8 = .ok (.iload_n 2, 1) := by decide +kernel
theorem dX9_send_9 : decode cX9_send 9 = .ok (.iconst (-1), 1) := by decide +kernel
theorem dX9_send_10 : decode cX9_send 10 = .ok (.if_icmp .eq 13, 3) := by decide +kernel
theorem dX9_send_13 : decode cX9_send 13 = .ok (.aload_n 0, 1) := by decide +kernel
theorem dX9_send_14 : decode cX9_send 14 = .ok (.iload_n 2, 1) := by decide +kernel
theorem dX9_send_15 : decode cX9_send 15 = .ok (.invokevirtual 137, 3) := by decide +kernel
theorem dX9_send_18 : decode cX9_send 18 = .ok (.ifCond .ne 5, 3) := by decide +kernel
theorem dX9_send_21 : decode cX9_send 21 = .ok (.iconst (-1), 1) := by decide +kernel
theorem dX9_send_22 : decode cX9_send 22 = .ok (.ireturn, 1) := by decide +kernel
theorem dX9_send_23 : decode cX9_send 23 = .ok (.aload_n 0, 1) := by decide +kernel
theorem dX9_send_24 : decode cX9_send 24 = .ok (.aload_n 0, 1) := by decide +kernel
theorem dX9_send_25 : decode cX9_send 25 = .ok (.getfield 25, 3) := by decide +kernel
theorem dX9_send_28 : decode cX9_send 28 = .ok (.iload_n 1, 1) := by decide +kernel
theorem dX9_send_29 : decode cX9_send 29 = .ok (.iload_n 2, 1) := by decide +kernel
theorem dX9_send_30 : decode cX9_send 30 = .ok (.invokevirtual 166, 3) := by decide +kernel
theorem dX9_send_33 : decode cX9_send 33 = .ok (.ifCond .ne 6, 3) := by decide +kernel
theorem dX9_send_36 : decode cX9_send 36 = .ok (.bipush (-2), 2) := by decide +kernel
theorem dX9_send_38 : decode cX9_send 38 = .ok (.ireturn, 1) := by decide +kernel
theorem dX9_send_39 : decode cX9_send 39 = .ok (.aload_n 0, 1) := by decide +kernel
theorem dX9_send_40 : decode cX9_send 40 = .ok (.invokevirtual 170, 3) := by decide +kernel
theorem dX9_send_43 : decode cX9_send 43 = .ok (.aload_n 0, 1) := by decide +kernel
theorem dX9_send_44 : decode cX9_send 44 = .ok (.getfield 25, 3) := by decide +kernel
theorem dX9_send_47 : decode cX9_send 47 = .ok (.bipush 13, 2) := by decide +kernel
theorem dX9_send_49 : decode cX9_send 49 = .ok (.iload_n 1, 1) := by decide +kernel
theorem dX9_send_50 : decode cX9_send 50 = .ok (.iadd, 1) := by decide +kernel
theorem dX9_send_51 : decode cX9_send 51 = .ok (.iaload, 1) := by decide +kernel
theorem dX9_send_52 : decode cX9_send 52 = .ok (.istore_n 3, 1) := by decide +kernel
theorem dX9_send_53 : decode cX9_send 53 = .ok (.aload_n 0, 1) := by decide +kernel
theorem dX9_send_54 : decode cX9_send 54 = .ok (.getfield 25, 3) := by decide +kernel
theorem dX9_send_57 : decode cX9_send 57 = .ok (.bipush 13, 2) := by decide +kernel
theorem dX9_send_59 : decode cX9_send 59 = .ok (.iload_n 1, 1) := by decide +kernel
theorem dX9_send_60 : decode cX9_send 60 = .ok (.iadd, 1) := by decide +kernel
theorem dX9_send_61 : decode cX9_send 61 = .ok (.iload_n 2, 1) := by decide +kernel
theorem dX9_send_62 : decode cX9_send 62 = .ok (.ifCond .ge 8, 3) := by decide +kernel
theorem dX9_send_65 : decode cX9_send 65 = .ok (.bipush (-4), 2) := by decide +kernel
theorem dX9_send_67 : decode cX9_send 67 = .ok (.goto 4, 3) := by decide +kernel
theorem dX9_send_70 : decode cX9_send 70 = .ok (.iload_n 2, 1) := by decide +kernel
theorem dX9_send_71 : decode cX9_send 71 = .ok (.iastore, 1) := by decide +kernel
theorem dX9_send_72 : decode cX9_send 72 = .ok (.iload_n 3, 1) := by decide +kernel
theorem dX9_send_73 : decode cX9_send 73 = .ok (.ireturn, 1) := by decide +kernel
theorem dX9_pass_0 : decode cX9_pass 0 = .ok (.iload_n 1, 1) := by decide +kernel
theorem dX9_pass_1 : decode cX9_pass 1 = .ok (.iconst 1, 1) := by decide +kernel
theorem dX9_pass_2 : decode cX9_pass 2 = .ok (.bipush 24, 2) := by decide +kernel
theorem dX9_pass_4 : decode cX9_pass 4 = .ok (.invokestatic 54, 3) := by decide +kernel
theorem dX9_pass_7 : decode cX9_pass 7 = .ok (.ifCond .ne 5, 3) := by decide +kernel
theorem dX9_pass_10 : decode cX9_pass 10 = .ok (.iconst (-1), 1) := by decide +kernel
theorem dX9_pass_11 : decode cX9_pass 11 = .ok (.ireturn, 1) := by decide +kernel
theorem dX9_pass_12 : decode cX9_pass 12 = .ok (.aload_n 0, 1) := by decide +kernel
theorem dX9_pass_13 : decode cX9_pass 13 = .ok (.invokevirtual 170, 3) := by decide +kernel
theorem dX9_pass_16 : decode cX9_pass 16 = .ok (.iconst 0, 1) := by decide +kernel
theorem dX9_pass_17 : decode cX9_pass 17 = .ok (.istore_n 2, 1) := by decide +kernel
theorem dX9_pass_18 : decode cX9_pass 18 = .ok (.iload_n 2, 1) := by decide +kernel
theorem dX9_pass_19 : decode cX9_pass 19 = .ok (.iload_n 1, 1) := by decide +kernel
theorem dX9_pass_20 : decode cX9_pass 20 = .ok (.if_icmp .ge 17, 3) := by decide +kernel
theorem dX9_pass_23 : decode cX9_pass 23 = .ok (.aload_n 0, 1) := by decide +kernel
theorem dX9_pass_24 : decode cX9_pass 24 = .ok (.aload_n 0, 1) := by decide +kernel
theorem dX9_pass_25 : decode cX9_pass 25 = .ok (.getfield 25, 3) := by decide +kernel
theorem dX9_pass_28 : decode cX9_pass 28 = .ok (.invokevirtual 173, 3) := by decide +kernel
theorem dX9_pass_31 : decode cX9_pass 31 = .ok (.iinc 2 1, 3) := by decide +kernel
theorem dX9_pass_34 : decode cX9_pass 34 = .ok (.goto (-16), 3) := by decide +kernel
theorem dX9_pass_37 : decode cX9_pass 37 = .ok (.aload_n 0, 1) := by decide +kernel
theorem dX9_pass_38 : decode cX9_pass 38 = .ok (.getfield 25, 3) := by decide +kernel
theorem dX9_pass_41 : decode cX9_pass 41 = .ok (.iconst 0, 1) := by decide +kernel
theorem dX9_pass_42 : decode cX9_pass 42 = .ok (.iaload, 1) := by decide +kernel
theorem dX9_pass_43 : decode cX9_pass 43 = .ok (.ireturn, 1) := by decide +kernel
theorem dX9_frog_0 : decode cX9_frog 0 = .ok (.aload_n 0, 1) := by decide +kernel
theorem dX9_frog_1 : decode cX9_frog 1 = .ok (.iload_n 1, 1) := by decide +kernel
theorem dX9_frog_2 : decode cX9_frog 2 = .ok (.invokevirtual 137, 3) := by decide +kernel
theorem dX9_frog_5 : decode cX9_frog 5 = .ok (.ifCond .ne 5, 3) := by decide +kernel
theorem dX9_frog_8 : decode cX9_frog 8 = .ok (.iconst (-1), 1) := by decide +kernel
theorem dX9_frog_9 : decode cX9_frog 9 = .ok (.ireturn, 1) := by decide +kernel
theorem dX9_frog_10 : decode cX9_frog 10 = .ok (.aload_n 0, 1) := by decide +kernel
theorem dX9_frog_11 : decode cX9_frog 11 = .ok (.aload_n 0, 1) := by decide +kernel
theorem dX9_frog_12 : decode cX9_frog 12 = .ok (.getfield 25, 3) := by decide +kernel
theorem dX9_frog_15 : decode cX9_frog 15 = .ok (.iload_n 1, 1) := by decide +kernel
theorem dX9_frog_16 : decode cX9_frog 16 = .ok (.invokevirtual 116, 3) := by decide +kernel
theorem dX9_frog_19 : decode cX9_frog 19 = .ok (.ifCond .ne 6, 3) := by decide +kernel
theorem dX9_frog_22 : decode cX9_frog 22 = .ok (.bipush (-2), 2) := by decide +kernel
theorem dX9_frog_24 : decode cX9_frog 24 = .ok (.ireturn, 1) := by decide +kernel
theorem dX9_frog_25 : decode cX9_frog 25 = .ok (.aload_n 0, 1) := by decide +kernel
theorem dX9_frog_26 : decode cX9_frog 26 = .ok (.invokevirtual 170, 3) := by decide +kernel
theorem dX9_frog_29 : decode cX9_frog 29 = .ok (.aload_n 0, 1) := by decide +kernel
theorem dX9_frog_30 : decode cX9_frog 30 = .ok (.getfield 25, 3) := by decide +kernel
theorem dX9_frog_33 : decode cX9_frog 33 = .ok (.iconst 1, 1) := by decide +kernel
theorem dX9_frog_34 : decode cX9_frog 34 = .ok (.iload_n 1, 1) := by decide +kernel
theorem dX9_frog_35 : decode cX9_frog 35 = .ok (.iadd, 1) := by decide +kernel
theorem dX9_frog_36 : decode cX9_frog 36 = .ok (.iconst 0, 1) := by decide +kernel
theorem dX9_frog_37 : decode cX9_frog 37 = .ok (.iastore, 1) := by decide +kernel
theorem dX9_frog_38 : decode cX9_frog 38 = .ok (.aload_n 0, 1) := by decide +kernel
theorem dX9_frog_39 : decode cX9_frog 39 = .ok (.aload_n 0, 1) := by decide +kernel
theorem dX9_frog_40 : decode cX9_frog 40 = .ok (.getfield 25, 3) := by decide +kernel
theorem dX9_frog_43 : decode cX9_frog 43 = .ok (.invokevirtual 159, 3) := by decide +kernel
theorem dX9_frog_46 : decode cX9_frog 46 = .ok (.invokestatic 153, 3) := by decide +kernel
theorem dX9_frog_49 : decode cX9_frog 49 = .ok (.ireturn, 1) := by decide +kernel
theorem dX9_undo_0 : decode cX9_undo 0 = .ok (.aload_n 0, 1) := by decide +kernel
theorem dX9_undo_1 : decode cX9_undo 1 = .ok (.getfield 103, 3) := by decide +kernel
theorem dX9_undo_4 : decode cX9_undo 4 = .ok (.ifCond .ne 6, 3) := by decide +kernel
theorem dX9_undo_7 : decode cX9_undo 7 = .ok (.bipush (-2), 2) := by decide +kernel
theorem dX9_undo_9 : decode cX9_undo 9 = .ok (.ireturn, 1) := by decide +kernel
theorem dX9_undo_10 : decode cX9_undo 10 = .ok (.aload_n 0, 1) := by decide +kernel
theorem dX9_undo_11 : decode cX9_undo 11 = .ok (.aload_n 0, 1) := by decide +kernel
theorem dX9_undo_12 : decode cX9_undo 12 = .ok (.getfield 163, 3) := by decide +kernel
theorem dX9_undo_15 : decode cX9_undo 15 = .ok (.bipush 8, 2) := by decide +kernel
theorem dX9_undo_17 : decode cX9_undo 17 = .ok (.iadd, 1) := by decide +kernel
theorem dX9_undo_18 : decode cX9_undo 18 = .ok (.iconst 1, 1) := by decide +kernel
theorem dX9_undo_19 : decode cX9_undo 19 = .ok (.isub, 1) := by decide +kernel
theorem dX9_undo_20 : decode cX9_undo 20 = .ok (.bipush 8, 2) := by decide +kernel
theorem dX9_undo_22 : decode cX9_undo 22 = .ok (.irem, 1) := by decide +kernel
theorem dX9_undo_23 : decode cX9_undo 23 = .ok (.putfield 163, 3) := by decide +kernel
theorem dX9_undo_26 : decode cX9_undo 26 = .ok (.aload_n 0, 1) := by decide +kernel
theorem dX9_undo_27 : decode cX9_undo 27 = .ok (.dup, 1) := by decide +kernel
theorem dX9_undo_28 : decode cX9_undo 28 = .ok (.getfield 103, 3) := by decide +kernel
theorem dX9_undo_31 : decode cX9_undo 31 = .ok (.iconst 1, 1) := by decide +kernel
theorem dX9_undo_32 : decode cX9_undo 32 = .ok (.isub, 1) := by decide +kernel
theorem dX9_undo_33 : decode cX9_undo 33 = .ok (.putfield 103, 3) := by decide +kernel
theorem dX9_undo_36 : decode cX9_undo 36 = .ok (.iconst 0, 1) := by decide +kernel
theorem dX9_undo_37 : decode cX9_undo 37 = .ok (.istore_n 1, 1) := by decide +kernel
theorem dX9_undo_38 : decode cX9_undo 38 = .ok (.iload_n 1, 1) := by decide +kernel
theorem dX9_undo_39 : decode cX9_undo 39 = .ok (.bipush 17, 2) := by decide +kernel
theorem dX9_undo_41 : decode cX9_undo 41 = .ok (.if_icmp .ge 29, 3) := by decide +kernel
theorem dX9_undo_44 : decode cX9_undo 44 = .ok (.aload_n 0, 1) := by decide +kernel
theorem dX9_undo_45 : decode cX9_undo 45 = .ok (.getfield 25, 3) := by decide +kernel
theorem dX9_undo_48 : decode cX9_undo 48 = .ok (.iload_n 1, 1) := by decide +kernel
theorem dX9_undo_49 : decode cX9_undo 49 = .ok (.aload_n 0, 1) := by decide +kernel
theorem dX9_undo_50 : decode cX9_undo 50 = .ok (.getfield 31, 3) := by decide +kernel
theorem dX9_undo_53 : decode cX9_undo 53 = .ok (.bipush 17, 2) := by decide +kernel
theorem dX9_undo_55 : decode cX9_undo 55 = .ok (.aload_n 0, 1) := by decide +kernel
theorem dX9_undo_56 : decode cX9_undo 56 = .ok (.getfield 163, 3) := by decide +kernel
theorem dX9_undo_59 : decode cX9_undo 59 = .ok (.imul, 1) := by decide +kernel
theorem dX9_undo_60 : decode cX9_undo 60 = .ok (.iload_n 1, 1) := by decide +kernel
theorem dX9_undo_61 : decode cX9_undo 61 = .ok (.iadd, 1) := by decide +kernel
theorem dX9_undo_62 : decode cX9_undo 62 = .ok (.iaload, 1) := by decide +kernel
theorem dX9_undo_63 : decode cX9_undo 63 = .ok (.iastore, 1) := by decide +kernel
theorem dX9_undo_64 : decode cX9_undo 64 = .ok (.iinc 1 1, 3) := by decide +kernel
theorem dX9_undo_67 : decode cX9_undo 67 = .ok (.goto (-29), 3) := by decide +kernel
theorem dX9_undo_70 : decode cX9_undo 70 = .ok (.aload_n 0, 1) := by decide +kernel
theorem dX9_undo_71 : decode cX9_undo 71 = .ok (.getfield 103, 3) := by decide +kernel
theorem dX9_undo_74 : decode cX9_undo 74 = .ok (.ireturn, 1) := by decide +kernel
