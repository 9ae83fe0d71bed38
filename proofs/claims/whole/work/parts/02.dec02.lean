theorem dX8_cut_0 : decode cX8_cut 0 = .ok (.aload_n 0, 1) := by decide +kernel
theorem dX8_cut_1 : decode cX8_cut 1 = .ok (.iload_n 1, 1) := by decide +kernel
theorem dX8_cut_2 : decode cX8_cut 2 = .ok (.invokevirtual 163, 3) := by decide +kernel
theorem dX8_cut_5 : decode cX8_cut 5 = .ok (.ifCond .eq 16, 3) := by decide +kernel
theorem dX8_cut_8 : decode cX8_cut 8 = .ok (.aload_n 0, 1) := by decide +kernel
theorem dX8_cut_9 : decode cX8_cut 9 = .ok (.iload_n 2, 1) := by decide +kernel
theorem dX8_cut_10 : decode cX8_cut 10 = .ok (.invokevirtual 163, 3) := by decide +kernel
theorem dX8_cut_13 : decode cX8_cut 13 = .ok (.ifCond .eq 8, 3) := by decide +kernel
theorem dX8_cut_16 : decode cX8_cut 16 = .ok (.iload_n 1, 1) := by decide +kernel
theorem dX8_cut_17 : decode cX8_cut 17 = .ok (.iload_n 2, 1) := by decide +kernel
theorem dX8_cut_18 : decode cX8_cut 18 = .ok (.if_icmp .ne 5, 3) := by decide +kernel
theorem dX8_cut_21 : decode cX8_cut 21 = .ok (.iconst (-1), 1) := by decide +kernel
theorem dX8_cut_22 : decode cX8_cut 22 = .ok (.ireturn, 1) := by decide +kernel
theorem dX8_cut_23 : decode cX8_cut 23 = .ok (.aload_n 0, 1) := by decide +kernel
theorem dX8_cut_24 : decode cX8_cut 24 = .ok (.getfield 37, 3) := by decide +kernel
theorem dX8_cut_27 : decode cX8_cut 27 = .ok (.aload_n 0, 1) := by decide +kernel
theorem dX8_cut_28 : decode cX8_cut 28 = .ok (.getfield 27, 3) := by decide +kernel
theorem dX8_cut_31 : decode cX8_cut 31 = .ok (.invokevirtual 166, 3) := by decide +kernel
theorem dX8_cut_34 : decode cX8_cut 34 = .ok (.istore_n 3, 1) := by decide +kernel
theorem dX8_cut_35 : decode cX8_cut 35 = .ok (.bipush (-4), 2) := by decide +kernel
theorem dX8_cut_37 : decode cX8_cut 37 = .ok (.istore 4, 2) := by decide +kernel
theorem dX8_cut_39 : decode cX8_cut 39 = .ok (.bipush 9, 2) := by decide +kernel
theorem dX8_cut_41 : decode cX8_cut 41 = .ok (.istore 5, 2) := by decide +kernel
theorem dX8_cut_43 : decode cX8_cut 43 = .ok (.aload_n 0, 1) := by decide +kernel
theorem dX8_cut_44 : decode cX8_cut 44 = .ok (.getfield 66, 3) := by decide +kernel
theorem dX8_cut_47 : decode cX8_cut 47 = .ok (.aload_n 0, 1) := by decide +kernel
theorem dX8_cut_48 : decode cX8_cut 48 = .ok (.getfield 27, 3) := by decide +kernel
theorem dX8_cut_51 : decode cX8_cut 51 = .ok (.iload_n 3, 1) := by decide +kernel
theorem dX8_cut_52 : decode cX8_cut 52 = .ok (.invokevirtual 170, 3) := by decide +kernel
theorem dX8_cut_55 : decode cX8_cut 55 = .ok (.aload_n 0, 1) := by decide +kernel
theorem dX8_cut_56 : decode cX8_cut 56 = .ok (.getfield 66, 3) := by decide +kernel
theorem dX8_cut_59 : decode cX8_cut 59 = .ok (.iload_n 1, 1) := by decide +kernel
theorem dX8_cut_60 : decode cX8_cut 60 = .ok (.iload_n 2, 1) := by decide +kernel
theorem dX8_cut_61 : decode cX8_cut 61 = .ok (.invokevirtual 174, 3) := by decide +kernel
theorem dX8_cut_64 : decode cX8_cut 64 = .ok (.ifCond .ne 6, 3) := by decide +kernel
theorem dX8_cut_67 : decode cX8_cut 67 = .ok (.bipush (-4), 2) := by decide +kernel
theorem dX8_cut_69 : decode cX8_cut 69 = .ok (.ireturn, 1) := by decide +kernel
theorem dX8_cut_70 : decode cX8_cut 70 = .ok (.iconst 1, 1) := by decide +kernel
theorem dX8_cut_71 : decode cX8_cut 71 = .ok (.istore 6, 2) := by decide +kernel
theorem dX8_cut_73 : decode cX8_cut 73 = .ok (.iload 6, 2) := by decide +kernel
theorem dX8_cut_75 : decode cX8_cut 75 = .ok (.iload_n 3, 1) := by decide +kernel
theorem dX8_cut_76 : decode cX8_cut 76 = .ok (.if_icmp .gt 68, 3) := by decide +kernel
theorem dX8_cut_79 : decode cX8_cut 79 = .ok (.iload 6, 2) := by decide +kernel
theorem dX8_cut_81 : decode cX8_cut 81 = .ok (.iload_n 3, 1) := by decide +kernel
theorem dX8_cut_82 : decode cX8_cut 82 = .ok (.iconst (-1), 1) := by decide +kernel
theorem dX8_cut_83 : decode cX8_cut 83 = .ok (.ixor, 1) := by decide +kernel
theorem dX8_cut_84 : decode cX8_cut 84 = .ok (.iand, 1) := by decide +kernel
theorem dX8_cut_85 : decode cX8_cut 85 = .ok (.ifCond .ne 53, 3) := by decide +kernel
theorem dX8_cut_88 : decode cX8_cut 88 = .ok (.iload 6, 2) := by decide +kernel
theorem dX8_cut_90 : decode cX8_cut 90 = .ok (.invokestatic 192, 3) := by decide +kernel
theorem dX8_cut_93 : decode cX8_cut 93 = .ok (.iload 5, 2) := by decide +kernel
theorem dX8_cut_95 : decode cX8_cut 95 = .ok (.if_icmp .ge 43, 3) := by decide +kernel
theorem dX8_cut_98 : decode cX8_cut 98 = .ok (.aload_n 0, 1) := by decide +kernel
theorem dX8_cut_99 : decode cX8_cut 99 = .ok (.getfield 66, 3) := by decide +kernel
theorem dX8_cut_102 : decode cX8_cut 102 = .ok (.aload_n 0, 1) := by decide +kernel
theorem dX8_cut_103 : decode cX8_cut 103 = .ok (.getfield 27, 3) := by decide +kernel
theorem dX8_cut_106 : decode cX8_cut 106 = .ok (.iload_n 3, 1) := by decide +kernel
theorem dX8_cut_107 : decode cX8_cut 107 = .ok (.iload 6, 2) := by decide +kernel
theorem dX8_cut_109 : decode cX8_cut 109 = .ok (.iconst (-1), 1) := by decide +kernel
theorem dX8_cut_110 : decode cX8_cut 110 = .ok (.ixor, 1) := by decide +kernel
theorem dX8_cut_111 : decode cX8_cut 111 = .ok (.iand, 1) := by decide +kernel
theorem dX8_cut_112 : decode cX8_cut 112 = .ok (.invokevirtual 170, 3) := by decide +kernel
theorem dX8_cut_115 : decode cX8_cut 115 = .ok (.aload_n 0, 1) := by decide +kernel
theorem dX8_cut_116 : decode cX8_cut 116 = .ok (.getfield 66, 3) := by decide +kernel
theorem dX8_cut_119 : decode cX8_cut 119 = .ok (.iload_n 1, 1) := by decide +kernel
theorem dX8_cut_120 : decode cX8_cut 120 = .ok (.iload_n 2, 1) := by decide +kernel
theorem dX8_cut_121 : decode cX8_cut 121 = .ok (.invokevirtual 174, 3) := by decide +kernel
theorem dX8_cut_124 : decode cX8_cut 124 = .ok (.ifCond .ne 14, 3) := by decide +kernel
theorem dX8_cut_127 : decode cX8_cut 127 = .ok (.iload 6, 2) := by decide +kernel
theorem dX8_cut_129 : decode cX8_cut 129 = .ok (.istore 4, 2) := by decide +kernel
theorem dX8_cut_131 : decode cX8_cut 131 = .ok (.iload 6, 2) := by decide +kernel
theorem dX8_cut_133 : decode cX8_cut 133 = .ok (.invokestatic 192, 3) := by decide +kernel
theorem dX8_cut_136 : decode cX8_cut 136 = .ok (.istore 5, 2) := by decide +kernel
theorem dX8_cut_138 : decode cX8_cut 138 = .ok (.iinc 6 1, 3) := by decide +kernel
theorem dX8_cut_141 : decode cX8_cut 141 = .ok (.goto (-68), 3) := by decide +kernel
theorem dX8_cut_144 : decode cX8_cut 144 = .ok (.iload 4, 2) := by decide +kernel
theorem dX8_cut_146 : decode cX8_cut 146 = .ok (.ireturn, 1) := by decide +kernel
theorem dX8_between_0 : decode cX8_between 0 = .ok (.aload_n 0, 1) := by decide +kernel
theorem dX8_between_1 : decode cX8_between 1 = .ok (.iload_n 1, 1) := by decide +kernel
theorem dX8_between_2 : decode cX8_between 2 = .ok (.invokevirtual 163, 3) := by decide +kernel
theorem dX8_between_5 : decode cX8_between 5 = .ok (.ifCond .eq 11, 3) := by decide +kernel
theorem dX8_between_8 : decode cX8_between 8 = .ok (.aload_n 0, 1) := by decide +kernel
theorem dX8_between_9 : decode cX8_between 9 = .ok (.iload_n 2, 1) := by decide +kernel
theorem dX8_between_10 : decode cX8_between 10 = .ok (.invokevirtual 163, 3) := by decide +kernel
theorem dX8_between_13 : decode cX8_between 13 = .ok (.ifCond .ne 5, 3) := by decide +kernel
theorem dX8_between_16 : decode cX8_between 16 = .ok (.iconst (-1), 1) := by decide +kernel
theorem dX8_between_17 : decode cX8_between 17 = .ok (.ireturn, 1) := by decide +kernel
theorem dX8_between_18 : decode cX8_between 18 = .ok (.aload_n 0, 1) := by decide +kernel
theorem dX8_between_19 : decode cX8_between 19 = .ok (.getfield 37, 3) := by decide +kernel
theorem dX8_between_22 : decode cX8_between 22 = .ok (.aload_n 0, 1) := by decide +kernel
theorem dX8_between_23 : decode cX8_between 23 = .ok (.getfield 27, 3) := by decide +kernel
theorem dX8_between_26 : decode cX8_between 26 = .ok (.invokevirtual 166, 3) := by decide +kernel
theorem dX8_between_29 : decode cX8_between 29 = .ok (.istore_n 3, 1) := by decide +kernel
theorem dX8_between_30 : decode cX8_between 30 = .ok (.iconst 1, 1) := by decide +kernel
theorem dX8_between_31 : decode cX8_between 31 = .ok (.iload_n 2, 1) := by decide +kernel
theorem dX8_between_32 : decode cX8_between 32 = .ok (.ishl, 1) := by decide +kernel
theorem dX8_between_33 : decode cX8_between 33 = .ok (.istore 4, 2) := by decide +kernel
theorem dX8_between_35 : decode cX8_between 35 = .ok (.iconst 1, 1) := by decide +kernel
theorem dX8_between_36 : decode cX8_between 36 = .ok (.iload_n 1, 1) := by decide +kernel
theorem dX8_between_37 : decode cX8_between 37 = .ok (.ishl, 1) := by decide +kernel
theorem dX8_between_38 : decode cX8_between 38 = .ok (.istore 5, 2) := by decide +kernel
theorem dX8_between_40 : decode cX8_between 40 = .ok (.iconst 0, 1) := by decide +kernel
theorem dX8_between_41 : decode cX8_between 41 = .ok (.istore 6, 2) := by decide +kernel
theorem dX8_between_43 : decode cX8_between 43 = .ok (.iload 6, 2) := by decide +kernel
theorem dX8_between_45 : decode cX8_between 45 = .ok (.bipush 8, 2) := by decide +kernel
theorem dX8_between_47 : decode cX8_between 47 = .ok (.if_icmp .ge 32, 3) := by decide +kernel
theorem dX8_between_50 : decode cX8_between 50 = .ok (.iload 5, 2) := by decide +kernel
theorem dX8_between_52 : decode cX8_between 52 = .ok (.iload 4, 2) := by decide +kernel
theorem dX8_between_54 : decode cX8_between 54 = .ok (.iand, 1) := by decide +kernel
theorem dX8_between_55 : decode cX8_between 55 = .ok (.ifCond .eq 6, 3) := by decide +kernel
theorem dX8_between_58 : decode cX8_between 58 = .ok (.iload 6, 2) := by decide +kernel
theorem dX8_between_60 : decode cX8_between 60 = .ok (.ireturn, 1) := by decide +kernel
theorem dX8_between_61 : decode cX8_between 61 = .ok (.aload_n 0, 1) := by decide +kernel
theorem dX8_between_62 : decode cX8_between 62 = .ok (.getfield 27, 3) := by decide +kernel
theorem dX8_between_65 : decode cX8_between 65 = .ok (.iload 5, 2) := by decide +kernel
theorem dX8_between_67 : decode cX8_between 67 = .ok (.iload_n 3, 1) := by decide +kernel
theorem dX8_between_68 : decode cX8_between 68 = .ok (.invokevirtual 240, 3) := by decide +kernel
theorem dX8_between_71 : decode cX8_between 71 = .ok (.istore 5, 2) := by decide +kernel
theorem dX8_between_73 : decode cX8_between 73 = .ok (.iinc 6 1, 3) := by decide +kernel
theorem dX8_between_76 : decode cX8_between 76 = .ok (.goto (-33), 3) := by decide +kernel
theorem dX8_between_79 : decode cX8_between 79 = .ok (.bipush (-4), 2) := by decide +kernel
theorem dX8_between_81 : decode cX8_between 81 = .ok (.ireturn, 1) := by decide +kernel
theorem dX8_joins_0 : decode cX8_joins 0 = .ok (.iload_n 1, 1) := by decide +kernel
theorem dX8_joins_1 : decode cX8_joins 1 = .ok (.iconst 0, 1) := by decide +kernel
theorem dX8_joins_2 : decode cX8_joins 2 = .ok (.iconst 1, 1) := by decide +kernel
theorem dX8_joins_3 : decode cX8_joins 3 = .ok (.invokestatic 123, 3) := by decide +kernel
theorem dX8_joins_6 : decode cX8_joins 6 = .ok (.ifCond .ne 5, 3) := by decide +kernel
theorem dX8_joins_9 : decode cX8_joins 9 = .ok (.iconst (-1), 1) := by decide +kernel
theorem dX8_joins_10 : decode cX8_joins 10 = .ok (.ireturn, 1) := by decide +kernel
theorem dX8_joins_11 : decode cX8_joins 11 = .ok (.aload_n 0, 1) := by decide +kernel
theorem dX8_joins_12 : decode cX8_joins 12 = .ok (.getfield 66, 3) := by decide +kernel
theorem dX8_joins_15 : decode cX8_joins 15 = .ok (.aload_n 0, 1) := by decide +kernel
theorem dX8_joins_16 : decode cX8_joins 16 = .ok (.getfield 27, 3) := by decide +kernel
theorem dX8_joins_19 : decode cX8_joins 19 = .ok (.aload_n 0, 1) := by decide +kernel
theorem dX8_joins_20 : decode cX8_joins 20 = .ok (.getfield 37, 3) := by decide +kernel
theorem dX8_joins_23 : decode cX8_joins 23 = .ok (.aload_n 0, 1) := by decide +kernel
theorem dX8_joins_24 : decode cX8_joins 24 = .ok (.getfield 27, 3) := by decide +kernel
theorem dX8_joins_27 : decode cX8_joins 27 = .ok (.invokevirtual 166, 3) := by decide +kernel
theorem dX8_joins_30 : decode cX8_joins 30 = .ok (.invokevirtual 170, 3) := by decide +kernel
theorem dX8_joins_33 : decode cX8_joins 33 = .ok (.bipush (-4), 2) := by decide +kernel
theorem dX8_joins_35 : decode cX8_joins 35 = .ok (.istore_n 2, 1) := by decide +kernel
theorem dX8_joins_36 : decode cX8_joins 36 = .ok (.bipush (-4), 2) := by decide +kernel
theorem dX8_joins_38 : decode cX8_joins 38 = .ok (.istore_n 3, 1) := by decide +kernel
theorem dX8_joins_39 : decode cX8_joins 39 = .ok (.iconst 0, 1) := by decide +kernel
theorem dX8_joins_40 : decode cX8_joins 40 = .ok (.istore 4, 2) := by decide +kernel
theorem dX8_joins_42 : decode cX8_joins 42 = .ok (.iload 4, 2) := by decide +kernel
theorem dX8_joins_44 : decode cX8_joins 44 = .ok (.aload_n 0, 1) := by decide +kernel
theorem dX8_joins_45 : decode cX8_joins 45 = .ok (.getfield 27, 3) := by decide +kernel
theorem dX8_joins_48 : decode cX8_joins 48 = .ok (.getfield 113, 3) := by decide +kernel
theorem dX8_joins_51 : decode cX8_joins 51 = .ok (.if_icmp .ge 66, 3) := by decide +kernel
theorem dX8_joins_54 : decode cX8_joins 54 = .ok (.aload_n 0, 1) := by decide +kernel
theorem dX8_joins_55 : decode cX8_joins 55 = .ok (.getfield 37, 3) := by decide +kernel
theorem dX8_joins_58 : decode cX8_joins 58 = .ok (.aload_n 0, 1) := by decide +kernel
theorem dX8_joins_59 : decode cX8_joins 59 = .ok (.getfield 27, 3) := by decide +kernel
theorem dX8_joins_62 : decode cX8_joins 62 = .ok (.iload 4, 2) := by decide +kernel
theorem dX8_joins_64 : decode cX8_joins 64 = .ok (.invokevirtual 134, 3) := by decide +kernel
theorem dX8_joins_67 : decode cX8_joins 67 = .ok (.ifCond .ne 44, 3) := by decide +kernel
theorem dX8_joins_70 : decode cX8_joins 70 = .ok (.aload_n 0, 1) := by decide +kernel
theorem dX8_joins_71 : decode cX8_joins 71 = .ok (.getfield 66, 3) := by decide +kernel
theorem dX8_joins_74 : decode cX8_joins 74 = .ok (.aload_n 0, 1) := by decide +kernel
theorem dX8_joins_75 : decode cX8_joins 75 = .ok (.getfield 27, 3) := by decide +kernel
theorem dX8_joins_78 : decode cX8_joins 78 = .ok (.iload 4, 2) := by decide +kernel
theorem dX8_joins_80 : decode cX8_joins 80 = .ok (.iconst 1, 1) := by decide +kernel
theorem dX8_joins_81 : decode cX8_joins 81 = .ok (.invokevirtual 127, 3) := by decide +kernel
theorem dX8_joins_84 : decode cX8_joins 84 = .ok (.aload_n 0, 1) := by decide +kernel
theorem dX8_joins_85 : decode cX8_joins 85 = .ok (.getfield 27, 3) := by decide +kernel
theorem dX8_joins_88 : decode cX8_joins 88 = .ok (.iload 4, 2) := by decide +kernel
theorem dX8_joins_90 : decode cX8_joins 90 = .ok (.iconst 2, 1) := by decide +kernel
theorem dX8_joins_91 : decode cX8_joins 91 = .ok (.invokevirtual 127, 3) := by decide +kernel
theorem dX8_joins_94 : decode cX8_joins 94 = .ok (.invokevirtual 243, 3) := by decide +kernel
theorem dX8_joins_97 : decode cX8_joins 97 = .ok (.istore 5, 2) := by decide +kernel
theorem dX8_joins_99 : decode cX8_joins 99 = .ok (.iload 5, 2) := by decide +kernel
theorem dX8_joins_101 : decode cX8_joins 101 = .ok (.iload_n 3, 1) := by decide +kernel
theorem dX8_joins_102 : decode cX8_joins 102 = .ok (.if_icmp .le 9, 3) := by decide +kernel
theorem dX8_joins_105 : decode cX8_joins 105 = .ok (.iload 5, 2) := by decide +kernel
theorem dX8_joins_107 : decode cX8_joins 107 = .ok (.istore_n 3, 1) := by decide +kernel
theorem dX8_joins_108 : decode cX8_joins 108 = .ok (.iload 4, 2) := by decide +kernel
theorem dX8_joins_110 : decode cX8_joins 110 = .ok (.istore_n 2, 1) := by decide +kernel
theorem dX8_joins_111 : decode cX8_joins 111 = .ok (.iinc 4 1, 3) := by decide +kernel
theorem dX8_joins_114 : decode cX8_joins 114 = .ok (.goto (-72), 3) := by decide +kernel
theorem dX8_joins_117 : decode cX8_joins 117 = .ok (.iload_n 1, 1) := by decide +kernel
theorem dX8_joins_118 : decode cX8_joins 118 = .ok (.ifCond .ne 7, 3) := by decide +kernel
theorem dX8_joins_121 : decode cX8_joins 121 = .ok (.iload_n 2, 1) := by decide +kernel
theorem dX8_joins_122 : decode cX8_joins 122 = .ok (.goto 4, 3) := by decide +kernel
theorem dX8_joins_125 : decode cX8_joins 125 = .ok (.iload_n 3, 1) := by decide +kernel
theorem dX8_joins_126 : decode cX8_joins 126 = .ok (.ireturn, 1) := by decide +kernel
theorem dX8_see_0 : decode cX8_see 0 = .ok (.aload_n 0, 1) := by decide +kernel
theorem dX8_see_1 : decode cX8_see 1 = .ok (.iload_n 1, 1) := by decide +kernel
theorem dX8_see_2 : decode cX8_see 2 = .ok (.invokevirtual 163, 3) := by decide +kernel
theorem dX8_see_5 : decode cX8_see 5 = .ok (.ifCond .eq 25, 3) := by decide +kernel
theorem dX8_see_8 : decode cX8_see 8 = .ok (.aload_n 0, 1) := by decide +kernel
theorem dX8_see_9 : decode cX8_see 9 = .ok (.iload_n 2, 1) := by decide +kernel
theorem dX8_see_10 : decode cX8_see 10 = .ok (.invokevirtual 163, 3) := by decide +kernel
theorem dX8_see_13 : decode cX8_see 13 = .ok (.ifCond .eq 17, 3) := by decide +kernel
theorem dX8_see_16 : decode cX8_see 16 = .ok (.iload_n 1, 1) := by decide +kernel
theorem dX8_see_17 : decode cX8_see 17 = .ok (.iload_n 2, 1) := by decide +kernel
theorem dX8_see_18 : decode cX8_see 18 = .ok (.if_icmp .eq 12, 3) := by decide +kernel
theorem dX8_see_21 : decode cX8_see 21 = .ok (.iload_n 3, 1) := by decide +kernel
theorem dX8_see_22 : decode cX8_see 22 = .ok (.iconst 0, 1) := by decide +kernel
theorem dX8_see_23 : decode cX8_see 23 = .ok (.iconst 1, 1) := by decide +kernel
theorem dX8_see_24 : decode cX8_see 24 = .ok (.invokestatic 123, 3) := by decide +kernel
theorem dX8_see_27 : decode cX8_see 27 = .ok (.ifCond .ne 5, 3) := by decide +kernel
theorem dX8_see_30 : decode cX8_see 30 = .ok (.iconst (-1), 1) := by decide +kernel
theorem dX8_see_31 : decode cX8_see 31 = .ok (.ireturn, 1) := by decide +kernel
theorem dX8_see_32 : decode cX8_see 32 = .ok (.aload_n 0, 1) := by decide +kernel
theorem dX8_see_33 : decode cX8_see 33 = .ok (.getfield 59, 3) := by decide +kernel
theorem dX8_see_36 : decode cX8_see 36 = .ok (.getfield 246, 3) := by decide +kernel
theorem dX8_see_39 : decode cX8_see 39 = .ok (.bipush 8, 2) := by decide +kernel
theorem dX8_see_41 : decode cX8_see 41 = .ok (.if_icmp .lt 6, 3) := by decide +kernel
theorem dX8_see_44 : decode cX8_see 44 = .ok (.bipush (-3), 2) := by decide +kernel
theorem dX8_see_46 : decode cX8_see 46 = .ok (.ireturn, 1) := by decide +kernel
theorem dX8_see_47 : decode cX8_see 47 = .ok (.aload_n 0, 1) := by decide +kernel
theorem dX8_see_48 : decode cX8_see 48 = .ok (.getfield 59, 3) := by decide +kernel
theorem dX8_see_51 : decode cX8_see 51 = .ok (.iload_n 1, 1) := by decide +kernel
theorem dX8_see_52 : decode cX8_see 52 = .ok (.iload_n 2, 1) := by decide +kernel
theorem dX8_see_53 : decode cX8_see 53 = .ok (.iload_n 3, 1) := by decide +kernel
theorem dX8_see_54 : decode cX8_see 54 = .ok (.invokevirtual 247, 3) := by decide +kernel
theorem dX8_see_57 : decode cX8_see 57 = .ok (.aload_n 0, 1) := by decide +kernel
theorem dX8_see_58 : decode cX8_see 58 = .ok (.getfield 59, 3) := by decide +kernel
theorem dX8_see_61 : decode cX8_see 61 = .ok (.getfield 246, 3) := by decide +kernel
theorem dX8_see_64 : decode cX8_see 64 = .ok (.ireturn, 1) := by decide +kernel
theorem dX8_forget_0 : decode cX8_forget 0 = .ok (.aload_n 0, 1) := by decide +kernel
theorem dX8_forget_1 : decode cX8_forget 1 = .ok (.getfield 59, 3) := by decide +kernel
theorem dX8_forget_4 : decode cX8_forget 4 = .ok (.getfield 246, 3) := by decide +kernel
theorem dX8_forget_7 : decode cX8_forget 7 = .ok (.istore_n 1, 1) := by decide +kernel
theorem dX8_forget_8 : decode cX8_forget 8 = .ok (.aload_n 0, 1) := by decide +kernel
theorem dX8_forget_9 : decode cX8_forget 9 = .ok (.getfield 59, 3) := by decide +kernel
theorem dX8_forget_12 : decode cX8_forget 12 = .ok (.invokevirtual 250, 3) := by decide +kernel
theorem dX8_forget_15 : decode cX8_forget 15 = .ok (.iload_n 1, 1) := by decide +kernel
theorem dX8_forget_16 : decode cX8_forget 16 = .ok (.ireturn, 1) := by decide +kernel
theorem dX8_seamed_0 : decode cX8_seamed 0 = .ok (.iload_n 1, 1) := by decide +kernel
theorem dX8_seamed_1 : decode cX8_seamed 1 = .ok (.iconst 0, 1) := by decide +kernel
theorem dX8_seamed_2 : decode cX8_seamed 2 = .ok (.iconst 1, 1) := by decide +kernel
theorem dX8_seamed_3 : decode cX8_seamed 3 = .ok (.invokestatic 123, 3) := by decide +kernel
theorem dX8_seamed_6 : decode cX8_seamed 6 = .ok (.ifCond .ne 5, 3) := by decide +kernel
theorem dX8_seamed_9 : decode cX8_seamed 9 = .ok (.iconst (-1), 1) := by decide +kernel
theorem dX8_seamed_10 : decode cX8_seamed 10 = .ok (.ireturn, 1) := by decide +kernel
theorem dX8_seamed_11 : decode cX8_seamed 11 = .ok (.aload_n 0, 1) := by decide +kernel
theorem dX8_seamed_12 : decode cX8_seamed 12 = .ok (.getfield 59, 3) := by decide +kernel
theorem dX8_seamed_15 : decode cX8_seamed 15 = .ok (.aload_n 0, 1) := by decide +kernel
theorem dX8_seamed_16 : decode cX8_seamed 16 = .ok (.getfield 27, 3) := by decide +kernel
theorem dX8_seamed_19 : decode cX8_seamed 19 = .ok (.aload_n 0, 1) := by decide +kernel
theorem dX8_seamed_20 : decode cX8_seamed 20 = .ok (.getfield 66, 3) := by decide +kernel
theorem dX8_seamed_23 : decode cX8_seamed 23 = .ok (.invokevirtual 253, 3) := by decide +kernel
theorem dX8_seamed_26 : decode cX8_seamed 26 = .ok (.iload_n 1, 1) := by decide +kernel
theorem dX8_seamed_27 : decode cX8_seamed 27 = .ok (.ifCond .ne 13, 3) := by decide +kernel
theorem dX8_seamed_30 : decode cX8_seamed 30 = .ok (.aload_n 0, 1) := by decide +kernel
theorem dX8_seamed_31 : decode cX8_seamed 31 = .ok (.getfield 59, 3) := by decide +kernel
theorem dX8_seamed_34 : decode cX8_seamed 34 = .ok (.getfield 257, 3) := by decide +kernel
theorem dX8_seamed_37 : decode cX8_seamed 37 = .ok (.goto 10, 3) := by decide +kernel
theorem dX8_seamed_40 : decode cX8_seamed 40 = .ok (.aload_n 0, 1) := by decide +kernel
theorem dX8_seamed_41 : decode cX8_seamed 41 = .ok (.getfield 59, 3) := by decide +kernel
theorem dX8_seamed_44 : decode cX8_seamed 44 = .ok (.getfield 260, 3) := by decide +kernel
theorem dX8_seamed_47 : decode cX8_seamed 47 = .ok (.ireturn, 1) := by decide +kernel
theorem dX8_tells_0 : decode cX8_tells 0 = .ok (.iload_n 1, 1) := by decide +kernel
theorem dX8_tells_1 : decode cX8_tells 1 = .ok (.iconst 0, 1) := by decide +kernel
theorem dX8_tells_2 : decode cX8_tells 2 = .ok (.iconst 1, 1) := by decide +kernel
theorem dX8_tells_3 : decode cX8_tells 3 = .ok (.invokestatic 123, 3) := by decide +kernel
theorem dX8_tells_6 : decode cX8_tells 6 = .ok (.ifCond .ne 5, 3) := by decide +kernel
theorem dX8_tells_9 : decode cX8_tells 9 = .ok (.iconst (-1), 1) := by decide +kernel
theorem dX8_tells_10 : decode cX8_tells 10 = .ok (.ireturn, 1) := by decide +kernel
theorem dX8_tells_11 : decode cX8_tells 11 = .ok (.aload_n 0, 1) := by decide +kernel
theorem dX8_tells_12 : decode cX8_tells 12 = .ok (.getfield 59, 3) := by decide +kernel
theorem dX8_tells_15 : decode cX8_tells 15 = .ok (.aload_n 0, 1) := by decide +kernel
theorem dX8_tells_16 : decode cX8_tells 16 = .ok (.getfield 27, 3) := by decide +kernel
theorem dX8_tells_19 : decode cX8_tells 19 = .ok (.aload_n 0, 1) := by decide +kernel
theorem dX8_tells_20 : decode cX8_tells 20 = .ok (.getfield 66, 3) := by decide +kernel
theorem dX8_tells_23 : decode cX8_tells 23 = .ok (.invokevirtual 253, 3) := by decide +kernel
theorem dX8_tells_26 : decode cX8_tells 26 = .ok (.aload_n 0, 1) := by decide +kernel
theorem dX8_tells_27 : decode cX8_tells 27 = .ok (.getfield 59, 3) := by decide +kernel
theorem dX8_tells_30 : decode cX8_tells 30 = .ok (.aload_n 0, 1) := by decide +kernel
theorem dX8_tells_31 : decode cX8_tells 31 = .ok (.getfield 27, 3) := by decide +kernel
theorem dX8_tells_34 : decode cX8_tells 34 = .ok (.invokevirtual 263, 3) := by decide +kernel
theorem dX8_tells_37 : decode cX8_tells 37 = .ok (.iload_n 1, 1) := by decide +kernel
theorem dX8_tells_38 : decode cX8_tells 38 = .ok (.ifCond .ne 13, 3) := by decide +kernel
theorem dX8_tells_41 : decode cX8_tells 41 = .ok (.aload_n 0, 1) := by decide +kernel
theorem dX8_tells_42 : decode cX8_tells 42 = .ok (.getfield 59, 3) := by decide +kernel
theorem dX8_tells_45 : decode cX8_tells 45 = .ok (.getfield 267, 3) := by decide +kernel
theorem dX8_tells_48 : decode cX8_tells 48 = .ok (.goto 10, 3) := by decide +kernel
theorem dX8_tells_51 : decode cX8_tells 51 = .ok (.aload_n 0, 1) := by decide +kernel
theorem dX8_tells_52 : decode cX8_tells 52 = .ok (.getfield 59, 3) := by decide +kernel
theorem dX8_tells_55 : decode cX8_tells 55 = .ok (.getfield 270, 3) := by decide +kernel
theorem dX8_tells_58 : decode cX8_tells 58 = .ok (.ireturn, 1) := by decide +kernel
theorem dX8_showers_0 : decode cX8_showers 0 = .ok (.aload_n 0, 1) := by decide +kernel
theorem dX8_showers_1 : decode cX8_showers 1 = .ok (.iload_n 1, 1) := by decide +kernel
theorem dX8_showers_2 : decode cX8_showers 2 = .ok (.invokevirtual 119, 3) := by decide +kernel
theorem dX8_showers_5 : decode cX8_showers 5 = .ok (.ifCond .eq 33, 3) := by decide +kernel
theorem dX8_showers_8 : decode cX8_showers 8 = .ok (.iload_n 2, 1) := by decide +kernel
theorem dX8_showers_9 : decode cX8_showers 9 = .ok (.iconst 0, 1) := by decide +kernel
theorem dX8_showers_10 : decode cX8_showers 10 = .ok (.bipush 8, 2) := by decide +kernel
theorem dX8_showers_12 : decode cX8_showers 12 = .ok (.invokestatic 123, 3) := by decide +kernel
theorem dX8_showers_15 : decode cX8_showers 15 = .ok (.ifCond .eq 23, 3) := by decide +kernel
theorem dX8_showers_18 : decode cX8_showers 18 = .ok (.iload_n 3, 1) := by decide +kernel
theorem dX8_showers_19 : decode cX8_showers 19 = .ok (.iconst 0, 1) := by decide +kernel
theorem dX8_showers_20 : decode cX8_showers 20 = .ok (.bipush 10, 2) := by decide +kernel
theorem dX8_showers_22 : decode cX8_showers 22 = .ok (.invokestatic 123, 3) := by decide +kernel
theorem dX8_showers_25 : decode cX8_showers 25 = .ok (.ifCond .eq 13, 3) := by decide +kernel
theorem dX8_showers_28 : decode cX8_showers 28 = .ok (.iload 4, 2) := by decide +kernel
theorem dX8_showers_30 : decode cX8_showers 30 = .ok (.iconst 0, 1) := by decide +kernel
theorem dX8_showers_31 : decode cX8_showers 31 = .ok (.iconst 1, 1) := by decide +kernel
theorem dX8_showers_32 : decode cX8_showers 32 = .ok (.invokestatic 123, 3) := by decide +kernel
theorem dX8_showers_35 : decode cX8_showers 35 = .ok (.ifCond .ne 5, 3) := by decide +kernel
theorem dX8_showers_38 : decode cX8_showers 38 = .ok (.iconst (-1), 1) := by decide +kernel
theorem dX8_showers_39 : decode cX8_showers 39 = .ok (.ireturn, 1) := by decide +kernel
theorem dX8_showers_40 : decode cX8_showers 40 = .ok (.iconst 0, 1) := by decide +kernel
theorem dX8_showers_41 : decode cX8_showers 41 = .ok (.istore 5, 2) := by decide +kernel
theorem dX8_showers_43 : decode cX8_showers 43 = .ok (.iconst 0, 1) := by decide +kernel
theorem dX8_showers_44 : decode cX8_showers 44 = .ok (.istore 6, 2) := by decide +kernel
theorem dX8_showers_46 : decode cX8_showers 46 = .ok (.iconst 0, 1) := by decide +kernel
theorem dX8_showers_47 : decode cX8_showers 47 = .ok (.istore 7, 2) := by decide +kernel
theorem dX8_showers_49 : decode cX8_showers 49 = .ok (.iload 7, 2) := by decide +kernel
theorem dX8_showers_51 : decode cX8_showers 51 = .ok (.iconst 1, 1) := by decide +kernel
theorem dX8_showers_52 : decode cX8_showers 52 = .ok (.iload_n 2, 1) := by decide +kernel
theorem dX8_showers_53 : decode cX8_showers 53 = .ok (.ishl, 1) := by decide +kernel
theorem dX8_showers_54 : decode cX8_showers 54 = .ok (.if_icmp .ge 48, 3) := by decide +kernel
theorem dX8_showers_57 : decode cX8_showers 57 = .ok (.iload 7, 2) := by decide +kernel
theorem dX8_showers_59 : decode cX8_showers 59 = .ok (.iload_n 2, 1) := by decide +kernel
theorem dX8_showers_60 : decode cX8_showers 60 = .ok (.iload_n 3, 1) := by decide +kernel
theorem dX8_showers_61 : decode cX8_showers 61 = .ok (.invokestatic 273, 3) := by decide +kernel
theorem dX8_showers_64 : decode cX8_showers 64 = .ok (.istore 8, 2) := by decide +kernel
theorem dX8_showers_66 : decode cX8_showers 66 = .ok (.iload 6, 2) := by decide +kernel
theorem dX8_showers_68 : decode cX8_showers 68 = .ok (.iload 8, 2) := by decide +kernel
theorem dX8_showers_70 : decode cX8_showers 70 = .ok (.iadd, 1) := by decide +kernel
theorem dX8_showers_71 : decode cX8_showers 71 = .ok (.istore 6, 2) := by decide +kernel
theorem dX8_showers_73 : decode cX8_showers 73 = .ok (.iload 8, 2) := by decide +kernel
theorem dX8_showers_75 : decode cX8_showers 75 = .ok (.ifCond .le 21, 3) := by decide +kernel
theorem dX8_showers_78 : decode cX8_showers 78 = .ok (.aload_n 0, 1) := by decide +kernel
theorem dX8_showers_79 : decode cX8_showers 79 = .ok (.iload 7, 2) := by decide +kernel
theorem dX8_showers_81 : decode cX8_showers 81 = .ok (.iload_n 2, 1) := by decide +kernel
theorem dX8_showers_82 : decode cX8_showers 82 = .ok (.iload_n 1, 1) := by decide +kernel
theorem dX8_showers_83 : decode cX8_showers 83 = .ok (.invokevirtual 277, 3) := by decide +kernel
theorem dX8_showers_86 : decode cX8_showers 86 = .ok (.ifCond .eq 10, 3) := by decide +kernel
theorem dX8_showers_89 : decode cX8_showers 89 = .ok (.iload 5, 2) := by decide +kernel
theorem dX8_showers_91 : decode cX8_showers 91 = .ok (.iload 8, 2) := by decide +kernel
theorem dX8_showers_93 : decode cX8_showers 93 = .ok (.iadd, 1) := by decide +kernel
theorem dX8_showers_94 : decode cX8_showers 94 = .ok (.istore 5, 2) := by decide +kernel
theorem dX8_showers_96 : decode cX8_showers 96 = .ok (.iinc 7 1, 3) := by decide +kernel
theorem dX8_showers_99 : decode cX8_showers 99 = .ok (.goto (-50), 3) := by decide +kernel
theorem dX8_showers_102 : decode cX8_showers 102 = .ok (.iload 5, 2) := by decide +kernel
theorem dX8_showers_104 : decode cX8_showers 104 = .ok (.iload 6, 2) := by decide +kernel
theorem dX8_showers_106 : decode cX8_showers 106 = .ok (.invokestatic 280, 3) := by decide +kernel
theorem dX8_showers_109 : decode cX8_showers 109 = .ok (.istore 7, 2) := by decide +kernel
theorem dX8_showers_111 : decode cX8_showers 111 = .ok (.iload 7, 2) := by decide +kernel
theorem dX8_showers_113 : decode cX8_showers 113 = .ok (.iconst 1, 1) := by decide +kernel
theorem dX8_showers_114 : decode cX8_showers 114 = .ok (.if_icmp .ge 6, 3) := by decide +kernel
theorem dX8_showers_117 : decode cX8_showers 117 = .ok (.bipush (-4), 2) := by decide +kernel
theorem dX8_showers_119 : decode cX8_showers 119 = .ok (.ireturn, 1) := by decide +kernel
theorem dX8_showers_120 : decode cX8_showers 120 = .ok (.iload 4, 2) := by decide +kernel
theorem dX8_showers_122 : decode cX8_showers 122 = .ok (.ifCond .ne 8, 3) := by decide +kernel
theorem dX8_showers_125 : decode cX8_showers 125 = .ok (.iload 5, 2) := by decide +kernel
theorem dX8_showers_127 : decode cX8_showers 127 = .ok (.goto 5, 3) := by decide +kernel
theorem dX8_showers_130 : decode cX8_showers 130 = .ok (.iload 6, 2) := by decide +kernel
theorem dX8_showers_132 : decode cX8_showers 132 = .ok (.iload 7, 2) := by decide +kernel
theorem dX8_showers_134 : decode cX8_showers 134 = .ok (.idiv, 1) := by decide +kernel
theorem dX8_showers_135 : decode cX8_showers 135 = .ok (.ireturn, 1) := by decide +kernel
theorem dX8_summer_0 : decode cX8_summer 0 = .ok (.iload_n 1, 1) := by decide +kernel
theorem dX8_summer_1 : decode cX8_summer 1 = .ok (.iconst 0, 1) := by decide +kernel
theorem dX8_summer_2 : decode cX8_summer 2 = .ok (.sipush 9999, 3) := by decide +kernel
theorem dX8_summer_5 : decode cX8_summer 5 = .ok (.invokestatic 123, 3) := by decide +kernel
theorem dX8_summer_8 : decode cX8_summer 8 = .ok (.ifCond .eq 22, 3) := by decide +kernel
theorem dX8_summer_11 : decode cX8_summer 11 = .ok (.iload_n 2, 1) := by decide +kernel
theorem dX8_summer_12 : decode cX8_summer 12 = .ok (.iconst 1, 1) := by decide +kernel
theorem dX8_summer_13 : decode cX8_summer 13 = .ok (.bipush 60, 2) := by decide +kernel
theorem dX8_summer_15 : decode cX8_summer 15 = .ok (.invokestatic 123, 3) := by decide +kernel
theorem dX8_summer_18 : decode cX8_summer 18 = .ok (.ifCond .eq 12, 3) := by decide +kernel
theorem dX8_summer_21 : decode cX8_summer 21 = .ok (.iload_n 3, 1) := by decide +kernel
theorem dX8_summer_22 : decode cX8_summer 22 = .ok (.iconst 0, 1) := by decide +kernel
theorem dX8_summer_23 : decode cX8_summer 23 = .ok (.iconst 1, 1) := by decide +kernel
theorem dX8_summer_24 : decode cX8_summer 24 = .ok (.invokestatic 123, 3) := by decide +kernel
theorem dX8_summer_27 : decode cX8_summer 27 = .ok (.ifCond .ne 5, 3) := by decide +kernel
theorem dX8_summer_30 : decode cX8_summer 30 = .ok (.iconst (-1), 1) := by decide +kernel
theorem dX8_summer_31 : decode cX8_summer 31 = .ok (.ireturn, 1) := by decide +kernel
theorem dX8_summer_32 : decode cX8_summer 32 = .ok (.aload_n 0, 1) := by decide +kernel
theorem dX8_summer_33 : decode cX8_summer 33 = .ok (.getfield 41, 3) := by decide +kernel
theorem dX8_summer_36 : decode cX8_summer 36 = .ok (.aload_n 0, 1) := by decide +kernel
theorem dX8_summer_37 : decode cX8_summer 37 = .ok (.getfield 37, 3) := by decide +kernel
theorem dX8_summer_40 : decode cX8_summer 40 = .ok (.invokevirtual 203, 3) := by decide +kernel
theorem dX8_summer_43 : decode cX8_summer 43 = .ok (.iconst 0, 1) := by decide +kernel
theorem dX8_summer_44 : decode cX8_summer 44 = .ok (.istore 4, 2) := by decide +kernel
theorem dX8_summer_46 : decode cX8_summer 46 = .ok (.iload 4, 2) := by decide +kernel
theorem dX8_summer_48 : decode cX8_summer 48 = .ok (.iload_n 2, 1) := by decide +kernel
theorem dX8_summer_49 : decode cX8_summer 49 = .ok (.if_icmp .ge 31, 3) := by decide +kernel
theorem dX8_summer_52 : decode cX8_summer 52 = .ok (.aload_n 0, 1) := by decide +kernel
theorem dX8_summer_53 : decode cX8_summer 53 = .ok (.iload_n 1, 1) := by decide +kernel
theorem dX8_summer_54 : decode cX8_summer 54 = .ok (.iload 4, 2) := by decide +kernel
theorem dX8_summer_56 : decode cX8_summer 56 = .ok (.invokestatic 283, 3) := by decide +kernel
theorem dX8_summer_59 : decode cX8_summer 59 = .ok (.invokevirtual 286, 3) := by decide +kernel
theorem dX8_summer_62 : decode cX8_summer 62 = .ok (.aload_n 0, 1) := by decide +kernel
theorem dX8_summer_63 : decode cX8_summer 63 = .ok (.getfield 41, 3) := by decide +kernel
theorem dX8_summer_66 : decode cX8_summer 66 = .ok (.aload_n 0, 1) := by decide +kernel
theorem dX8_summer_67 : decode cX8_summer 67 = .ok (.getfield 27, 3) := by decide +kernel
theorem dX8_summer_70 : decode cX8_summer 70 = .ok (.iconst 1, 1) := by decide +kernel
theorem dX8_summer_71 : decode cX8_summer 71 = .ok (.invokevirtual 186, 3) := by decide +kernel
theorem dX8_summer_74 : decode cX8_summer 74 = .ok (.iinc 4 1, 3) := by decide +kernel
theorem dX8_summer_77 : decode cX8_summer 77 = .ok (.goto (-31), 3) := by decide +kernel
theorem dX8_summer_80 : decode cX8_summer 80 = .ok (.iload_n 3, 1) := by decide +kernel
theorem dX8_summer_81 : decode cX8_summer 81 = .ok (.ifCond .ne 20, 3) := by decide +kernel
theorem dX8_summer_84 : decode cX8_summer 84 = .ok (.aload_n 0, 1) := by decide +kernel
theorem dX8_summer_85 : decode cX8_summer 85 = .ok (.getfield 41, 3) := by decide +kernel
theorem dX8_summer_88 : decode cX8_summer 88 = .ok (.aload_n 0, 1) := by decide +kernel
theorem dX8_summer_89 : decode cX8_summer 89 = .ok (.getfield 27, 3) := by decide +kernel
theorem dX8_summer_92 : decode cX8_summer 92 = .ok (.invokevirtual 166, 3) := by decide +kernel
theorem dX8_summer_95 : decode cX8_summer 95 = .ok (.invokestatic 192, 3) := by decide +kernel
theorem dX8_summer_98 : decode cX8_summer 98 = .ok (.goto 14, 3) := by decide +kernel
theorem dX8_summer_101 : decode cX8_summer 101 = .ok (.aload_n 0, 1) := by decide +kernel
theorem dX8_summer_102 : decode cX8_summer 102 = .ok (.getfield 41, 3) := by decide +kernel
theorem dX8_summer_105 : decode cX8_summer 105 = .ok (.aload_n 0, 1) := by decide +kernel
theorem dX8_summer_106 : decode cX8_summer 106 = .ok (.getfield 27, 3) := by decide +kernel
theorem dX8_summer_109 : decode cX8_summer 109 = .ok (.invokevirtual 289, 3) := by decide +kernel
theorem dX8_summer_112 : decode cX8_summer 112 = .ok (.ireturn, 1) := by decide +kernel
theorem dX8_keep_0 : decode cX8_keep 0 = .ok (.aload_n 0, 1) := by decide +kernel
theorem dX8_keep_1 : decode cX8_keep 1 = .ok (.getfield 53, 3) := by decide +kernel
theorem dX8_keep_4 : decode cX8_keep 4 = .ok (.getfield 197, 3) := by decide +kernel
theorem dX8_keep_7 : decode cX8_keep 7 = .ok (.iconst 2, 1) := by decide +kernel
theorem dX8_keep_8 : decode cX8_keep 8 = .ok (.if_icmp .lt 6, 3) := by decide +kernel
theorem dX8_keep_11 : decode cX8_keep 11 = .ok (.bipush (-3), 2) := by decide +kernel
theorem dX8_keep_13 : decode cX8_keep 13 = .ok (.ireturn, 1) := by decide +kernel
theorem dX8_keep_14 : decode cX8_keep 14 = .ok (.aload_n 0, 1) := by decide +kernel
theorem dX8_keep_15 : decode cX8_keep 15 = .ok (.getfield 53, 3) := by decide +kernel
theorem dX8_keep_18 : decode cX8_keep 18 = .ok (.aload_n 0, 1) := by decide +kernel
theorem dX8_keep_19 : decode cX8_keep 19 = .ok (.getfield 37, 3) := by decide +kernel
theorem dX8_keep_22 : decode cX8_keep 22 = .ok (.invokevirtual 178, 3) := by decide +kernel
theorem dX8_keep_25 : decode cX8_keep 25 = .ok (.aload_n 0, 1) := by decide +kernel
theorem dX8_keep_26 : decode cX8_keep 26 = .ok (.getfield 53, 3) := by decide +kernel
theorem dX8_keep_29 : decode cX8_keep 29 = .ok (.getfield 197, 3) := by decide +kernel
theorem dX8_keep_32 : decode cX8_keep 32 = .ok (.ireturn, 1) := by decide +kernel
theorem dX8_back_0 : decode cX8_back 0 = .ok (.aload_n 0, 1) := by decide +kernel
theorem dX8_back_1 : decode cX8_back 1 = .ok (.getfield 53, 3) := by decide +kernel
theorem dX8_back_4 : decode cX8_back 4 = .ok (.getfield 197, 3) := by decide +kernel
theorem dX8_back_7 : decode cX8_back 7 = .ok (.iconst 1, 1) := by decide +kernel
theorem dX8_back_8 : decode cX8_back 8 = .ok (.if_icmp .ge 6, 3) := by decide +kernel
theorem dX8_back_11 : decode cX8_back 11 = .ok (.bipush (-2), 2) := by decide +kernel
theorem dX8_back_13 : decode cX8_back 13 = .ok (.ireturn, 1) := by decide +kernel
theorem dX8_back_14 : decode cX8_back 14 = .ok (.aload_n 0, 1) := by decide +kernel
theorem dX8_back_15 : decode cX8_back 15 = .ok (.getfield 53, 3) := by decide +kernel
theorem dX8_back_18 : decode cX8_back 18 = .ok (.aload_n 0, 1) := by decide +kernel
theorem dX8_back_19 : decode cX8_back 19 = .ok (.getfield 37, 3) := by decide +kernel
theorem dX8_back_22 : decode cX8_back 22 = .ok (.invokevirtual 200, 3) := by decide +kernel
theorem dX8_back_25 : decode cX8_back 25 = .ok (.aload_n 0, 1) := by decide +kernel
theorem dX8_back_26 : decode cX8_back 26 = .ok (.getfield 49, 3) := by decide +kernel
theorem dX8_back_29 : decode cX8_back 29 = .ok (.invokevirtual 292, 3) := by decide +kernel
theorem dX8_back_32 : decode cX8_back 32 = .ok (.aload_n 0, 1) := by decide +kernel
theorem dX8_back_33 : decode cX8_back 33 = .ok (.getfield 53, 3) := by decide +kernel
theorem dX8_back_36 : decode cX8_back 36 = .ok (.getfield 197, 3) := by decide +kernel
theorem dX8_back_39 : decode cX8_back 39 = .ok (.ireturn, 1) := by decide +kernel
theorem dX8_count_0 : decode cX8_count 0 = .ok (.iload_n 1, 1) := by decide +kernel
theorem dX8_count_1 : decode cX8_count 1 = .ok (.tableswitch 197 0 11 #[63, 71, 79, 87, 95, 110, 122, 134, 168, 176, 184, 192], 63) := by decide +kernel
theorem dX8_count_64 : decode cX8_count 64 = .ok (.aload_n 0, 1) := by decide +kernel
theorem dX8_count_65 : decode cX8_count 65 = .ok (.getfield 27, 3) := by decide +kernel
theorem dX8_count_68 : decode cX8_count 68 = .ok (.getfield 293, 3) := by decide +kernel
theorem dX8_count_71 : decode cX8_count 71 = .ok (.ireturn, 1) := by decide +kernel
theorem dX8_count_72 : decode cX8_count 72 = .ok (.aload_n 0, 1) := by decide +kernel
theorem dX8_count_73 : decode cX8_count 73 = .ok (.getfield 27, 3) := by decide +kernel
theorem dX8_count_76 : decode cX8_count 76 = .ok (.getfield 113, 3) := by decide +kernel
theorem dX8_count_79 : decode cX8_count 79 = .ok (.ireturn, 1) := by decide +kernel
theorem dX8_count_80 : decode cX8_count 80 = .ok (.aload_n 0, 1) := by decide +kernel
theorem dX8_count_81 : decode cX8_count 81 = .ok (.getfield 27, 3) := by decide +kernel
theorem dX8_count_84 : decode cX8_count 84 = .ok (.getfield 116, 3) := by decide +kernel
theorem dX8_count_87 : decode cX8_count 87 = .ok (.ireturn, 1) := by decide +kernel
theorem dX8_count_88 : decode cX8_count 88 = .ok (.aload_n 0, 1) := by decide +kernel
theorem dX8_count_89 : decode cX8_count 89 = .ok (.getfield 37, 3) := by decide +kernel
theorem dX8_count_92 : decode cX8_count 92 = .ok (.getfield 154, 3) := by decide +kernel
theorem dX8_count_95 : decode cX8_count 95 = .ok (.ireturn, 1) := by decide +kernel
theorem dX8_count_96 : decode cX8_count 96 = .ok (.aload_n 0, 1) := by decide +kernel
theorem dX8_count_97 : decode cX8_count 97 = .ok (.getfield 37, 3) := by decide +kernel
theorem dX8_count_100 : decode cX8_count 100 = .ok (.aload_n 0, 1) := by decide +kernel
theorem dX8_count_101 : decode cX8_count 101 = .ok (.getfield 27, 3) := by decide +kernel
theorem dX8_count_104 : decode cX8_count 104 = .ok (.invokevirtual 166, 3) := by decide +kernel
theorem dX8_count_107 : decode cX8_count 107 = .ok (.invokestatic 192, 3) := by decide +kernel
theorem dX8_count_110 : decode cX8_count 110 = .ok (.ireturn, 1) := by decide +kernel
theorem dX8_count_111 : decode cX8_count 111 = .ok (.aload_n 0, 1) := by decide +kernel
theorem dX8_count_112 : decode cX8_count 112 = .ok (.getfield 37, 3) := by decide +kernel
theorem dX8_count_115 : decode cX8_count 115 = .ok (.aload_n 0, 1) := by decide +kernel
theorem dX8_count_116 : decode cX8_count 116 = .ok (.getfield 27, 3) := by decide +kernel
theorem dX8_count_119 : decode cX8_count 119 = .ok (.invokevirtual 289, 3) := by decide +kernel
theorem dX8_count_122 : decode cX8_count 122 = .ok (.ireturn, 1) := by decide +kernel
theorem dX8_count_123 : decode cX8_count 123 = .ok (.aload_n 0, 1) := by decide +kernel
theorem dX8_count_124 : decode cX8_count 124 = .ok (.getfield 37, 3) := by decide +kernel
theorem dX8_count_127 : decode cX8_count 127 = .ok (.aload_n 0, 1) := by decide +kernel
theorem dX8_count_128 : decode cX8_count 128 = .ok (.getfield 27, 3) := by decide +kernel
theorem dX8_count_131 : decode cX8_count 131 = .ok (.invokevirtual 296, 3) := by decide +kernel
theorem dX8_count_134 : decode cX8_count 134 = .ok (.ireturn, 1) := by decide +kernel
theorem dX8_count_135 : decode cX8_count 135 = .ok (.aload_n 0, 1) := by decide +kernel
theorem dX8_count_136 : decode cX8_count 136 = .ok (.getfield 66, 3) := by decide +kernel
theorem dX8_count_139 : decode cX8_count 139 = .ok (.aload_n 0, 1) := by decide +kernel
theorem dX8_count_140 : decode cX8_count 140 = .ok (.getfield 27, 3) := by decide +kernel
theorem dX8_count_143 : decode cX8_count 143 = .ok (.aload_n 0, 1) := by decide +kernel
theorem dX8_count_144 : decode cX8_count 144 = .ok (.getfield 37, 3) := by decide +kernel
theorem dX8_count_147 : decode cX8_count 147 = .ok (.aload_n 0, 1) := by decide +kernel
theorem dX8_count_148 : decode cX8_count 148 = .ok (.getfield 27, 3) := by decide +kernel
theorem dX8_count_151 : decode cX8_count 151 = .ok (.invokevirtual 166, 3) := by decide +kernel
theorem dX8_count_154 : decode cX8_count 154 = .ok (.invokevirtual 170, 3) := by decide +kernel
theorem dX8_count_157 : decode cX8_count 157 = .ok (.aload_n 0, 1) := by decide +kernel
theorem dX8_count_158 : decode cX8_count 158 = .ok (.getfield 66, 3) := by decide +kernel
theorem dX8_count_161 : decode cX8_count 161 = .ok (.aload_n 0, 1) := by decide +kernel
theorem dX8_count_162 : decode cX8_count 162 = .ok (.getfield 27, 3) := by decide +kernel
theorem dX8_count_165 : decode cX8_count 165 = .ok (.invokevirtual 299, 3) := by decide +kernel
theorem dX8_count_168 : decode cX8_count 168 = .ok (.ireturn, 1) := by decide +kernel
theorem dX8_count_169 : decode cX8_count 169 = .ok (.aload_n 0, 1) := by decide +kernel
theorem dX8_count_170 : decode cX8_count 170 = .ok (.getfield 59, 3) := by decide +kernel
theorem dX8_count_173 : decode cX8_count 173 = .ok (.getfield 246, 3) := by decide +kernel
theorem dX8_count_176 : decode cX8_count 176 = .ok (.ireturn, 1) := by decide +kernel
theorem dX8_count_177 : decode cX8_count 177 = .ok (.aload_n 0, 1) := by decide +kernel
theorem dX8_count_178 : decode cX8_count 178 = .ok (.getfield 49, 3) := by decide +kernel
theorem dX8_count_181 : decode cX8_count 181 = .ok (.getfield 197, 3) := by decide +kernel
theorem dX8_count_184 : decode cX8_count 184 = .ok (.ireturn, 1) := by decide +kernel
theorem dX8_count_185 : decode cX8_count 185 = .ok (.aload_n 0, 1) := by decide +kernel
theorem dX8_count_186 : decode cX8_count 186 = .ok (.getfield 53, 3) := by decide +kernel
theorem dX8_count_189 : decode cX8_count 189 = .ok (.getfield 197, 3) := by decide +kernel
theorem dX8_count_192 : decode cX8_count 192 = .ok (.ireturn, 1) := by decide +kernel
theorem dX8_count_193 : decode cX8_count 193 = .ok (.aload_n 0, 1) := by decide +kernel
theorem dX8_count_194 : decode cX8_count 194 = .ok (.getfield 13, 3) := by decide +kernel
theorem dX8_count_197 : decode cX8_count 197 = .ok (.ireturn, 1) := by decide +kernel
theorem dX8_count_198 : decode cX8_count 198 = .ok (.iconst (-1), 1) := by decide +kernel
theorem dX8_count_199 : decode cX8_count 199 = .ok (.ireturn, 1) := by decide +kernel
theorem dX8_beginAnew_0 : decode cX8_beginAnew 0 = .ok (.aload_n 0, 1) := by decide +kernel
theorem dX8_beginAnew_1 : decode cX8_beginAnew 1 = .ok (.getfield 37, 3) := by decide +kernel
theorem dX8_beginAnew_4 : decode cX8_beginAnew 4 = .ok (.aload_n 0, 1) := by decide +kernel
theorem dX8_beginAnew_5 : decode cX8_beginAnew 5 = .ok (.getfield 27, 3) := by decide +kernel
theorem dX8_beginAnew_8 : decode cX8_beginAnew 8 = .ok (.invokevirtual 302, 3) := by decide +kernel
theorem dX8_beginAnew_11 : decode cX8_beginAnew 11 = .ok (.aload_n 0, 1) := by decide +kernel
theorem dX8_beginAnew_12 : decode cX8_beginAnew 12 = .ok (.getfield 49, 3) := by decide +kernel
theorem dX8_beginAnew_15 : decode cX8_beginAnew 15 = .ok (.invokevirtual 292, 3) := by decide +kernel
theorem dX8_beginAnew_18 : decode cX8_beginAnew 18 = .ok (.aload_n 0, 1) := by decide +kernel
theorem dX8_beginAnew_19 : decode cX8_beginAnew 19 = .ok (.getfield 53, 3) := by decide +kernel
theorem dX8_beginAnew_22 : decode cX8_beginAnew 22 = .ok (.invokevirtual 292, 3) := by decide +kernel
theorem dX8_beginAnew_25 : decode cX8_beginAnew 25 = .ok (.aload_n 0, 1) := by decide +kernel
theorem dX8_beginAnew_26 : decode cX8_beginAnew 26 = .ok (.getfield 59, 3) := by decide +kernel
theorem dX8_beginAnew_29 : decode cX8_beginAnew 29 = .ok (.invokevirtual 250, 3) := by decide +kernel
theorem dX8_beginAnew_32 : decode cX8_beginAnew 32 = .ok (.return_, 1) := by decide +kernel
theorem dX8_isGap_0 : decode cX8_isGap 0 = .ok (.iload_n 1, 1) := by decide +kernel
theorem dX8_isGap_1 : decode cX8_isGap 1 = .ok (.iconst 0, 1) := by decide +kernel
theorem dX8_isGap_2 : decode cX8_isGap 2 = .ok (.aload_n 0, 1) := by decide +kernel
theorem dX8_isGap_3 : decode cX8_isGap 3 = .ok (.getfield 27, 3) := by decide +kernel
theorem dX8_isGap_6 : decode cX8_isGap 6 = .ok (.getfield 113, 3) := by decide +kernel
theorem dX8_isGap_9 : decode cX8_isGap 9 = .ok (.iconst 1, 1) := by decide +kernel
theorem dX8_isGap_10 : decode cX8_isGap 10 = .ok (.isub, 1) := by decide +kernel
theorem dX8_isGap_11 : decode cX8_isGap 11 = .ok (.invokestatic 123, 3) := by decide +kernel
theorem dX8_isGap_14 : decode cX8_isGap 14 = .ok (.ireturn, 1) := by decide +kernel
theorem dX8_isStitcher_0 : decode cX8_isStitcher 0 = .ok (.iload_n 1, 1) := by decide +kernel
theorem dX8_isStitcher_1 : decode cX8_isStitcher 1 = .ok (.iconst 0, 1) := by decide +kernel
theorem dX8_isStitcher_2 : decode cX8_isStitcher 2 = .ok (.aload_n 0, 1) := by decide +kernel
theorem dX8_isStitcher_3 : decode cX8_isStitcher 3 = .ok (.getfield 27, 3) := by decide +kernel
theorem dX8_isStitcher_6 : decode cX8_isStitcher 6 = .ok (.getfield 116, 3) := by decide +kernel
theorem dX8_isStitcher_9 : decode cX8_isStitcher 9 = .ok (.iconst 1, 1) := by decide +kernel
theorem dX8_isStitcher_10 : decode cX8_isStitcher 10 = .ok (.isub, 1) := by decide +kernel
theorem dX8_isStitcher_11 : decode cX8_isStitcher 11 = .ok (.invokestatic 123, 3) := by decide +kernel
theorem dX8_isStitcher_14 : decode cX8_isStitcher 14 = .ok (.ireturn, 1) := by decide +kernel
theorem dX8_isPiece_0 : decode cX8_isPiece 0 = .ok (.iload_n 1, 1) := by decide +kernel
theorem dX8_isPiece_1 : decode cX8_isPiece 1 = .ok (.iconst 0, 1) := by decide +kernel
theorem dX8_isPiece_2 : decode cX8_isPiece 2 = .ok (.aload_n 0, 1) := by decide +kernel
theorem dX8_isPiece_3 : decode cX8_isPiece 3 = .ok (.getfield 27, 3) := by decide +kernel
theorem dX8_isPiece_6 : decode cX8_isPiece 6 = .ok (.getfield 293, 3) := by decide +kernel
theorem dX8_isPiece_9 : decode cX8_isPiece 9 = .ok (.iconst 1, 1) := by decide +kernel
theorem dX8_isPiece_10 : decode cX8_isPiece 10 = .ok (.isub, 1) := by decide +kernel
theorem dX8_isPiece_11 : decode cX8_isPiece 11 = .ok (.invokestatic 123, 3) := by decide +kernel
theorem dX8_isPiece_14 : decode cX8_isPiece 14 = .ok (.ireturn, 1) := by decide +kernel
theorem dX8_weightOf_0 : decode cX8_weightOf 0 = .ok (.iconst 1, 1) := by decide +kernel
theorem dX8_weightOf_1 : decode cX8_weightOf 1 = .ok (.istore_n 3, 1) := by decide +kernel
theorem dX8_weightOf_2 : decode cX8_weightOf 2 = .ok (.iconst 0, 1) := by decide +kernel
theorem dX8_weightOf_3 : decode cX8_weightOf 3 = .ok (.istore 4, 2) := by decide +kernel
theorem dX8_weightOf_5 : decode cX8_weightOf 5 = .ok (.iload 4, 2) := by decide +kernel
theorem dX8_weightOf_7 : decode cX8_weightOf 7 = .ok (.iload_n 1, 1) := by decide +kernel
theorem dX8_weightOf_8 : decode cX8_weightOf 8 = .ok (.if_icmp .ge 29, 3) := by decide +kernel
theorem dX8_weightOf_11 : decode cX8_weightOf 11 = .ok (.iload_n 3, 1) := by decide +kernel
theorem dX8_weightOf_12 : decode cX8_weightOf 12 = .ok (.iload_n 0, 1) := by decide +kernel
theorem dX8_weightOf_13 : decode cX8_weightOf 13 = .ok (.iload 4, 2) := by decide +kernel
theorem dX8_weightOf_15 : decode cX8_weightOf 15 = .ok (.invokestatic 305, 3) := by decide +kernel
theorem dX8_weightOf_18 : decode cX8_weightOf 18 = .ok (.ifCond .eq 7, 3) := by decide +kernel
theorem dX8_weightOf_21 : decode cX8_weightOf 21 = .ok (.iload_n 2, 1) := by decide +kernel
theorem dX8_weightOf_22 : decode cX8_weightOf 22 = .ok (.goto 7, 3) := by decide +kernel
theorem dX8_weightOf_25 : decode cX8_weightOf 25 = .ok (.bipush 10, 2) := by decide +kernel
theorem dX8_weightOf_27 : decode cX8_weightOf 27 = .ok (.iload_n 2, 1) := by decide +kernel
theorem dX8_weightOf_28 : decode cX8_weightOf 28 = .ok (.isub, 1) := by decide +kernel
theorem dX8_weightOf_29 : decode cX8_weightOf 29 = .ok (.imul, 1) := by decide +kernel
theorem dX8_weightOf_30 : decode cX8_weightOf 30 = .ok (.istore_n 3, 1) := by decide +kernel
theorem dX8_weightOf_31 : decode cX8_weightOf 31 = .ok (.iinc 4 1, 3) := by decide +kernel
theorem dX8_weightOf_34 : decode cX8_weightOf 34 = .ok (.goto (-29), 3) := by decide +kernel
theorem dX8_weightOf_37 : decode cX8_weightOf 37 = .ok (.iload_n 3, 1) := by decide +kernel
theorem dX8_weightOf_38 : decode cX8_weightOf 38 = .ok (.ireturn, 1) := by decide +kernel
theorem dX8_isClosedBehind_0 : decode cX8_isClosedBehind 0 = .ok (.aload_n 0, 1) := by decide +kernel
theorem dX8_isClosedBehind_1 : decode cX8_isClosedBehind 1 = .ok (.getfield 41, 3) := by decide +kernel
theorem dX8_isClosedBehind_4 : decode cX8_isClosedBehind 4 = .ok (.aload_n 0, 1) := by decide +kernel
theorem dX8_isClosedBehind_5 : decode cX8_isClosedBehind 5 = .ok (.getfield 37, 3) := by decide +kernel
theorem dX8_isClosedBehind_8 : decode cX8_isClosedBehind 8 = .ok (.invokevirtual 203, 3) := by decide +kernel
theorem dX8_isClosedBehind_11 : decode cX8_isClosedBehind 11 = .ok (.iconst 0, 1) := by decide +kernel
theorem dX8_isClosedBehind_12 : decode cX8_isClosedBehind 12 = .ok (.istore 4, 2) := by decide +kernel
theorem dX8_isClosedBehind_14 : decode cX8_isClosedBehind 14 = .ok (.iload 4, 2) := by decide +kernel
theorem dX8_isClosedBehind_16 : decode cX8_isClosedBehind 16 = .ok (.iload_n 2, 1) := by decide +kernel
theorem dX8_isClosedBehind_17 : decode cX8_isClosedBehind 17 = .ok (.if_icmp .ge 26, 3) := by decide +kernel
theorem dX8_isClosedBehind_20 : decode cX8_isClosedBehind 20 = .ok (.aload_n 0, 1) := by decide +kernel
theorem dX8_isClosedBehind_21 : decode cX8_isClosedBehind 21 = .ok (.getfield 41, 3) := by decide +kernel
theorem dX8_isClosedBehind_24 : decode cX8_isClosedBehind 24 = .ok (.aload_n 0, 1) := by decide +kernel
theorem dX8_isClosedBehind_25 : decode cX8_isClosedBehind 25 = .ok (.getfield 27, 3) := by decide +kernel
theorem dX8_isClosedBehind_28 : decode cX8_isClosedBehind 28 = .ok (.iload_n 1, 1) := by decide +kernel
theorem dX8_isClosedBehind_29 : decode cX8_isClosedBehind 29 = .ok (.iload 4, 2) := by decide +kernel
theorem dX8_isClosedBehind_31 : decode cX8_isClosedBehind 31 = .ok (.invokestatic 305, 3) := by decide +kernel
theorem dX8_isClosedBehind_34 : decode cX8_isClosedBehind 34 = .ok (.invokevirtual 308, 3) := by decide +kernel
theorem dX8_isClosedBehind_37 : decode cX8_isClosedBehind 37 = .ok (.iinc 4 1, 3) := by decide +kernel
theorem dX8_isClosedBehind_40 : decode cX8_isClosedBehind 40 = .ok (.goto (-26), 3) := by decide +kernel
theorem dX8_isClosedBehind_43 : decode cX8_isClosedBehind 43 = .ok (.aload_n 0, 1) := by decide +kernel
theorem dX8_isClosedBehind_44 : decode cX8_isClosedBehind 44 = .ok (.getfield 41, 3) := by decide +kernel
theorem dX8_isClosedBehind_47 : decode cX8_isClosedBehind 47 = .ok (.aload_n 0, 1) := by decide +kernel
theorem dX8_isClosedBehind_48 : decode cX8_isClosedBehind 48 = .ok (.getfield 27, 3) := by decide +kernel
theorem dX8_isClosedBehind_51 : decode cX8_isClosedBehind 51 = .ok (.iload_n 3, 1) := by decide +kernel
theorem dX8_isClosedBehind_52 : decode cX8_isClosedBehind 52 = .ok (.invokevirtual 134, 3) := by decide +kernel
theorem dX8_isClosedBehind_55 : decode cX8_isClosedBehind 55 = .ok (.ireturn, 1) := by decide +kernel
theorem dX8_drawOf_0 : decode cX8_drawOf 0 = .ok (.ldc2_w 312, 3) := by decide +kernel
theorem dX8_drawOf_3 : decode cX8_drawOf 3 = .ok (.iload_n 0, 1) := by decide +kernel
theorem dX8_drawOf_4 : decode cX8_drawOf 4 = .ok (.i2l, 1) := by decide +kernel
theorem dX8_drawOf_5 : decode cX8_drawOf 5 = .ok (.lmul, 1) := by decide +kernel
theorem dX8_drawOf_6 : decode cX8_drawOf 6 = .ok (.ldc2_w 314, 3) := by decide +kernel
theorem dX8_drawOf_9 : decode cX8_drawOf 9 = .ok (.iload_n 1, 1) := by decide +kernel
theorem dX8_drawOf_10 : decode cX8_drawOf 10 = .ok (.i2l, 1) := by decide +kernel
theorem dX8_drawOf_11 : decode cX8_drawOf 11 = .ok (.lmul, 1) := by decide +kernel
theorem dX8_drawOf_12 : decode cX8_drawOf 12 = .ok (.ladd, 1) := by decide +kernel
theorem dX8_drawOf_13 : decode cX8_drawOf 13 = .ok (.lconst 1, 1) := by decide +kernel
theorem dX8_drawOf_14 : decode cX8_drawOf 14 = .ok (.ladd, 1) := by decide +kernel
theorem dX8_drawOf_15 : decode cX8_drawOf 15 = .ok (.lstore_n 2, 1) := by decide +kernel
theorem dX8_drawOf_16 : decode cX8_drawOf 16 = .ok (.lload_n 2, 1) := by decide +kernel
theorem dX8_drawOf_17 : decode cX8_drawOf 17 = .ok (.lload_n 2, 1) := by decide +kernel
theorem dX8_drawOf_18 : decode cX8_drawOf 18 = .ok (.lmul, 1) := by decide +kernel
theorem dX8_drawOf_19 : decode cX8_drawOf 19 = .ok (.ldc2_w 316, 3) := by decide +kernel
theorem dX8_drawOf_22 : decode cX8_drawOf 22 = .ok (.lrem, 1) := by decide +kernel
theorem dX8_drawOf_23 : decode cX8_drawOf 23 = .ok (.l2i, 1) := by decide +kernel
theorem dX8_drawOf_24 : decode cX8_drawOf 24 = .ok (.ireturn, 1) := by decide +kernel
theorem dX8_actByDraw_0 : decode cX8_actByDraw 0 = .ok (.aload_n 0, 1) := by decide +kernel
theorem dX8_actByDraw_1 : decode cX8_actByDraw 1 = .ok (.getfield 27, 3) := by decide +kernel
theorem dX8_actByDraw_4 : decode cX8_actByDraw 4 = .ok (.getfield 113, 3) := by decide +kernel
theorem dX8_actByDraw_7 : decode cX8_actByDraw 7 = .ok (.iconst 1, 1) := by decide +kernel
theorem dX8_actByDraw_8 : decode cX8_actByDraw 8 = .ok (.if_icmp .lt 14, 3) := by decide +kernel
theorem dX8_actByDraw_11 : decode cX8_actByDraw 11 = .ok (.aload_n 0, 1) := by decide +kernel
theorem dX8_actByDraw_12 : decode cX8_actByDraw 12 = .ok (.getfield 27, 3) := by decide +kernel
theorem dX8_actByDraw_15 : decode cX8_actByDraw 15 = .ok (.getfield 116, 3) := by decide +kernel
theorem dX8_actByDraw_18 : decode cX8_actByDraw 18 = .ok (.iconst 1, 1) := by decide +kernel
theorem dX8_actByDraw_19 : decode cX8_actByDraw 19 = .ok (.if_icmp .ge 4, 3) := by decide +kernel
theorem dX8_actByDraw_22 : decode cX8_actByDraw 22 = .ok (.return_, 1) := by decide +kernel
theorem dX8_actByDraw_23 : decode cX8_actByDraw 23 = .ok (.iload_n 1, 1) := by decide +kernel
theorem dX8_actByDraw_24 : decode cX8_actByDraw 24 = .ok (.bipush 8, 2) := by decide +kernel
theorem dX8_actByDraw_26 : decode cX8_actByDraw 26 = .ok (.irem, 1) := by decide +kernel
theorem dX8_actByDraw_27 : decode cX8_actByDraw 27 = .ok (.istore_n 2, 1) := by decide +kernel
theorem dX8_actByDraw_28 : decode cX8_actByDraw 28 = .ok (.iload_n 2, 1) := by decide +kernel
theorem dX8_actByDraw_29 : decode cX8_actByDraw 29 = .ok (.iconst 4, 1) := by decide +kernel
theorem dX8_actByDraw_30 : decode cX8_actByDraw 30 = .ok (.if_icmp .ge 54, 3) := by decide +kernel
theorem dX8_actByDraw_33 : decode cX8_actByDraw 33 = .ok (.iload_n 1, 1) := by decide +kernel
theorem dX8_actByDraw_34 : decode cX8_actByDraw 34 = .ok (.bipush 64, 2) := by decide +kernel
theorem dX8_actByDraw_36 : decode cX8_actByDraw 36 = .ok (.idiv, 1) := by decide +kernel
theorem dX8_actByDraw_37 : decode cX8_actByDraw 37 = .ok (.aload_n 0, 1) := by decide +kernel
theorem dX8_actByDraw_38 : decode cX8_actByDraw 38 = .ok (.getfield 27, 3) := by decide +kernel
theorem dX8_actByDraw_41 : decode cX8_actByDraw 41 = .ok (.getfield 113, 3) := by decide +kernel
theorem dX8_actByDraw_44 : decode cX8_actByDraw 44 = .ok (.irem, 1) := by decide +kernel
theorem dX8_actByDraw_45 : decode cX8_actByDraw 45 = .ok (.istore_n 3, 1) := by decide +kernel
theorem dX8_actByDraw_46 : decode cX8_actByDraw 46 = .ok (.aload_n 0, 1) := by decide +kernel
theorem dX8_actByDraw_47 : decode cX8_actByDraw 47 = .ok (.getfield 41, 3) := by decide +kernel
theorem dX8_actByDraw_50 : decode cX8_actByDraw 50 = .ok (.aload_n 0, 1) := by decide +kernel
theorem dX8_actByDraw_51 : decode cX8_actByDraw 51 = .ok (.getfield 27, 3) := by decide +kernel
theorem dX8_actByDraw_54 : decode cX8_actByDraw 54 = .ok (.iload_n 3, 1) := by decide +kernel
theorem dX8_actByDraw_55 : decode cX8_actByDraw 55 = .ok (.invokevirtual 134, 3) := by decide +kernel
theorem dX8_actByDraw_58 : decode cX8_actByDraw 58 = .ok (.ifCond .ne 23, 3) := by decide +kernel
theorem dX8_actByDraw_61 : decode cX8_actByDraw 61 = .ok (.aload_n 0, 1) := by decide +kernel
theorem dX8_actByDraw_62 : decode cX8_actByDraw 62 = .ok (.getfield 41, 3) := by decide +kernel
theorem dX8_actByDraw_65 : decode cX8_actByDraw 65 = .ok (.iload_n 1, 1) := by decide +kernel
theorem dX8_actByDraw_66 : decode cX8_actByDraw 66 = .ok (.bipush 8, 2) := by decide +kernel
theorem dX8_actByDraw_68 : decode cX8_actByDraw 68 = .ok (.idiv, 1) := by decide +kernel
theorem dX8_actByDraw_69 : decode cX8_actByDraw 69 = .ok (.aload_n 0, 1) := by decide +kernel
theorem dX8_actByDraw_70 : decode cX8_actByDraw 70 = .ok (.getfield 27, 3) := by decide +kernel
theorem dX8_actByDraw_73 : decode cX8_actByDraw 73 = .ok (.getfield 116, 3) := by decide +kernel
theorem dX8_actByDraw_76 : decode cX8_actByDraw 76 = .ok (.irem, 1) := by decide +kernel
theorem dX8_actByDraw_77 : decode cX8_actByDraw 77 = .ok (.iload_n 3, 1) := by decide +kernel
theorem dX8_actByDraw_78 : decode cX8_actByDraw 78 = .ok (.invokevirtual 182, 3) := by decide +kernel
theorem dX8_actByDraw_81 : decode cX8_actByDraw 81 = .ok (.goto 44, 3) := by decide +kernel
theorem dX8_actByDraw_84 : decode cX8_actByDraw 84 = .ok (.iload_n 2, 1) := by decide +kernel
theorem dX8_actByDraw_85 : decode cX8_actByDraw 85 = .ok (.iconst 4, 1) := by decide +kernel
theorem dX8_actByDraw_86 : decode cX8_actByDraw 86 = .ok (.if_icmp .ne 39, 3) := by decide +kernel
theorem dX8_actByDraw_89 : decode cX8_actByDraw 89 = .ok (.iload_n 1, 1) := by decide +kernel
theorem dX8_actByDraw_90 : decode cX8_actByDraw 90 = .ok (.bipush 8, 2) := by decide +kernel
theorem dX8_actByDraw_92 : decode cX8_actByDraw 92 = .ok (.idiv, 1) := by decide +kernel
theorem dX8_actByDraw_93 : decode cX8_actByDraw 93 = .ok (.aload_n 0, 1) := by decide +kernel
theorem dX8_actByDraw_94 : decode cX8_actByDraw 94 = .ok (.getfield 27, 3) := by decide +kernel
theorem dX8_actByDraw_97 : decode cX8_actByDraw 97 = .ok (.getfield 113, 3) := by decide +kernel
theorem dX8_actByDraw_100 : decode cX8_actByDraw 100 = .ok (.irem, 1) := by decide +kernel
theorem dX8_actByDraw_101 : decode cX8_actByDraw 101 = .ok (.istore_n 3, 1) := by decide +kernel
theorem dX8_actByDraw_102 : decode cX8_actByDraw 102 = .ok (.aload_n 0, 1) := by decide +kernel
theorem dX8_actByDraw_103 : decode cX8_actByDraw 103 = .ok (.getfield 41, 3) := by decide +kernel
theorem dX8_actByDraw_106 : decode cX8_actByDraw 106 = .ok (.aload_n 0, 1) := by decide +kernel
theorem dX8_actByDraw_107 : decode cX8_actByDraw 107 = .ok (.getfield 27, 3) := by decide +kernel
theorem dX8_actByDraw_110 : decode cX8_actByDraw 110 = .ok (.iload_n 3, 1) := by decide +kernel
theorem dX8_actByDraw_111 : decode cX8_actByDraw 111 = .ok (.invokevirtual 134, 3) := by decide +kernel
theorem dX8_actByDraw_114 : decode cX8_actByDraw 114 = .ok (.ifCond .eq 11, 3) := by decide +kernel
theorem dX8_actByDraw_117 : decode cX8_actByDraw 117 = .ok (.aload_n 0, 1) := by decide +kernel
theorem dX8_actByDraw_118 : decode cX8_actByDraw 118 = .ok (.getfield 41, 3) := by decide +kernel
theorem dX8_actByDraw_121 : decode cX8_actByDraw 121 = .ok (.iload_n 3, 1) := by decide +kernel
theorem dX8_actByDraw_122 : decode cX8_actByDraw 122 = .ok (.invokevirtual 189, 3) := by decide +kernel
theorem dX8_actByDraw_125 : decode cX8_actByDraw 125 = .ok (.return_, 1) := by decide +kernel
theorem dX8_commonDivisor_0 : decode cX8_commonDivisor 0 = .ok (.iload_n 0, 1) := by decide +kernel
theorem dX8_commonDivisor_1 : decode cX8_commonDivisor 1 = .ok (.istore_n 2, 1) := by decide +kernel
theorem dX8_commonDivisor_2 : decode cX8_commonDivisor 2 = .ok (.iload_n 1, 1) := by decide +kernel
theorem dX8_commonDivisor_3 : decode cX8_commonDivisor 3 = .ok (.istore_n 3, 1) := by decide +kernel
theorem dX8_commonDivisor_4 : decode cX8_commonDivisor 4 = .ok (.iconst 0, 1) := by decide +kernel
theorem dX8_commonDivisor_5 : decode cX8_commonDivisor 5 = .ok (.istore 4, 2) := by decide +kernel
theorem dX8_commonDivisor_7 : decode cX8_commonDivisor 7 = .ok (.iload 4, 2) := by decide +kernel
theorem dX8_commonDivisor_9 : decode cX8_commonDivisor 9 = .ok (.sipush 1000, 3) := by decide +kernel
theorem dX8_commonDivisor_12 : decode cX8_commonDivisor 12 = .ok (.if_icmp .ge 23, 3) := by decide +kernel
theorem dX8_commonDivisor_15 : decode cX8_commonDivisor 15 = .ok (.iload_n 3, 1) := by decide +kernel
theorem dX8_commonDivisor_16 : decode cX8_commonDivisor 16 = .ok (.ifCond .eq 19, 3) := by decide +kernel
theorem dX8_commonDivisor_19 : decode cX8_commonDivisor 19 = .ok (.iload_n 2, 1) := by decide +kernel
theorem dX8_commonDivisor_20 : decode cX8_commonDivisor 20 = .ok (.iload_n 3, 1) := by decide +kernel
theorem dX8_commonDivisor_21 : decode cX8_commonDivisor 21 = .ok (.irem, 1) := by decide +kernel
theorem dX8_commonDivisor_22 : decode cX8_commonDivisor 22 = .ok (.istore 5, 2) := by decide +kernel
theorem dX8_commonDivisor_24 : decode cX8_commonDivisor 24 = .ok (.iload_n 3, 1) := by decide +kernel
theorem dX8_commonDivisor_25 : decode cX8_commonDivisor 25 = .ok (.istore_n 2, 1) := by decide +kernel
theorem dX8_commonDivisor_26 : decode cX8_commonDivisor 26 = .ok (.iload 5, 2) := by decide +kernel
theorem dX8_commonDivisor_28 : decode cX8_commonDivisor 28 = .ok (.istore_n 3, 1) := by decide +kernel
theorem dX8_commonDivisor_29 : decode cX8_commonDivisor 29 = .ok (.iinc 4 1, 3) := by decide +kernel
theorem dX8_commonDivisor_32 : decode cX8_commonDivisor 32 = .ok (.goto (-25), 3) := by decide +kernel
theorem dX8_commonDivisor_35 : decode cX8_commonDivisor 35 = .ok (.iload_n 2, 1) := by decide +kernel
theorem dX8_commonDivisor_36 : decode cX8_commonDivisor 36 = .ok (.ireturn, 1) := by decide +kernel
theorem dX8_isIn_0 : decode cX8_isIn 0 = .ok (.iload_n 0, 1) := by decide +kernel
theorem dX8_isIn_1 : decode cX8_isIn 1 = .ok (.iload_n 1, 1) := by decide +kernel
theorem dX8_isIn_2 : decode cX8_isIn 2 = .ok (.if_icmp .lt 12, 3) := by decide +kernel
theorem dX8_isIn_5 : decode cX8_isIn 5 = .ok (.iload_n 0, 1) := by decide +kernel
theorem dX8_isIn_6 : decode cX8_isIn 6 = .ok (.iload_n 2, 1) := by decide +kernel
theorem dX8_isIn_7 : decode cX8_isIn 7 = .ok (.if_icmp .gt 7, 3) := by decide +kernel
theorem dX8_isIn_10 : decode cX8_isIn 10 = .ok (.iconst 1, 1) := by decide +kernel
theorem dX8_isIn_11 : decode cX8_isIn 11 = .ok (.goto 4, 3) := by decide +kernel
theorem dX8_isIn_14 : decode cX8_isIn 14 = .ok (.iconst 0, 1) := by decide +kernel
theorem dX8_isIn_15 : decode cX8_isIn 15 = .ok (.ireturn, 1) := by decide +kernel
theorem dX8_isBit_0 : decode cX8_isBit 0 = .ok (.iload_n 0, 1) := by decide +kernel
theorem dX8_isBit_1 : decode cX8_isBit 1 = .ok (.iload_n 1, 1) := by decide +kernel
theorem dX8_isBit_2 : decode cX8_isBit 2 = .ok (.invokestatic 318, 3) := by decide +kernel
theorem dX8_isBit_5 : decode cX8_isBit 5 = .ok (.iconst 1, 1) := by decide +kernel
theorem dX8_isBit_6 : decode cX8_isBit 6 = .ok (.if_icmp .ne 7, 3) := by decide +kernel
theorem dX8_isBit_9 : decode cX8_isBit 9 = .ok (.iconst 1, 1) := by decide +kernel
theorem dX8_isBit_10 : decode cX8_isBit 10 = .ok (.goto 4, 3) := by decide +kernel
theorem dX8_isBit_13 : decode cX8_isBit 13 = .ok (.iconst 0, 1) := by decide +kernel
theorem dX8_isBit_14 : decode cX8_isBit 14 = .ok (.ireturn, 1) := by decide +kernel
theorem dX8_bitOf_0 : decode cX8_bitOf 0 = .ok (.iload_n 0, 1) := by decide +kernel
theorem dX8_bitOf_1 : decode cX8_bitOf 1 = .ok (.iload_n 1, 1) := by decide +kernel
theorem dX8_bitOf_2 : decode cX8_bitOf 2 = .ok (.ishr, 1) := by decide +kernel
theorem dX8_bitOf_3 : decode cX8_bitOf 3 = .ok (.iconst 1, 1) := by decide +kernel
theorem dX8_bitOf_4 : decode cX8_bitOf 4 = .ok (.iand, 1) := by decide +kernel
theorem dX8_bitOf_5 : decode cX8_bitOf 5 = .ok (.ireturn, 1) := by decide +kernel
theorem dX8_asNumber_0 : decode cX8_asNumber 0 = .ok (.iload_n 0, 1) := by decide +kernel
theorem dX8_asNumber_1 : decode cX8_asNumber 1 = .ok (.ifCond .eq 7, 3) := by decide +kernel
theorem dX8_asNumber_4 : decode cX8_asNumber 4 = .ok (.iconst 1, 1) := by decide +kernel
theorem dX8_asNumber_5 : decode cX8_asNumber 5 = .ok (.goto 4, 3) := by decide +kernel
theorem dX8_asNumber_8 : decode cX8_asNumber 8 = .ok (.iconst 0, 1) := by decide +kernel
theorem dX8_asNumber_9 : decode cX8_asNumber 9 = .ok (.ireturn, 1) := by decide +kernel
theorem dX8_at_0 : decode cX8_at 0 = .ok (.aload_n 0, 1) := by decide +kernel
theorem dX8_at_1 : decode cX8_at 1 = .ok (.ifnull 19, 3) := by decide +kernel
theorem dX8_at_4 : decode cX8_at 4 = .ok (.iload_n 1, 1) := by decide +kernel
theorem dX8_at_5 : decode cX8_at 5 = .ok (.ifCond .lt 15, 3) := by decide +kernel
theorem dX8_at_8 : decode cX8_at 8 = .ok (.iload_n 1, 1) := by decide +kernel
theorem dX8_at_9 : decode cX8_at 9 = .ok (.aload_n 0, 1) := by decide +kernel
theorem dX8_at_10 : decode cX8_at 10 = .ok (.arraylength, 1) := by decide +kernel
theorem dX8_at_11 : decode cX8_at 11 = .ok (.if_icmp .ge 9, 3) := by decide +kernel
theorem dX8_at_14 : decode cX8_at 14 = .ok (.aload_n 0, 1) := by decide +kernel
theorem dX8_at_15 : decode cX8_at 15 = .ok (.iload_n 1, 1) := by decide +kernel
theorem dX8_at_16 : decode cX8_at 16 = .ok (.iaload, 1) := by decide +kernel
theorem dX8_at_17 : decode cX8_at 17 = .ok (.goto 4, 3) := by decide +kernel
theorem dX8_at_20 : decode cX8_at 20 = .ok (.iconst 0, 1) := by decide +kernel
theorem dX8_at_21 : decode cX8_at 21 = .ok (.ireturn, 1) := by decide +kernel
theorem dX8_setAt_0 : decode cX8_setAt 0 = .ok (.aload_n 0, 1) := by decide +kernel
theorem dX8_setAt_1 : decode cX8_setAt 1 = .ok (.ifnull 17, 3) := by decide +kernel
theorem dX8_setAt_4 : decode cX8_setAt 4 = .ok (.iload_n 1, 1) := by decide +kernel
theorem dX8_setAt_5 : decode cX8_setAt 5 = .ok (.ifCond .lt 13, 3) := by decide +kernel
theorem dX8_setAt_8 : decode cX8_setAt 8 = .ok (.iload_n 1, 1) := by decide +kernel
theorem dX8_setAt_9 : decode cX8_setAt 9 = .ok (.aload_n 0, 1) := by decide +kernel
theorem dX8_setAt_10 : decode cX8_setAt 10 = .ok (.arraylength, 1) := by decide +kernel
theorem dX8_setAt_11 : decode cX8_setAt 11 = .ok (.if_icmp .ge 7, 3) := by decide +kernel
theorem dX8_setAt_14 : decode cX8_setAt 14 = .ok (.aload_n 0, 1) := by decide +kernel
theorem dX8_setAt_15 : decode cX8_setAt 15 = .ok (.iload_n 1, 1) := by decide +kernel
theorem dX8_setAt_16 : decode cX8_setAt 16 = .ok (.iload_n 2, 1) := by decide +kernel
theorem dX8_setAt_17 : decode cX8_setAt 17 = .ok (.iastore, 1) := by decide +kernel
theorem dX8_setAt_18 : decode cX8_setAt 18 = .ok (.return_, 1) := by decide +kernel
theorem dX9_init_0 : decode cX9_init 0 = .ok (.aload_n 0, 1) := by decide +kernel
theorem dX9_init_1 : decode cX9_init 1 = .ok (.invokespecial 1, 3) := by decide +kernel
theorem dX9_init_4 : decode cX9_init 4 = .ok (.aload_n 0, 1) := by decide +kernel
theorem dX9_init_5 : decode cX9_init 5 = .ok (.sipush 200, 3) := by decide +kernel
theorem dX9_init_8 : decode cX9_init 8 = .ok (.newarray .int, 2) := by decide +kernel
theorem dX9_init_10 : decode cX9_init 10 = .ok (.putfield 7, 3) := by decide +kernel
theorem dX9_init_13 : decode cX9_init 13 = .ok (.aload_n 0, 1) := by decide +kernel
theorem dX9_init_14 : decode cX9_init 14 = .ok (.iconst 5, 1) := by decide +kernel
theorem dX9_init_15 : decode cX9_init 15 = .ok (.newarray .int, 2) := by decide +kernel
theorem dX9_init_17 : decode cX9_init 17 = .ok (.putfield 13, 3) := by decide +kernel
theorem dX9_init_20 : decode cX9_init 20 = .ok (.aload_n 0, 1) := by decide +kernel
theorem dX9_init_21 : decode cX9_init 21 = .ok (.bipush 65, 2) := by decide +kernel
theorem dX9_init_23 : decode cX9_init 23 = .ok (.newarray .int, 2) := by decide +kernel
theorem dX9_init_25 : decode cX9_init 25 = .ok (.putfield 16, 3) := by decide +kernel
theorem dX9_init_28 : decode cX9_init 28 = .ok (.aload_n 0, 1) := by decide +kernel
theorem dX9_init_29 : decode cX9_init 29 = .ok (.bipush 17, 2) := by decide +kernel
theorem dX9_init_31 : decode cX9_init 31 = .ok (.newarray .int, 2) := by decide +kernel
theorem dX9_init_33 : decode cX9_init 33 = .ok (.putfield 19, 3) := by decide +kernel
theorem dX9_init_36 : decode cX9_init 36 = .ok (.aload_n 0, 1) := by decide +kernel
theorem dX9_init_37 : decode cX9_init 37 = .ok (.bipush 65, 2) := by decide +kernel
theorem dX9_init_39 : decode cX9_init 39 = .ok (.newarray .int, 2) := by decide +kernel
theorem dX9_init_41 : decode cX9_init 41 = .ok (.putfield 22, 3) := by decide +kernel
theorem dX9_init_44 : decode cX9_init 44 = .ok (.aload_n 0, 1) := by decide +kernel
theorem dX9_init_45 : decode cX9_init 45 = .ok (.bipush 17, 2) := by decide +kernel
theorem dX9_init_47 : decode cX9_init 47 = .ok (.newarray .int, 2) := by decide +kernel
theorem dX9_init_49 : decode cX9_init 49 = .ok (.putfield 25, 3) := by decide +kernel
theorem dX9_init_52 : decode cX9_init 52 = .ok (.aload_n 0, 1) := by decide +kernel
theorem dX9_init_53 : decode cX9_init 53 = .ok (.bipush 17, 2) := by decide +kernel
theorem dX9_init_55 : decode cX9_init 55 = .ok (.newarray .int, 2) := by decide +kernel
theorem dX9_init_57 : decode cX9_init 57 = .ok (.putfield 28, 3) := by decide +kernel
theorem dX9_init_60 : decode cX9_init 60 = .ok (.aload_n 0, 1) := by decide +kernel
theorem dX9_init_61 : decode cX9_init 61 = .ok (.sipush 136, 3) := by decide +kernel
theorem dX9_init_64 : decode cX9_init 64 = .ok (.newarray .int, 2) := by decide +kernel
theorem dX9_init_66 : decode cX9_init 66 = .ok (.putfield 31, 3) := by decide +kernel
theorem dX9_init_69 : decode cX9_init 69 = .ok (.aload_n 0, 1) := by decide +kernel
theorem dX9_init_70 : decode cX9_init 70 = .ok (.bipush 8, 2) := by decide +kernel
theorem dX9_init_72 : decode cX9_init 72 = .ok (.newarray .int, 2) := by decide +kernel
theorem dX9_init_74 : decode cX9_init 74 = .ok (.putfield 34, 3) := by decide +kernel
theorem dX9_init_77 : decode cX9_init 77 = .ok (.aload_n 0, 1) := by decide +kernel
theorem dX9_init_78 : decode cX9_init 78 = .ok (.bipush 8, 2) := by decide +kernel
theorem dX9_init_80 : decode cX9_init 80 = .ok (.newarray .int, 2) := by decide +kernel
theorem dX9_init_82 : decode cX9_init 82 = .ok (.putfield 37, 3) := by decide +kernel
theorem dX9_init_85 : decode cX9_init 85 = .ok (.aload_n 0, 1) := by decide +kernel
theorem dX9_init_86 : decode cX9_init 86 = .ok (.bipush 8, 2) := by decide +kernel
theorem dX9_init_88 : decode cX9_init 88 = .ok (.newarray .int, 2) := by decide +kernel
theorem dX9_init_90 : decode cX9_init 90 = .ok (.putfield 40, 3) := by decide +kernel
theorem dX9_init_93 : decode cX9_init 93 = .ok (.aload_n 0, 1) := by decide +kernel
theorem dX9_init_94 : decode cX9_init 94 = .ok (.bipush 34, 2) := by decide +kernel
theorem dX9_init_96 : decode cX9_init 96 = .ok (.newarray .int, 2) := by decide +kernel
theorem dX9_init_98 : decode cX9_init 98 = .ok (.putfield 43, 3) := by decide +kernel
theorem dX9_init_101 : decode cX9_init 101 = .ok (.aload_n 0, 1) := by decide +kernel
theorem dX9_init_102 : decode cX9_init 102 = .ok (.getfield 22, 3) := by decide +kernel
theorem dX9_init_105 : decode cX9_init 105 = .ok (.iconst 0, 1) := by decide +kernel
theorem dX9_init_106 : decode cX9_init 106 = .ok (.bipush 6, 2) := by decide +kernel
theorem dX9_init_108 : decode cX9_init 108 = .ok (.iastore, 1) := by decide +kernel
theorem dX9_init_109 : decode cX9_init 109 = .ok (.aload_n 0, 1) := by decide +kernel
theorem dX9_init_110 : decode cX9_init 110 = .ok (.getfield 22, 3) := by decide +kernel
theorem dX9_init_113 : decode cX9_init 113 = .ok (.iconst 3, 1) := by decide +kernel
theorem dX9_init_114 : decode cX9_init 114 = .ok (.bipush 14, 2) := by decide +kernel
theorem dX9_init_116 : decode cX9_init 116 = .ok (.iastore, 1) := by decide +kernel
theorem dX9_init_117 : decode cX9_init 117 = .ok (.aload_n 0, 1) := by decide +kernel
theorem dX9_init_118 : decode cX9_init 118 = .ok (.iconst 0, 1) := by decide +kernel
theorem dX9_init_119 : decode cX9_init 119 = .ok (.iconst 0, 1) := by decide +kernel
theorem dX9_init_120 : decode cX9_init 120 = .ok (.iconst 1, 1) := by decide +kernel
theorem dX9_init_121 : decode cX9_init 121 = .ok (.iconst 3, 1) := by decide +kernel
theorem dX9_init_122 : decode cX9_init 122 = .ok (.iconst 4, 1) := by decide +kernel
theorem dX9_init_123 : decode cX9_init 123 = .ok (.invokevirtual 46, 3) := by decide +kernel
theorem dX9_init_126 : decode cX9_init 126 = .ok (.aload_n 0, 1) := by decide +kernel
theorem dX9_init_127 : decode cX9_init 127 = .ok (.iconst 0, 1) := by decide +kernel
theorem dX9_init_128 : decode cX9_init 128 = .ok (.iconst 1, 1) := by decide +kernel
theorem dX9_init_129 : decode cX9_init 129 = .ok (.iconst 2, 1) := by decide +kernel
theorem dX9_init_130 : decode cX9_init 130 = .ok (.bipush 9, 2) := by decide +kernel
theorem dX9_init_132 : decode cX9_init 132 = .ok (.bipush 6, 2) := by decide +kernel
theorem dX9_init_134 : decode cX9_init 134 = .ok (.invokevirtual 46, 3) := by decide +kernel
theorem dX9_init_137 : decode cX9_init 137 = .ok (.aload_n 0, 1) := by decide +kernel
theorem dX9_init_138 : decode cX9_init 138 = .ok (.iconst 1, 1) := by decide +kernel
theorem dX9_init_139 : decode cX9_init 139 = .ok (.iconst 2, 1) := by decide +kernel
theorem dX9_init_140 : decode cX9_init 140 = .ok (.iconst 3, 1) := by decide +kernel
theorem dX9_init_141 : decode cX9_init 141 = .ok (.bipush 15, 2) := by decide +kernel
theorem dX9_init_143 : decode cX9_init 143 = .ok (.iconst 3, 1) := by decide +kernel
theorem dX9_init_144 : decode cX9_init 144 = .ok (.invokevirtual 46, 3) := by decide +kernel
theorem dX9_init_147 : decode cX9_init 147 = .ok (.aload_n 0, 1) := by decide +kernel
theorem dX9_init_148 : decode cX9_init 148 = .ok (.iconst 2, 1) := by decide +kernel
theorem dX9_init_149 : decode cX9_init 149 = .ok (.iconst 0, 1) := by decide +kernel
theorem dX9_init_150 : decode cX9_init 150 = .ok (.iconst 3, 1) := by decide +kernel
theorem dX9_init_151 : decode cX9_init 151 = .ok (.bipush 20, 2) := by decide +kernel
theorem dX9_init_153 : decode cX9_init 153 = .ok (.iconst 5, 1) := by decide +kernel
theorem dX9_init_154 : decode cX9_init 154 = .ok (.invokevirtual 46, 3) := by decide +kernel
theorem dX9_init_157 : decode cX9_init 157 = .ok (.aload_n 0, 1) := by decide +kernel
theorem dX9_init_158 : decode cX9_init 158 = .ok (.iconst 3, 1) := by decide +kernel
theorem dX9_init_159 : decode cX9_init 159 = .ok (.iconst 3, 1) := by decide +kernel
theorem dX9_init_160 : decode cX9_init 160 = .ok (.iconst 4, 1) := by decide +kernel
theorem dX9_init_161 : decode cX9_init 161 = .ok (.bipush 26, 2) := by decide +kernel
theorem dX9_init_163 : decode cX9_init 163 = .ok (.iconst 2, 1) := by decide +kernel
theorem dX9_init_164 : decode cX9_init 164 = .ok (.invokevirtual 46, 3) := by decide +kernel
theorem dX9_init_167 : decode cX9_init 167 = .ok (.aload_n 0, 1) := by decide +kernel
theorem dX9_init_168 : decode cX9_init 168 = .ok (.iconst 0, 1) := by decide +kernel
theorem dX9_init_169 : decode cX9_init 169 = .ok (.iconst 4, 1) := by decide +kernel
theorem dX9_init_170 : decode cX9_init 170 = .ok (.iconst 5, 1) := by decide +kernel
theorem dX9_init_171 : decode cX9_init 171 = .ok (.bipush 33, 2) := by decide +kernel
theorem dX9_init_173 : decode cX9_init 173 = .ok (.bipush 7, 2) := by decide +kernel
theorem dX9_init_175 : decode cX9_init 175 = .ok (.invokevirtual 46, 3) := by decide +kernel
theorem dX9_init_178 : decode cX9_init 178 = .ok (.aload_n 0, 1) := by decide +kernel
theorem dX9_init_179 : decode cX9_init 179 = .ok (.iconst 0, 1) := by decide +kernel
theorem dX9_init_180 : decode cX9_init 180 = .ok (.iconst 1, 1) := by decide +kernel
theorem dX9_init_181 : decode cX9_init 181 = .ok (.iconst 4, 1) := by decide +kernel
theorem dX9_init_182 : decode cX9_init 182 = .ok (.bipush 12, 2) := by decide +kernel
theorem dX9_init_184 : decode cX9_init 184 = .ok (.iconst 5, 1) := by decide +kernel
theorem dX9_init_185 : decode cX9_init 185 = .ok (.invokevirtual 46, 3) := by decide +kernel
theorem dX9_init_188 : decode cX9_init 188 = .ok (.aload_n 0, 1) := by decide +kernel
theorem dX9_init_189 : decode cX9_init 189 = .ok (.iconst 0, 1) := by decide +kernel
theorem dX9_init_190 : decode cX9_init 190 = .ok (.iconst 0, 1) := by decide +kernel
theorem dX9_init_191 : decode cX9_init 191 = .ok (.iconst 3, 1) := by decide +kernel
theorem dX9_init_192 : decode cX9_init 192 = .ok (.invokevirtual 50, 3) := by decide +kernel
theorem dX9_init_195 : decode cX9_init 195 = .ok (.aload_n 0, 1) := by decide +kernel
theorem dX9_init_196 : decode cX9_init 196 = .ok (.iconst 1, 1) := by decide +kernel
theorem dX9_init_197 : decode cX9_init 197 = .ok (.bipush 18, 2) := by decide +kernel
theorem dX9_init_199 : decode cX9_init 199 = .ok (.iconst 2, 1) := by decide +kernel
theorem dX9_init_200 : decode cX9_init 200 = .ok (.invokevirtual 50, 3) := by decide +kernel
theorem dX9_init_203 : decode cX9_init 203 = .ok (.aload_n 0, 1) := by decide +kernel
theorem dX9_init_204 : decode cX9_init 204 = .ok (.iconst 2, 1) := by decide +kernel
theorem dX9_init_205 : decode cX9_init 205 = .ok (.bipush 30, 2) := by decide +kernel
theorem dX9_init_207 : decode cX9_init 207 = .ok (.iconst 4, 1) := by decide +kernel
theorem dX9_init_208 : decode cX9_init 208 = .ok (.invokevirtual 50, 3) := by decide +kernel
theorem dX9_init_211 : decode cX9_init 211 = .ok (.aload_n 0, 1) := by decide +kernel
theorem dX9_init_212 : decode cX9_init 212 = .ok (.iconst 3, 1) := by decide +kernel
theorem dX9_init_213 : decode cX9_init 213 = .ok (.bipush 10, 2) := by decide +kernel
theorem dX9_init_215 : decode cX9_init 215 = .ok (.iconst 5, 1) := by decide +kernel
theorem dX9_init_216 : decode cX9_init 216 = .ok (.invokevirtual 50, 3) := by decide +kernel
theorem dX9_init_219 : decode cX9_init 219 = .ok (.aload_n 0, 1) := by decide +kernel
theorem dX9_init_220 : decode cX9_init 220 = .ok (.getfield 22, 3) := by decide +kernel
theorem dX9_init_223 : decode cX9_init 223 = .ok (.iconst 4, 1) := by decide +kernel
theorem dX9_init_224 : decode cX9_init 224 = .ok (.iconst 5, 1) := by decide +kernel
theorem dX9_init_225 : decode cX9_init 225 = .ok (.iastore, 1) := by decide +kernel
theorem dX9_init_226 : decode cX9_init 226 = .ok (.aload_n 0, 1) := by decide +kernel
theorem dX9_init_227 : decode cX9_init 227 = .ok (.getfield 22, 3) := by decide +kernel
theorem dX9_init_230 : decode cX9_init 230 = .ok (.bipush 8, 2) := by decide +kernel
theorem dX9_init_232 : decode cX9_init 232 = .ok (.iconst 1, 1) := by decide +kernel
theorem dX9_init_233 : decode cX9_init 233 = .ok (.iastore, 1) := by decide +kernel
theorem dX9_init_234 : decode cX9_init 234 = .ok (.iconst 0, 1) := by decide +kernel
theorem dX9_init_235 : decode cX9_init 235 = .ok (.istore_n 1, 1) := by decide +kernel
theorem dX9_init_236 : decode cX9_init 236 = .ok (.iload_n 1, 1) := by decide +kernel
theorem dX9_init_237 : decode cX9_init 237 = .ok (.iconst 4, 1) := by decide +kernel
theorem dX9_init_238 : decode cX9_init 238 = .ok (.if_icmp .ge 20, 3) := by decide +kernel
theorem dX9_init_241 : decode cX9_init 241 = .ok (.aload_n 0, 1) := by decide +kernel
theorem dX9_init_242 : decode cX9_init 242 = .ok (.getfield 25, 3) := by decide +kernel
theorem dX9_init_245 : decode cX9_init 245 = .ok (.bipush 13, 2) := by decide +kernel
theorem dX9_init_247 : decode cX9_init 247 = .ok (.iload_n 1, 1) := by decide +kernel
theorem dX9_init_248 : decode cX9_init 248 = .ok (.iadd, 1) := by decide +kernel
theorem dX9_init_249 : decode cX9_init 249 = .ok (.bipush (-4), 2) := by decide +kernel
theorem dX9_init_251 : decode cX9_init 251 = .ok (.iastore, 1) := by decide +kernel
theorem dX9_init_252 : decode cX9_init 252 = .ok (.iinc 1 1, 3) := by decide +kernel
theorem dX9_init_255 : decode cX9_init 255 = .ok (.goto (-19), 3) := by decide +kernel
theorem dX9_init_258 : decode cX9_init 258 = .ok (.return_, 1) := by decide +kernel
theorem dX9_gapTold_0 : decode cX9_gapTold 0 = .ok (.bipush 17, 2) := by decide +kernel
theorem dX9_gapTold_2 : decode cX9_gapTold 2 = .ok (.iconst 5, 1) := by decide +kernel
theorem dX9_gapTold_3 : decode cX9_gapTold 3 = .ok (.aload_n 0, 1) := by decide +kernel
theorem dX9_gapTold_4 : decode cX9_gapTold 4 = .ok (.getfield 22, 3) := by decide +kernel
theorem dX9_gapTold_7 : decode cX9_gapTold 7 = .ok (.iconst 1, 1) := by decide +kernel
theorem dX9_gapTold_8 : decode cX9_gapTold 8 = .ok (.iaload, 1) := by decide +kernel
theorem dX9_gapTold_9 : decode cX9_gapTold 9 = .ok (.imul, 1) := by decide +kernel
theorem dX9_gapTold_10 : decode cX9_gapTold 10 = .ok (.iadd, 1) := by decide +kernel
theorem dX9_gapTold_11 : decode cX9_gapTold 11 = .ok (.istore 6, 2) := by decide +kernel
theorem dX9_gapTold_13 : decode cX9_gapTold 13 = .ok (.aload_n 0, 1) := by decide +kernel
theorem dX9_gapTold_14 : decode cX9_gapTold 14 = .ok (.getfield 22, 3) := by decide +kernel
theorem dX9_gapTold_17 : decode cX9_gapTold 17 = .ok (.iload 6, 2) := by decide +kernel
theorem dX9_gapTold_19 : decode cX9_gapTold 19 = .ok (.iload_n 1, 1) := by decide +kernel
theorem dX9_gapTold_20 : decode cX9_gapTold 20 = .ok (.iastore, 1) := by decide +kernel
theorem dX9_gapTold_21 : decode cX9_gapTold 21 = .ok (.aload_n 0, 1) := by decide +kernel
theorem dX9_gapTold_22 : decode cX9_gapTold 22 = .ok (.getfield 22, 3) := by decide +kernel
theorem dX9_gapTold_25 : decode cX9_gapTold 25 = .ok (.iload 6, 2) := by decide +kernel
theorem dX9_gapTold_27 : decode cX9_gapTold 27 = .ok (.iconst 1, 1) := by decide +kernel
theorem dX9_gapTold_28 : decode cX9_gapTold 28 = .ok (.iadd, 1) := by decide +kernel
theorem dX9_gapTold_29 : decode cX9_gapTold 29 = .ok (.iload_n 2, 1) := by decide +kernel
theorem dX9_gapTold_30 : decode cX9_gapTold 30 = .ok (.iastore, 1) := by decide +kernel
theorem dX9_gapTold_31 : decode cX9_gapTold 31 = .ok (.aload_n 0, 1) := by decide +kernel
theorem dX9_gapTold_32 : decode cX9_gapTold 32 = .ok (.getfield 22, 3) := by decide +kernel
theorem dX9_gapTold_35 : decode cX9_gapTold 35 = .ok (.iload 6, 2) := by decide +kernel
theorem dX9_gapTold_37 : decode cX9_gapTold 37 = .ok (.iconst 2, 1) := by decide +kernel
theorem dX9_gapTold_38 : decode cX9_gapTold 38 = .ok (.iadd, 1) := by decide +kernel
theorem dX9_gapTold_39 : decode cX9_gapTold 39 = .ok (.iload_n 3, 1) := by decide +kernel
theorem dX9_gapTold_40 : decode cX9_gapTold 40 = .ok (.iastore, 1) := by decide +kernel
theorem dX9_gapTold_41 : decode cX9_gapTold 41 = .ok (.aload_n 0, 1) := by decide +kernel
theorem dX9_gapTold_42 : decode cX9_gapTold 42 = .ok (.getfield 22, 3) := by decide +kernel
theorem dX9_gapTold_45 : decode cX9_gapTold 45 = .ok (.iload 6, 2) := by decide +kernel
theorem dX9_gapTold_47 : decode cX9_gapTold 47 = .ok (.iconst 3, 1) := by decide +kernel
theorem dX9_gapTold_48 : decode cX9_gapTold 48 = .ok (.iadd, 1) := by decide +kernel
theorem dX9_gapTold_49 : decode cX9_gapTold 49 = .ok (.iload 4, 2) := by decide +kernel
theorem dX9_gapTold_51 : decode cX9_gapTold 51 = .ok (.iastore, 1) := by decide +kernel
theorem dX9_gapTold_52 : decode cX9_gapTold 52 = .ok (.aload_n 0, 1) := by decide +kernel
theorem dX9_gapTold_53 : decode cX9_gapTold 53 = .ok (.getfield 22, 3) := by decide +kernel
theorem dX9_gapTold_56 : decode cX9_gapTold 56 = .ok (.iload 6, 2) := by decide +kernel
theorem dX9_gapTold_58 : decode cX9_gapTold 58 = .ok (.iconst 4, 1) := by decide +kernel
theorem dX9_gapTold_59 : decode cX9_gapTold 59 = .ok (.iadd, 1) := by decide +kernel
theorem dX9_gapTold_60 : decode cX9_gapTold 60 = .ok (.iload 5, 2) := by decide +kernel
theorem dX9_gapTold_62 : decode cX9_gapTold 62 = .ok (.iastore, 1) := by decide +kernel
theorem dX9_gapTold_63 : decode cX9_gapTold 63 = .ok (.aload_n 0, 1) := by decide +kernel
theorem dX9_gapTold_64 : decode cX9_gapTold 64 = .ok (.getfield 22, 3) := by decide +kernel
theorem dX9_gapTold_67 : decode cX9_gapTold 67 = .ok (.iconst 1, 1) := by decide +kernel
theorem dX9_gapTold_68 : decode cX9_gapTold 68 = .ok (.dup2, 1) := by decide +kernel
theorem dX9_gapTold_69 : decode cX9_gapTold 69 = .ok (.iaload, 1) := by decide +kernel
theorem dX9_gapTold_70 : decode cX9_gapTold 70 = .ok (.iconst 1, 1) := by decide +kernel
theorem dX9_gapTold_71 : decode cX9_gapTold 71 = .ok (.iadd, 1) := by decide +kernel
theorem dX9_gapTold_72 : decode cX9_gapTold 72 = .ok (.iastore, 1) := by decide +kernel
theorem dX9_gapTold_73 : decode cX9_gapTold 73 = .ok (.return_, 1) := by decide +kernel
theorem dX9_stitcherTold_0 : decode cX9_stitcherTold 0 = .ok (.aload_n 0, 1) := by decide +kernel
theorem dX9_stitcherTold_1 : decode cX9_stitcherTold 1 = .ok (.getfield 22, 3) := by decide +kernel
theorem dX9_stitcherTold_4 : decode cX9_stitcherTold 4 = .ok (.bipush 57, 2) := by decide +kernel
theorem dX9_stitcherTold_6 : decode cX9_stitcherTold 6 = .ok (.iconst 2, 1) := by decide +kernel
theorem dX9_stitcherTold_7 : decode cX9_stitcherTold 7 = .ok (.aload_n 0, 1) := by decide +kernel
theorem dX9_stitcherTold_8 : decode cX9_stitcherTold 8 = .ok (.getfield 22, 3) := by decide +kernel
theorem dX9_stitcherTold_11 : decode cX9_stitcherTold 11 = .ok (.iconst 2, 1) := by decide +kernel
theorem dX9_stitcherTold_12 : decode cX9_stitcherTold 12 = .ok (.iaload, 1) := by decide +kernel
theorem dX9_stitcherTold_13 : decode cX9_stitcherTold 13 = .ok (.imul, 1) := by decide +kernel
theorem dX9_stitcherTold_14 : decode cX9_stitcherTold 14 = .ok (.iadd, 1) := by decide +kernel
theorem dX9_stitcherTold_15 : decode cX9_stitcherTold 15 = .ok (.iload_n 1, 1) := by decide +kernel
theorem dX9_stitcherTold_16 : decode cX9_stitcherTold 16 = .ok (.iastore, 1) := by decide +kernel
theorem dX9_stitcherTold_17 : decode cX9_stitcherTold 17 = .ok (.aload_n 0, 1) := by decide +kernel
theorem dX9_stitcherTold_18 : decode cX9_stitcherTold 18 = .ok (.getfield 22, 3) := by decide +kernel
theorem dX9_stitcherTold_21 : decode cX9_stitcherTold 21 = .ok (.bipush 57, 2) := by decide +kernel
theorem dX9_stitcherTold_23 : decode cX9_stitcherTold 23 = .ok (.iconst 2, 1) := by decide +kernel
theorem dX9_stitcherTold_24 : decode cX9_stitcherTold 24 = .ok (.aload_n 0, 1) := by decide +kernel
theorem dX9_stitcherTold_25 : decode cX9_stitcherTold 25 = .ok (.getfield 22, 3) := by decide +kernel
theorem dX9_stitcherTold_28 : decode cX9_stitcherTold 28 = .ok (.iconst 2, 1) := by decide +kernel
theorem dX9_stitcherTold_29 : decode cX9_stitcherTold 29 = .ok (.iaload, 1) := by decide +kernel
theorem dX9_stitcherTold_30 : decode cX9_stitcherTold 30 = .ok (.imul, 1) := by decide +kernel
theorem dX9_stitcherTold_31 : decode cX9_stitcherTold 31 = .ok (.iadd, 1) := by decide +kernel
theorem dX9_stitcherTold_32 : decode cX9_stitcherTold 32 = .ok (.iconst 1, 1) := by decide +kernel
theorem dX9_stitcherTold_33 : decode cX9_stitcherTold 33 = .ok (.iadd, 1) := by decide +kernel
theorem dX9_stitcherTold_34 : decode cX9_stitcherTold 34 = .ok (.iload_n 3, 1) := by decide +kernel
theorem dX9_stitcherTold_35 : decode cX9_stitcherTold 35 = .ok (.iastore, 1) := by decide +kernel
theorem dX9_stitcherTold_36 : decode cX9_stitcherTold 36 = .ok (.aload_n 0, 1) := by decide +kernel
theorem dX9_stitcherTold_37 : decode cX9_stitcherTold 37 = .ok (.getfield 25, 3) := by decide +kernel
theorem dX9_stitcherTold_40 : decode cX9_stitcherTold 40 = .ok (.bipush 9, 2) := by decide +kernel
theorem dX9_stitcherTold_42 : decode cX9_stitcherTold 42 = .ok (.aload_n 0, 1) := by decide +kernel
theorem dX9_stitcherTold_43 : decode cX9_stitcherTold 43 = .ok (.getfield 22, 3) := by decide +kernel
theorem dX9_stitcherTold_46 : decode cX9_stitcherTold 46 = .ok (.iconst 2, 1) := by decide +kernel
theorem dX9_stitcherTold_47 : decode cX9_stitcherTold 47 = .ok (.iaload, 1) := by decide +kernel
theorem dX9_stitcherTold_48 : decode cX9_stitcherTold 48 = .ok (.iadd, 1) := by decide +kernel
theorem dX9_stitcherTold_49 : decode cX9_stitcherTold 49 = .ok (.iload_n 2, 1) := by decide +kernel
theorem dX9_stitcherTold_50 : decode cX9_stitcherTold 50 = .ok (.iastore, 1) := by decide +kernel
theorem dX9_stitcherTold_51 : decode cX9_stitcherTold 51 = .ok (.aload_n 0, 1) := by decide +kernel
theorem dX9_stitcherTold_52 : decode cX9_stitcherTold 52 = .ok (.getfield 22, 3) := by decide +kernel
theorem dX9_stitcherTold_55 : decode cX9_stitcherTold 55 = .ok (.iconst 2, 1) := by decide +kernel
theorem dX9_stitcherTold_56 : decode cX9_stitcherTold 56 = .ok (.dup2, 1) := by decide +kernel
theorem dX9_stitcherTold_57 : decode cX9_stitcherTold 57 = .ok (.iaload, 1) := by decide +kernel
theorem dX9_stitcherTold_58 : decode cX9_stitcherTold 58 = .ok (.iconst 1, 1) := by decide +kernel
theorem dX9_stitcherTold_59 : decode cX9_stitcherTold 59 = .ok (.iadd, 1) := by decide +kernel
theorem dX9_stitcherTold_60 : decode cX9_stitcherTold 60 = .ok (.iastore, 1) := by decide +kernel
theorem dX9_stitcherTold_61 : decode cX9_stitcherTold 61 = .ok (.return_, 1) := by decide +kernel
theorem dX9_in_0 : decode cX9_in 0 = .ok (.iload_n 0, 1) := by decide +kernel
theorem dX9_in_1 : decode cX9_in 1 = .ok (.iload_n 1, 1) := by decide +kernel
theorem dX9_in_2 : decode cX9_in 2 = .ok (.if_icmp .lt 12, 3) := by decide +kernel
theorem dX9_in_5 : decode cX9_in 5 = .ok (.iload_n 0, 1) := by decide +kernel
theorem dX9_in_6 : decode cX9_in 6 = .ok (.iload_n 2, 1) := by decide +kernel
theorem dX9_in_7 : decode cX9_in 7 = .ok (.if_icmp .gt 7, 3) := by decide +kernel
theorem dX9_in_10 : decode cX9_in 10 = .ok (.iconst 1, 1) := by decide +kernel
theorem dX9_in_11 : decode cX9_in 11 = .ok (.goto 4, 3) := by decide +kernel
theorem dX9_in_14 : decode cX9_in 14 = .ok (.iconst 0, 1) := by decide +kernel
theorem dX9_in_15 : decode cX9_in 15 = .ok (.ireturn, 1) := by decide +kernel
theorem dX9_has_0 : decode cX9_has 0 = .ok (.iload_n 0, 1) := by decide +kernel
theorem dX9_has_1 : decode cX9_has 1 = .ok (.iload_n 1, 1) := by decide +kernel
theorem dX9_has_2 : decode cX9_has 2 = .ok (.ishr, 1) := by decide +kernel
theorem dX9_has_3 : decode cX9_has 3 = .ok (.iconst 1, 1) := by decide +kernel
theorem dX9_has_4 : decode cX9_has 4 = .ok (.iand, 1) := by decide +kernel
theorem dX9_has_5 : decode cX9_has 5 = .ok (.iconst 1, 1) := by decide +kernel
theorem dX9_has_6 : decode cX9_has 6 = .ok (.if_icmp .ne 7, 3) := by decide +kernel
theorem dX9_has_9 : decode cX9_has 9 = .ok (.iconst 1, 1) := by decide +kernel
theorem dX9_has_10 : decode cX9_has 10 = .ok (.goto 4, 3) := by decide +kernel
theorem dX9_has_13 : decode cX9_has 13 = .ok (.iconst 0, 1) := by decide +kernel
theorem dX9_has_14 : decode cX9_has 14 = .ok (.ireturn, 1) := by decide +kernel
theorem dX9_bits_0 : decode cX9_bits 0 = .ok (.iconst 0, 1) := by decide +kernel
theorem dX9_bits_1 : decode cX9_bits 1 = .ok (.istore_n 1, 1) := by decide +kernel
theorem dX9_bits_2 : decode cX9_bits 2 = .ok (.iload_n 0, 1) := by decide +kernel
theorem dX9_bits_3 : decode cX9_bits 3 = .ok (.istore_n 2, 1) := by decide +kernel
theorem dX9_bits_4 : decode cX9_bits 4 = .ok (.iload_n 2, 1) := by decide +kernel
theorem dX9_bits_5 : decode cX9_bits 5 = .ok (.ifCond .eq 15, 3) := by decide +kernel
theorem dX9_bits_8 : decode cX9_bits 8 = .ok (.iinc 1 1, 3) := by decide +kernel
theorem dX9_bits_11 : decode cX9_bits 11 = .ok (.iload_n 2, 1) := by decide +kernel
theorem dX9_bits_12 : decode cX9_bits 12 = .ok (.iload_n 2, 1) := by decide +kernel
theorem dX9_bits_13 : decode cX9_bits 13 = .ok (.iconst 1, 1) := by decide +kernel
theorem dX9_bits_14 : decode cX9_bits 14 = .ok (.isub, 1) := by decide +kernel
theorem dX9_bits_15 : decode cX9_bits 15 = .ok (.iand, 1) := by decide +kernel
theorem dX9_bits_16 : decode cX9_bits 16 = .ok (.istore_n 2, 1) := by decide +kernel
theorem dX9_bits_17 : decode cX9_bits 17 = .ok (.goto (-13), 3) := by decide +kernel
theorem dX9_bits_20 : decode cX9_bits 20 = .ok (.iload_n 1, 1) := by decide +kernel
theorem dX9_bits_21 : decode cX9_bits 21 = .ok (.ireturn, 1) := by decide +kernel
theorem dX9_write_0 : decode cX9_write 0 = .ok (.iload_n 1, 1) := by decide +kernel
theorem dX9_write_1 : decode cX9_write 1 = .ok (.bipush 32, 2) := by decide +kernel
theorem dX9_write_3 : decode cX9_write 3 = .ok (.bipush 126, 2) := by decide +kernel
theorem dX9_write_5 : decode cX9_write 5 = .ok (.invokestatic 54, 3) := by decide +kernel
theorem dX9_write_8 : decode cX9_write 8 = .ok (.ifCond .ne 5, 3) := by decide +kernel
theorem dX9_write_11 : decode cX9_write 11 = .ok (.iconst (-1), 1) := by decide +kernel
theorem dX9_write_12 : decode cX9_write 12 = .ok (.ireturn, 1) := by decide +kernel
theorem dX9_write_13 : decode cX9_write 13 = .ok (.aload_n 0, 1) := by decide +kernel
theorem dX9_write_14 : decode cX9_write 14 = .ok (.getfield 58, 3) := by decide +kernel
theorem dX9_write_17 : decode cX9_write 17 = .ok (.sipush 200, 3) := by decide +kernel
theorem dX9_write_20 : decode cX9_write 20 = .ok (.if_icmp .ne 6, 3) := by decide +kernel
theorem dX9_write_23 : decode cX9_write 23 = .ok (.bipush (-3), 2) := by decide +kernel
theorem dX9_write_25 : decode cX9_write 25 = .ok (.ireturn, 1) := by decide +kernel
theorem dX9_write_26 : decode cX9_write 26 = .ok (.aload_n 0, 1) := by decide +kernel
theorem dX9_write_27 : decode cX9_write 27 = .ok (.getfield 7, 3) := by decide +kernel
theorem dX9_write_30 : decode cX9_write 30 = .ok (.aload_n 0, 1) := by decide +kernel
theorem dX9_write_31 : decode cX9_write 31 = .ok (.getfield 58, 3) := by decide +kernel
theorem dX9_write_34 : decode cX9_write 34 = .ok (.iload_n 1, 1) := by decide +kernel
theorem dX9_write_35 : decode cX9_write 35 = .ok (.iastore, 1) := by decide +kernel
theorem dX9_write_36 : decode cX9_write 36 = .ok (.aload_n 0, 1) := by decide +kernel
theorem dX9_write_37 : decode cX9_write 37 = .ok (.dup, 1) := by decide +kernel
theorem dX9_write_38 : decode cX9_write 38 = .ok (.getfield 58, 3) := by decide +kernel
theorem dX9_write_41 : decode cX9_write 41 = .ok (.iconst 1, 1) := by decide +kernel
theorem dX9_write_42 : decode cX9_write 42 = .ok (.iadd, 1) := by decide +kernel
theorem dX9_write_43 : decode cX9_write 43 = .ok (.putfield 58, 3) := by decide +kernel
theorem dX9_write_46 : decode cX9_write 46 = .ok (.aload_n 0, 1) := by decide +kernel
theorem dX9_write_47 : decode cX9_write 47 = .ok (.getfield 58, 3) := by decide +kernel
theorem dX9_write_50 : decode cX9_write 50 = .ok (.ireturn, 1) := by decide +kernel
theorem dX9_wipe_0 : decode cX9_wipe 0 = .ok (.aload_n 0, 1) := by decide +kernel
theorem dX9_wipe_1 : decode cX9_wipe 1 = .ok (.getfield 58, 3) := by decide +kernel
theorem dX9_wipe_4 : decode cX9_wipe 4 = .ok (.istore_n 1, 1) := by decide +kernel
theorem dX9_wipe_5 : decode cX9_wipe 5 = .ok (.aload_n 0, 1) := by decide +kernel
theorem dX9_wipe_6 : decode cX9_wipe 6 = .ok (.iconst 0, 1) := by decide +kernel
theorem dX9_wipe_7 : decode cX9_wipe 7 = .ok (.putfield 58, 3) := by decide +kernel
theorem dX9_wipe_10 : decode cX9_wipe 10 = .ok (.iload_n 1, 1) := by decide +kernel
theorem dX9_wipe_11 : decode cX9_wipe 11 = .ok (.ireturn, 1) := by decide +kernel
theorem dX9_letterAt_0 : decode cX9_letterAt 0 = .ok (.iload_n 1, 1) := by decide +kernel
theorem dX9_letterAt_1 : decode cX9_letterAt 1 = .ok (.aload_n 0, 1) := by decide +kernel
theorem dX9_letterAt_2 : decode cX9_letterAt 2 = .ok (.getfield 58, 3) := by decide +kernel
theorem dX9_letterAt_5 : decode cX9_letterAt 5 = .ok (.if_icmp .ge 12, 3) := by decide +kernel
theorem dX9_letterAt_8 : decode cX9_letterAt 8 = .ok (.aload_n 0, 1) := by decide +kernel
theorem dX9_letterAt_9 : decode cX9_letterAt 9 = .ok (.getfield 7, 3) := by decide +kernel
theorem dX9_letterAt_12 : decode cX9_letterAt 12 = .ok (.iload_n 1, 1) := by decide +kernel
theorem dX9_letterAt_13 : decode cX9_letterAt 13 = .ok (.iaload, 1) := by decide +kernel
theorem dX9_letterAt_14 : decode cX9_letterAt 14 = .ok (.goto 4, 3) := by decide +kernel
theorem dX9_letterAt_17 : decode cX9_letterAt 17 = .ok (.iconst 0, 1) := by decide +kernel
theorem dX9_letterAt_18 : decode cX9_letterAt 18 = .ok (.ireturn, 1) := by decide +kernel
theorem dX9_isFigure_0 : decode cX9_isFigure 0 = .ok (.iload_n 0, 1) := by decide +kernel
theorem dX9_isFigure_1 : decode cX9_isFigure 1 = .ok (.bipush 48, 2) := by decide +kernel
theorem dX9_isFigure_3 : decode cX9_isFigure 3 = .ok (.bipush 57, 2) := by decide +kernel
theorem dX9_isFigure_5 : decode cX9_isFigure 5 = .ok (.invokestatic 54, 3) := by decide +kernel
theorem dX9_isFigure_8 : decode cX9_isFigure 8 = .ok (.ireturn, 1) := by decide +kernel
theorem dX9_readsNumbers_0 : decode cX9_readsNumbers 0 = .ok (.iconst 0, 1) := by decide +kernel
theorem dX9_readsNumbers_1 : decode cX9_readsNumbers 1 = .ok (.istore_n 2, 1) := by decide +kernel
theorem dX9_readsNumbers_2 : decode cX9_readsNumbers 2 = .ok (.iload_n 2, 1) := by decide +kernel
theorem dX9_readsNumbers_3 : decode cX9_readsNumbers 3 = .ok (.iload_n 1, 1) := by decide +kernel
theorem dX9_readsNumbers_4 : decode cX9_readsNumbers 4 = .ok (.if_icmp .ge 132, 3) := by decide +kernel
theorem dX9_readsNumbers_7 : decode cX9_readsNumbers 7 = .ok (.aload_n 0, 1) := by decide +kernel
theorem dX9_readsNumbers_8 : decode cX9_readsNumbers 8 = .ok (.aload_n 0, 1) := by decide +kernel
theorem dX9_readsNumbers_9 : decode cX9_readsNumbers 9 = .ok (.getfield 62, 3) := by decide +kernel
theorem dX9_readsNumbers_12 : decode cX9_readsNumbers 12 = .ok (.invokevirtual 65, 3) := by decide +kernel
theorem dX9_readsNumbers_15 : decode cX9_readsNumbers 15 = .ok (.invokestatic 69, 3) := by decide +kernel
theorem dX9_readsNumbers_18 : decode cX9_readsNumbers 18 = .ok (.ifCond .ne 5, 3) := by decide +kernel
theorem dX9_readsNumbers_21 : decode cX9_readsNumbers 21 = .ok (.iconst 0, 1) := by decide +kernel
theorem dX9_readsNumbers_22 : decode cX9_readsNumbers 22 = .ok (.ireturn, 1) := by decide +kernel
theorem dX9_readsNumbers_23 : decode cX9_readsNumbers 23 = .ok (.aload_n 0, 1) := by decide +kernel
theorem dX9_readsNumbers_24 : decode cX9_readsNumbers 24 = .ok (.aload_n 0, 1) := by decide +kernel
theorem dX9_readsNumbers_25 : decode cX9_readsNumbers 25 = .ok (.getfield 62, 3) := by decide +kernel
theorem dX9_readsNumbers_28 : decode cX9_readsNumbers 28 = .ok (.invokevirtual 65, 3) := by decide +kernel
theorem dX9_readsNumbers_31 : decode cX9_readsNumbers 31 = .ok (.bipush 48, 2) := by decide +kernel
theorem dX9_readsNumbers_33 : decode cX9_readsNumbers 33 = .ok (.isub, 1) := by decide +kernel
theorem dX9_readsNumbers_34 : decode cX9_readsNumbers 34 = .ok (.istore_n 3, 1) := by decide +kernel
theorem dX9_readsNumbers_35 : decode cX9_readsNumbers 35 = .ok (.aload_n 0, 1) := by decide +kernel
theorem dX9_readsNumbers_36 : decode cX9_readsNumbers 36 = .ok (.dup, 1) := by decide +kernel
theorem dX9_readsNumbers_37 : decode cX9_readsNumbers 37 = .ok (.getfield 62, 3) := by decide +kernel
theorem dX9_readsNumbers_40 : decode cX9_readsNumbers 40 = .ok (.iconst 1, 1) := by decide +kernel
theorem dX9_readsNumbers_41 : decode cX9_readsNumbers 41 = .ok (.iadd, 1) := by decide +kernel
theorem dX9_readsNumbers_42 : decode cX9_readsNumbers 42 = .ok (.putfield 62, 3) := by decide +kernel
theorem dX9_readsNumbers_45 : decode cX9_readsNumbers 45 = .ok (.aload_n 0, 1) := by decide +kernel
theorem dX9_readsNumbers_46 : decode cX9_readsNumbers 46 = .ok (.aload_n 0, 1) := by decide +kernel
theorem dX9_readsNumbers_47 : decode cX9_readsNumbers 47 = .ok (.getfield 62, 3) := by decide +kernel
theorem dX9_readsNumbers_50 : decode cX9_readsNumbers 50 = .ok (.invokevirtual 65, 3) := by decide +kernel
theorem dX9_readsNumbers_53 : decode cX9_readsNumbers 53 = .ok (.invokestatic 69, 3) := by decide +kernel
theorem dX9_readsNumbers_56 : decode cX9_readsNumbers 56 = .ok (.ifCond .eq 30, 3) := by decide +kernel
theorem dX9_readsNumbers_59 : decode cX9_readsNumbers 59 = .ok (.bipush 10, 2) := by decide +kernel
theorem dX9_readsNumbers_61 : decode cX9_readsNumbers 61 = .ok (.iload_n 3, 1) := by decide +kernel
theorem dX9_readsNumbers_62 : decode cX9_readsNumbers 62 = .ok (.imul, 1) := by decide +kernel
theorem dX9_readsNumbers_63 : decode cX9_readsNumbers 63 = .ok (.aload_n 0, 1) := by decide +kernel
theorem dX9_readsNumbers_64 : decode cX9_readsNumbers 64 = .ok (.aload_n 0, 1) := by decide +kernel
theorem dX9_readsNumbers_65 : decode cX9_readsNumbers 65 = .ok (.getfield 62, 3) := by decide +kernel
theorem dX9_readsNumbers_68 : decode cX9_readsNumbers 68 = .ok (.invokevirtual 65, 3) := by decide +kernel
theorem dX9_readsNumbers_71 : decode cX9_readsNumbers 71 = .ok (.iadd, 1) := by decide +kernel
theorem dX9_readsNumbers_72 : decode cX9_readsNumbers 72 = .ok (.bipush 48, 2) := by decide +kernel
theorem dX9_readsNumbers_74 : decode cX9_readsNumbers 74 = .ok (.isub, 1) := by decide +kernel
theorem dX9_readsNumbers_75 : decode cX9_readsNumbers 75 = .ok (.istore_n 3, 1) := by decide +kernel
theorem dX9_readsNumbers_76 : decode cX9_readsNumbers 76 = .ok (.aload_n 0, 1) := by decide +kernel
theorem dX9_readsNumbers_77 : decode cX9_readsNumbers 77 = .ok (.dup, 1) := by decide +kernel
theorem dX9_readsNumbers_78 : decode cX9_readsNumbers 78 = .ok (.getfield 62, 3) := by decide +kernel
theorem dX9_readsNumbers_81 : decode cX9_readsNumbers 81 = .ok (.iconst 1, 1) := by decide +kernel
theorem dX9_readsNumbers_82 : decode cX9_readsNumbers 82 = .ok (.iadd, 1) := by decide +kernel
theorem dX9_readsNumbers_83 : decode cX9_readsNumbers 83 = .ok (.putfield 62, 3) := by decide +kernel
theorem dX9_readsNumbers_86 : decode cX9_readsNumbers 86 = .ok (.aload_n 0, 1) := by decide +kernel
theorem dX9_readsNumbers_87 : decode cX9_readsNumbers 87 = .ok (.getfield 13, 3) := by decide +kernel
theorem dX9_readsNumbers_90 : decode cX9_readsNumbers 90 = .ok (.iload_n 2, 1) := by decide +kernel
theorem dX9_readsNumbers_91 : decode cX9_readsNumbers 91 = .ok (.iload_n 3, 1) := by decide +kernel
theorem dX9_readsNumbers_92 : decode cX9_readsNumbers 92 = .ok (.iastore, 1) := by decide +kernel
theorem dX9_readsNumbers_93 : decode cX9_readsNumbers 93 = .ok (.aload_n 0, 1) := by decide +kernel
theorem dX9_readsNumbers_94 : decode cX9_readsNumbers 94 = .ok (.aload_n 0, 1) := by decide +kernel
theorem dX9_readsNumbers_95 : decode cX9_readsNumbers 95 = .ok (.getfield 62, 3) := by decide +kernel
theorem dX9_readsNumbers_98 : decode cX9_readsNumbers 98 = .ok (.invokevirtual 65, 3) := by decide +kernel
theorem dX9_readsNumbers_101 : decode cX9_readsNumbers 101 = .ok (.iload_n 2, 1) := by decide +kernel
theorem dX9_readsNumbers_102 : decode cX9_readsNumbers 102 = .ok (.iload_n 1, 1) := by decide +kernel
theorem dX9_readsNumbers_103 : decode cX9_readsNumbers 103 = .ok (.iconst 1, 1) := by decide +kernel
theorem dX9_readsNumbers_104 : decode cX9_readsNumbers 104 = .ok (.isub, 1) := by decide +kernel
theorem dX9_readsNumbers_105 : decode cX9_readsNumbers 105 = .ok (.if_icmp .ne 8, 3) := by decide +kernel
theorem dX9_readsNumbers_108 : decode cX9_readsNumbers 108 = .ok (.bipush 59, 2) := by decide +kernel
theorem dX9_readsNumbers_110 : decode cX9_readsNumbers 110 = .ok (.goto 5, 3) := by decide +kernel
theorem dX9_readsNumbers_113 : decode cX9_readsNumbers 113 = .ok (.bipush 44, 2) := by decide +kernel
theorem dX9_readsNumbers_115 : decode cX9_readsNumbers 115 = .ok (.if_icmp .eq 5, 3) := by decide +kernel
theorem dX9_readsNumbers_118 : decode cX9_readsNumbers 118 = .ok (.iconst 0, 1) := by decide +kernel
theorem dX9_readsNumbers_119 : decode cX9_readsNumbers 119 = .ok (.ireturn, 1) := by decide +kernel
theorem dX9_readsNumbers_120 : decode cX9_readsNumbers 120 = .ok (.aload_n 0, 1) := by decide +kernel
theorem dX9_readsNumbers_121 : decode cX9_readsNumbers 121 = .ok (.dup, 1) := by decide +kernel
theorem dX9_readsNumbers_122 : decode cX9_readsNumbers 122 = .ok (.getfield 62, 3) := by decide +kernel
theorem dX9_readsNumbers_125 : decode cX9_readsNumbers 125 = .ok (.iconst 1, 1) := by decide +kernel
theorem dX9_readsNumbers_126 : decode cX9_readsNumbers 126 = .ok (.iadd, 1) := by decide +kernel
theorem dX9_readsNumbers_127 : decode cX9_readsNumbers 127 = .ok (.putfield 62, 3) := by decide +kernel
theorem dX9_readsNumbers_130 : decode cX9_readsNumbers 130 = .ok (.iinc 2 1, 3) := by decide +kernel
theorem dX9_readsNumbers_133 : decode cX9_readsNumbers 133 = .ok (.goto (-131), 3) := by decide +kernel
theorem dX9_readsNumbers_136 : decode cX9_readsNumbers 136 = .ok (.iconst 1, 1) := by decide +kernel
theorem dX9_readsNumbers_137 : decode cX9_readsNumbers 137 = .ok (.ireturn, 1) := by decide +kernel
theorem dX9_readsPieces_0 : decode cX9_readsPieces 0 = .ok (.aload_n 0, 1) := by decide +kernel
theorem dX9_readsPieces_1 : decode cX9_readsPieces 1 = .ok (.iconst 1, 1) := by decide +kernel
theorem dX9_readsPieces_2 : decode cX9_readsPieces 2 = .ok (.invokevirtual 73, 3) := by decide +kernel
theorem dX9_readsPieces_5 : decode cX9_readsPieces 5 = .ok (.ifCond .eq 25, 3) := by decide +kernel
theorem dX9_readsPieces_8 : decode cX9_readsPieces 8 = .ok (.aload_n 0, 1) := by decide +kernel
theorem dX9_readsPieces_9 : decode cX9_readsPieces 9 = .ok (.getfield 13, 3) := by decide +kernel
theorem dX9_readsPieces_12 : decode cX9_readsPieces 12 = .ok (.iconst 0, 1) := by decide +kernel
theorem dX9_readsPieces_13 : decode cX9_readsPieces 13 = .ok (.iaload, 1) := by decide +kernel
theorem dX9_readsPieces_14 : decode cX9_readsPieces 14 = .ok (.iconst 1, 1) := by decide +kernel
theorem dX9_readsPieces_15 : decode cX9_readsPieces 15 = .ok (.bipush 8, 2) := by decide +kernel
theorem dX9_readsPieces_17 : decode cX9_readsPieces 17 = .ok (.invokestatic 54, 3) := by decide +kernel
theorem dX9_readsPieces_20 : decode cX9_readsPieces 20 = .ok (.ifCond .eq 10, 3) := by decide +kernel
theorem dX9_readsPieces_23 : decode cX9_readsPieces 23 = .ok (.aload_n 0, 1) := by decide +kernel
theorem dX9_readsPieces_24 : decode cX9_readsPieces 24 = .ok (.getfield 76, 3) := by decide +kernel
theorem dX9_readsPieces_27 : decode cX9_readsPieces 27 = .ok (.ifCond .eq 5, 3) := by decide +kernel
theorem dX9_readsPieces_30 : decode cX9_readsPieces 30 = .ok (.iconst 0, 1) := by decide +kernel
theorem dX9_readsPieces_31 : decode cX9_readsPieces 31 = .ok (.ireturn, 1) := by decide +kernel
theorem dX9_readsPieces_32 : decode cX9_readsPieces 32 = .ok (.aload_n 0, 1) := by decide +kernel
theorem dX9_readsPieces_33 : decode cX9_readsPieces 33 = .ok (.getfield 16, 3) := by decide +kernel
theorem dX9_readsPieces_36 : decode cX9_readsPieces 36 = .ok (.iconst 0, 1) := by decide +kernel
theorem dX9_readsPieces_37 : decode cX9_readsPieces 37 = .ok (.aload_n 0, 1) := by decide +kernel
theorem dX9_readsPieces_38 : decode cX9_readsPieces 38 = .ok (.getfield 13, 3) := by decide +kernel
theorem dX9_readsPieces_41 : decode cX9_readsPieces 41 = .ok (.iconst 0, 1) := by decide +kernel
theorem dX9_readsPieces_42 : decode cX9_readsPieces 42 = .ok (.iaload, 1) := by decide +kernel
theorem dX9_readsPieces_43 : decode cX9_readsPieces 43 = .ok (.iastore, 1) := by decide +kernel
theorem dX9_readsPieces_44 : decode cX9_readsPieces 44 = .ok (.iconst 1, 1) := by decide +kernel
theorem dX9_readsPieces_45 : decode cX9_readsPieces 45 = .ok (.ireturn, 1) := by decide +kernel
