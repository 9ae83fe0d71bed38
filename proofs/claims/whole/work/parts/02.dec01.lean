theorem dX5_fits_0 : decode cX5_fits 0 = .ok (.iconst 0, 1) := by decide +kernel
theorem dX5_fits_1 : decode cX5_fits 1 = .ok (.istore_n 2, 1) := by decide +kernel
theorem dX5_fits_2 : decode cX5_fits 2 = .ok (.iload_n 2, 1) := by decide +kernel
theorem dX5_fits_3 : decode cX5_fits 3 = .ok (.aload_n 0, 1) := by decide +kernel
theorem dX5_fits_4 : decode cX5_fits 4 = .ok (.getfield 9, 3) := by decide +kernel
theorem dX5_fits_7 : decode cX5_fits 7 = .ok (.if_icmp .ge 45, 3) := by decide +kernel
theorem dX5_fits_10 : decode cX5_fits 10 = .ok (.aload_n 1, 1) := by decide +kernel
theorem dX5_fits_11 : decode cX5_fits 11 = .ok (.aload_n 0, 1) := by decide +kernel
theorem dX5_fits_12 : decode cX5_fits 12 = .ok (.getfield 27, 3) := by decide +kernel
theorem dX5_fits_15 : decode cX5_fits 15 = .ok (.iload_n 2, 1) := by decide +kernel
theorem dX5_fits_16 : decode cX5_fits 16 = .ok (.invokestatic 66, 3) := by decide +kernel
theorem dX5_fits_19 : decode cX5_fits 19 = .ok (.aload_n 0, 1) := by decide +kernel
theorem dX5_fits_20 : decode cX5_fits 20 = .ok (.getfield 31, 3) := by decide +kernel
theorem dX5_fits_23 : decode cX5_fits 23 = .ok (.iload_n 2, 1) := by decide +kernel
theorem dX5_fits_24 : decode cX5_fits 24 = .ok (.invokestatic 66, 3) := by decide +kernel
theorem dX5_fits_27 : decode cX5_fits 27 = .ok (.invokevirtual 70, 3) := by decide +kernel
theorem dX5_fits_30 : decode cX5_fits 30 = .ok (.invokestatic 74, 3) := by decide +kernel
theorem dX5_fits_33 : decode cX5_fits 33 = .ok (.aload_n 0, 1) := by decide +kernel
theorem dX5_fits_34 : decode cX5_fits 34 = .ok (.getfield 34, 3) := by decide +kernel
theorem dX5_fits_37 : decode cX5_fits 37 = .ok (.iload_n 2, 1) := by decide +kernel
theorem dX5_fits_38 : decode cX5_fits 38 = .ok (.invokestatic 66, 3) := by decide +kernel
theorem dX5_fits_41 : decode cX5_fits 41 = .ok (.if_icmp .eq 5, 3) := by decide +kernel
theorem dX5_fits_44 : decode cX5_fits 44 = .ok (.iconst 0, 1) := by decide +kernel
theorem dX5_fits_45 : decode cX5_fits 45 = .ok (.ireturn, 1) := by decide +kernel
theorem dX5_fits_46 : decode cX5_fits 46 = .ok (.iinc 2 1, 3) := by decide +kernel
theorem dX5_fits_49 : decode cX5_fits 49 = .ok (.goto (-47), 3) := by decide +kernel
theorem dX5_fits_52 : decode cX5_fits 52 = .ok (.iconst 1, 1) := by decide +kernel
theorem dX5_fits_53 : decode cX5_fits 53 = .ok (.ireturn, 1) := by decide +kernel
theorem dX5_countPairs_0 : decode cX5_countPairs 0 = .ok (.iconst 0, 1) := by decide +kernel
theorem dX5_countPairs_1 : decode cX5_countPairs 1 = .ok (.istore_n 3, 1) := by decide +kernel
theorem dX5_countPairs_2 : decode cX5_countPairs 2 = .ok (.iload_n 3, 1) := by decide +kernel
theorem dX5_countPairs_3 : decode cX5_countPairs 3 = .ok (.aload_n 1, 1) := by decide +kernel
theorem dX5_countPairs_4 : decode cX5_countPairs 4 = .ok (.getfield 78, 3) := by decide +kernel
theorem dX5_countPairs_7 : decode cX5_countPairs 7 = .ok (.if_icmp .ge 68, 3) := by decide +kernel
theorem dX5_countPairs_10 : decode cX5_countPairs 10 = .ok (.iload_n 3, 1) := by decide +kernel
theorem dX5_countPairs_11 : decode cX5_countPairs 11 = .ok (.iconst 1, 1) := by decide +kernel
theorem dX5_countPairs_12 : decode cX5_countPairs 12 = .ok (.iadd, 1) := by decide +kernel
theorem dX5_countPairs_13 : decode cX5_countPairs 13 = .ok (.istore 4, 2) := by decide +kernel
theorem dX5_countPairs_15 : decode cX5_countPairs 15 = .ok (.iload 4, 2) := by decide +kernel
theorem dX5_countPairs_17 : decode cX5_countPairs 17 = .ok (.aload_n 1, 1) := by decide +kernel
theorem dX5_countPairs_18 : decode cX5_countPairs 18 = .ok (.getfield 78, 3) := by decide +kernel
theorem dX5_countPairs_21 : decode cX5_countPairs 21 = .ok (.if_icmp .ge 48, 3) := by decide +kernel
theorem dX5_countPairs_24 : decode cX5_countPairs 24 = .ok (.aload_n 2, 1) := by decide +kernel
theorem dX5_countPairs_25 : decode cX5_countPairs 25 = .ok (.iload_n 3, 1) := by decide +kernel
theorem dX5_countPairs_26 : decode cX5_countPairs 26 = .ok (.iload 4, 2) := by decide +kernel
theorem dX5_countPairs_28 : decode cX5_countPairs 28 = .ok (.invokevirtual 70, 3) := by decide +kernel
theorem dX5_countPairs_31 : decode cX5_countPairs 31 = .ok (.ifCond .eq 32, 3) := by decide +kernel
theorem dX5_countPairs_34 : decode cX5_countPairs 34 = .ok (.iload_n 3, 1) := by decide +kernel
theorem dX5_countPairs_35 : decode cX5_countPairs 35 = .ok (.bipush 8, 2) := by decide +kernel
theorem dX5_countPairs_37 : decode cX5_countPairs 37 = .ok (.imul, 1) := by decide +kernel
theorem dX5_countPairs_38 : decode cX5_countPairs 38 = .ok (.iload 4, 2) := by decide +kernel
theorem dX5_countPairs_40 : decode cX5_countPairs 40 = .ok (.iadd, 1) := by decide +kernel
theorem dX5_countPairs_41 : decode cX5_countPairs 41 = .ok (.istore 5, 2) := by decide +kernel
theorem dX5_countPairs_43 : decode cX5_countPairs 43 = .ok (.aload_n 0, 1) := by decide +kernel
theorem dX5_countPairs_44 : decode cX5_countPairs 44 = .ok (.getfield 37, 3) := by decide +kernel
theorem dX5_countPairs_47 : decode cX5_countPairs 47 = .ok (.iload 5, 2) := by decide +kernel
theorem dX5_countPairs_49 : decode cX5_countPairs 49 = .ok (.aload_n 0, 1) := by decide +kernel
theorem dX5_countPairs_50 : decode cX5_countPairs 50 = .ok (.getfield 37, 3) := by decide +kernel
theorem dX5_countPairs_53 : decode cX5_countPairs 53 = .ok (.iload 5, 2) := by decide +kernel
theorem dX5_countPairs_55 : decode cX5_countPairs 55 = .ok (.invokestatic 66, 3) := by decide +kernel
theorem dX5_countPairs_58 : decode cX5_countPairs 58 = .ok (.iconst 1, 1) := by decide +kernel
theorem dX5_countPairs_59 : decode cX5_countPairs 59 = .ok (.iadd, 1) := by decide +kernel
theorem dX5_countPairs_60 : decode cX5_countPairs 60 = .ok (.invokestatic 40, 3) := by decide +kernel
theorem dX5_countPairs_63 : decode cX5_countPairs 63 = .ok (.iinc 4 1, 3) := by decide +kernel
theorem dX5_countPairs_66 : decode cX5_countPairs 66 = .ok (.goto (-51), 3) := by decide +kernel
theorem dX5_countPairs_69 : decode cX5_countPairs 69 = .ok (.iinc 3 1, 3) := by decide +kernel
theorem dX5_countPairs_72 : decode cX5_countPairs 72 = .ok (.goto (-70), 3) := by decide +kernel
theorem dX5_countPairs_75 : decode cX5_countPairs 75 = .ok (.return_, 1) := by decide +kernel
theorem dX5_choosePair_0 : decode cX5_choosePair 0 = .ok (.aload_n 0, 1) := by decide +kernel
theorem dX5_choosePair_1 : decode cX5_choosePair 1 = .ok (.bipush (-4), 2) := by decide +kernel
theorem dX5_choosePair_3 : decode cX5_choosePair 3 = .ok (.putfield 21, 3) := by decide +kernel
theorem dX5_choosePair_6 : decode cX5_choosePair 6 = .ok (.aload_n 0, 1) := by decide +kernel
theorem dX5_choosePair_7 : decode cX5_choosePair 7 = .ok (.bipush (-4), 2) := by decide +kernel
theorem dX5_choosePair_9 : decode cX5_choosePair 9 = .ok (.putfield 24, 3) := by decide +kernel
theorem dX5_choosePair_12 : decode cX5_choosePair 12 = .ok (.aload_n 0, 1) := by decide +kernel
theorem dX5_choosePair_13 : decode cX5_choosePair 13 = .ok (.getfield 15, 3) := by decide +kernel
theorem dX5_choosePair_16 : decode cX5_choosePair 16 = .ok (.iconst 1, 1) := by decide +kernel
theorem dX5_choosePair_17 : decode cX5_choosePair 17 = .ok (.if_icmp .ge 4, 3) := by decide +kernel
theorem dX5_choosePair_20 : decode cX5_choosePair 20 = .ok (.return_, 1) := by decide +kernel
theorem dX5_choosePair_21 : decode cX5_choosePair 21 = .ok (.iconst 0, 1) := by decide +kernel
theorem dX5_choosePair_22 : decode cX5_choosePair 22 = .ok (.istore_n 2, 1) := by decide +kernel
theorem dX5_choosePair_23 : decode cX5_choosePair 23 = .ok (.iload_n 2, 1) := by decide +kernel
theorem dX5_choosePair_24 : decode cX5_choosePair 24 = .ok (.aload_n 1, 1) := by decide +kernel
theorem dX5_choosePair_25 : decode cX5_choosePair 25 = .ok (.getfield 78, 3) := by decide +kernel
theorem dX5_choosePair_28 : decode cX5_choosePair 28 = .ok (.if_icmp .ge 99, 3) := by decide +kernel
theorem dX5_choosePair_31 : decode cX5_choosePair 31 = .ok (.iload_n 2, 1) := by decide +kernel
theorem dX5_choosePair_32 : decode cX5_choosePair 32 = .ok (.iconst 1, 1) := by decide +kernel
theorem dX5_choosePair_33 : decode cX5_choosePair 33 = .ok (.iadd, 1) := by decide +kernel
theorem dX5_choosePair_34 : decode cX5_choosePair 34 = .ok (.istore_n 3, 1) := by decide +kernel
theorem dX5_choosePair_35 : decode cX5_choosePair 35 = .ok (.iload_n 3, 1) := by decide +kernel
theorem dX5_choosePair_36 : decode cX5_choosePair 36 = .ok (.aload_n 1, 1) := by decide +kernel
theorem dX5_choosePair_37 : decode cX5_choosePair 37 = .ok (.getfield 78, 3) := by decide +kernel
theorem dX5_choosePair_40 : decode cX5_choosePair 40 = .ok (.if_icmp .ge 81, 3) := by decide +kernel
theorem dX5_choosePair_43 : decode cX5_choosePair 43 = .ok (.aload_n 0, 1) := by decide +kernel
theorem dX5_choosePair_44 : decode cX5_choosePair 44 = .ok (.getfield 37, 3) := by decide +kernel
theorem dX5_choosePair_47 : decode cX5_choosePair 47 = .ok (.iload_n 2, 1) := by decide +kernel
theorem dX5_choosePair_48 : decode cX5_choosePair 48 = .ok (.bipush 8, 2) := by decide +kernel
theorem dX5_choosePair_50 : decode cX5_choosePair 50 = .ok (.imul, 1) := by decide +kernel
theorem dX5_choosePair_51 : decode cX5_choosePair 51 = .ok (.iload_n 3, 1) := by decide +kernel
theorem dX5_choosePair_52 : decode cX5_choosePair 52 = .ok (.iadd, 1) := by decide +kernel
theorem dX5_choosePair_53 : decode cX5_choosePair 53 = .ok (.invokestatic 66, 3) := by decide +kernel
theorem dX5_choosePair_56 : decode cX5_choosePair 56 = .ok (.istore 4, 2) := by decide +kernel
theorem dX5_choosePair_58 : decode cX5_choosePair 58 = .ok (.iload 4, 2) := by decide +kernel
theorem dX5_choosePair_60 : decode cX5_choosePair 60 = .ok (.aload_n 0, 1) := by decide +kernel
theorem dX5_choosePair_61 : decode cX5_choosePair 61 = .ok (.getfield 15, 3) := by decide +kernel
theorem dX5_choosePair_64 : decode cX5_choosePair 64 = .ok (.iload 4, 2) := by decide +kernel
theorem dX5_choosePair_66 : decode cX5_choosePair 66 = .ok (.isub, 1) := by decide +kernel
theorem dX5_choosePair_67 : decode cX5_choosePair 67 = .ok (.invokestatic 81, 3) := by decide +kernel
theorem dX5_choosePair_70 : decode cX5_choosePair 70 = .ok (.istore 5, 2) := by decide +kernel
theorem dX5_choosePair_72 : decode cX5_choosePair 72 = .ok (.aload_n 0, 1) := by decide +kernel
theorem dX5_choosePair_73 : decode cX5_choosePair 73 = .ok (.iload_n 2, 1) := by decide +kernel
theorem dX5_choosePair_74 : decode cX5_choosePair 74 = .ok (.iload_n 3, 1) := by decide +kernel
theorem dX5_choosePair_75 : decode cX5_choosePair 75 = .ok (.invokevirtual 87, 3) := by decide +kernel
theorem dX5_choosePair_78 : decode cX5_choosePair 78 = .ok (.ifCond .ne 37, 3) := by decide +kernel
theorem dX5_choosePair_81 : decode cX5_choosePair 81 = .ok (.aload_n 0, 1) := by decide +kernel
theorem dX5_choosePair_82 : decode cX5_choosePair 82 = .ok (.getfield 21, 3) := by decide +kernel
theorem dX5_choosePair_85 : decode cX5_choosePair 85 = .ok (.bipush (-4), 2) := by decide +kernel
theorem dX5_choosePair_87 : decode cX5_choosePair 87 = .ok (.if_icmp .eq 12, 3) := by decide +kernel
theorem dX5_choosePair_90 : decode cX5_choosePair 90 = .ok (.iload 5, 2) := by decide +kernel
theorem dX5_choosePair_92 : decode cX5_choosePair 92 = .ok (.aload_n 0, 1) := by decide +kernel
theorem dX5_choosePair_93 : decode cX5_choosePair 93 = .ok (.getfield 24, 3) := by decide +kernel
theorem dX5_choosePair_96 : decode cX5_choosePair 96 = .ok (.if_icmp .ge 19, 3) := by decide +kernel
theorem dX5_choosePair_99 : decode cX5_choosePair 99 = .ok (.aload_n 0, 1) := by decide +kernel
theorem dX5_choosePair_100 : decode cX5_choosePair 100 = .ok (.bipush 10, 2) := by decide +kernel
theorem dX5_choosePair_102 : decode cX5_choosePair 102 = .ok (.iload_n 2, 1) := by decide +kernel
theorem dX5_choosePair_103 : decode cX5_choosePair 103 = .ok (.imul, 1) := by decide +kernel
theorem dX5_choosePair_104 : decode cX5_choosePair 104 = .ok (.iload_n 3, 1) := by decide +kernel
theorem dX5_choosePair_105 : decode cX5_choosePair 105 = .ok (.iadd, 1) := by decide +kernel
theorem dX5_choosePair_106 : decode cX5_choosePair 106 = .ok (.putfield 21, 3) := by decide +kernel
theorem dX5_choosePair_109 : decode cX5_choosePair 109 = .ok (.aload_n 0, 1) := by decide +kernel
theorem dX5_choosePair_110 : decode cX5_choosePair 110 = .ok (.iload 5, 2) := by decide +kernel
theorem dX5_choosePair_112 : decode cX5_choosePair 112 = .ok (.putfield 24, 3) := by decide +kernel
theorem dX5_choosePair_115 : decode cX5_choosePair 115 = .ok (.iinc 3 1, 3) := by decide +kernel
theorem dX5_choosePair_118 : decode cX5_choosePair 118 = .ok (.goto (-83), 3) := by decide +kernel
theorem dX5_choosePair_121 : decode cX5_choosePair 121 = .ok (.iinc 2 1, 3) := by decide +kernel
theorem dX5_choosePair_124 : decode cX5_choosePair 124 = .ok (.goto (-101), 3) := by decide +kernel
theorem dX5_choosePair_127 : decode cX5_choosePair 127 = .ok (.return_, 1) := by decide +kernel
theorem dX5_isSeen_0 : decode cX5_isSeen 0 = .ok (.iconst 0, 1) := by decide +kernel
theorem dX5_isSeen_1 : decode cX5_isSeen 1 = .ok (.istore_n 3, 1) := by decide +kernel
theorem dX5_isSeen_2 : decode cX5_isSeen 2 = .ok (.iload_n 3, 1) := by decide +kernel
theorem dX5_isSeen_3 : decode cX5_isSeen 3 = .ok (.aload_n 0, 1) := by decide +kernel
theorem dX5_isSeen_4 : decode cX5_isSeen 4 = .ok (.getfield 9, 3) := by decide +kernel
theorem dX5_isSeen_7 : decode cX5_isSeen 7 = .ok (.if_icmp .ge 55, 3) := by decide +kernel
theorem dX5_isSeen_10 : decode cX5_isSeen 10 = .ok (.aload_n 0, 1) := by decide +kernel
theorem dX5_isSeen_11 : decode cX5_isSeen 11 = .ok (.getfield 27, 3) := by decide +kernel
theorem dX5_isSeen_14 : decode cX5_isSeen 14 = .ok (.iload_n 3, 1) := by decide +kernel
theorem dX5_isSeen_15 : decode cX5_isSeen 15 = .ok (.invokestatic 66, 3) := by decide +kernel
theorem dX5_isSeen_18 : decode cX5_isSeen 18 = .ok (.istore 4, 2) := by decide +kernel
theorem dX5_isSeen_20 : decode cX5_isSeen 20 = .ok (.aload_n 0, 1) := by decide +kernel
theorem dX5_isSeen_21 : decode cX5_isSeen 21 = .ok (.getfield 31, 3) := by decide +kernel
theorem dX5_isSeen_24 : decode cX5_isSeen 24 = .ok (.iload_n 3, 1) := by decide +kernel
theorem dX5_isSeen_25 : decode cX5_isSeen 25 = .ok (.invokestatic 66, 3) := by decide +kernel
theorem dX5_isSeen_28 : decode cX5_isSeen 28 = .ok (.istore 5, 2) := by decide +kernel
theorem dX5_isSeen_30 : decode cX5_isSeen 30 = .ok (.iload 4, 2) := by decide +kernel
theorem dX5_isSeen_32 : decode cX5_isSeen 32 = .ok (.iload_n 1, 1) := by decide +kernel
theorem dX5_isSeen_33 : decode cX5_isSeen 33 = .ok (.if_icmp .ne 9, 3) := by decide +kernel
theorem dX5_isSeen_36 : decode cX5_isSeen 36 = .ok (.iload 5, 2) := by decide +kernel
theorem dX5_isSeen_38 : decode cX5_isSeen 38 = .ok (.iload_n 2, 1) := by decide +kernel
theorem dX5_isSeen_39 : decode cX5_isSeen 39 = .ok (.if_icmp .eq 15, 3) := by decide +kernel
theorem dX5_isSeen_42 : decode cX5_isSeen 42 = .ok (.iload 4, 2) := by decide +kernel
theorem dX5_isSeen_44 : decode cX5_isSeen 44 = .ok (.iload_n 2, 1) := by decide +kernel
theorem dX5_isSeen_45 : decode cX5_isSeen 45 = .ok (.if_icmp .ne 11, 3) := by decide +kernel
theorem dX5_isSeen_48 : decode cX5_isSeen 48 = .ok (.iload 5, 2) := by decide +kernel
theorem dX5_isSeen_50 : decode cX5_isSeen 50 = .ok (.iload_n 1, 1) := by decide +kernel
theorem dX5_isSeen_51 : decode cX5_isSeen 51 = .ok (.if_icmp .ne 5, 3) := by decide +kernel
theorem dX5_isSeen_54 : decode cX5_isSeen 54 = .ok (.iconst 1, 1) := by decide +kernel
theorem dX5_isSeen_55 : decode cX5_isSeen 55 = .ok (.ireturn, 1) := by decide +kernel
theorem dX5_isSeen_56 : decode cX5_isSeen 56 = .ok (.iinc 3 1, 3) := by decide +kernel
theorem dX5_isSeen_59 : decode cX5_isSeen 59 = .ok (.goto (-57), 3) := by decide +kernel
theorem dX5_isSeen_62 : decode cX5_isSeen 62 = .ok (.iconst 0, 1) := by decide +kernel
theorem dX5_isSeen_63 : decode cX5_isSeen 63 = .ok (.ireturn, 1) := by decide +kernel
theorem dX6_init_0 : decode cX6_init 0 = .ok (.aload_n 0, 1) := by decide +kernel
theorem dX6_init_1 : decode cX6_init 1 = .ok (.invokespecial 1, 3) := by decide +kernel
theorem dX6_init_4 : decode cX6_init 4 = .ok (.aload_n 0, 1) := by decide +kernel
theorem dX6_init_5 : decode cX6_init 5 = .ok (.iconst 0, 1) := by decide +kernel
theorem dX6_init_6 : decode cX6_init 6 = .ok (.putfield 7, 3) := by decide +kernel
theorem dX6_init_9 : decode cX6_init 9 = .ok (.aload_n 0, 1) := by decide +kernel
theorem dX6_init_10 : decode cX6_init 10 = .ok (.iconst 0, 1) := by decide +kernel
theorem dX6_init_11 : decode cX6_init 11 = .ok (.putfield 13, 3) := by decide +kernel
theorem dX6_init_14 : decode cX6_init 14 = .ok (.aload_n 0, 1) := by decide +kernel
theorem dX6_init_15 : decode cX6_init 15 = .ok (.iconst 1, 1) := by decide +kernel
theorem dX6_init_16 : decode cX6_init 16 = .ok (.iload_n 1, 1) := by decide +kernel
theorem dX6_init_17 : decode cX6_init 17 = .ok (.invokestatic 16, 3) := by decide +kernel
theorem dX6_init_20 : decode cX6_init 20 = .ok (.anewarray 22, 3) := by decide +kernel
theorem dX6_init_23 : decode cX6_init 23 = .ok (.putfield 24, 3) := by decide +kernel
theorem dX6_init_26 : decode cX6_init 26 = .ok (.iconst 0, 1) := by decide +kernel
theorem dX6_init_27 : decode cX6_init 27 = .ok (.istore_n 2, 1) := by decide +kernel
theorem dX6_init_28 : decode cX6_init 28 = .ok (.iload_n 2, 1) := by decide +kernel
theorem dX6_init_29 : decode cX6_init 29 = .ok (.aload_n 0, 1) := by decide +kernel
theorem dX6_init_30 : decode cX6_init 30 = .ok (.getfield 24, 3) := by decide +kernel
theorem dX6_init_33 : decode cX6_init 33 = .ok (.arraylength, 1) := by decide +kernel
theorem dX6_init_34 : decode cX6_init 34 = .ok (.if_icmp .ge 22, 3) := by decide +kernel
theorem dX6_init_37 : decode cX6_init 37 = .ok (.aload_n 0, 1) := by decide +kernel
theorem dX6_init_38 : decode cX6_init 38 = .ok (.getfield 24, 3) := by decide +kernel
theorem dX6_init_41 : decode cX6_init 41 = .ok (.iload_n 2, 1) := by decide +kernel
theorem dX6_init_42 : decode cX6_init 42 = .ok (.new 22, 3) := by decide +kernel
theorem dX6_init_45 : decode cX6_init 45 = .ok (.dup, 1) := by decide +kernel
theorem dX6_init_46 : decode cX6_init 46 = .ok (.invokespecial 28, 3) := by decide +kernel
theorem dX6_init_49 : decode cX6_init 49 = .ok (.aastore, 1) := by decide +kernel
theorem dX6_init_50 : decode cX6_init 50 = .ok (.iinc 2 1, 3) := by decide +kernel
theorem dX6_init_53 : decode cX6_init 53 = .ok (.goto (-25), 3) := by decide +kernel
theorem dX6_init_56 : decode cX6_init 56 = .ok (.return_, 1) := by decide +kernel
theorem dX6_clear_0 : decode cX6_clear 0 = .ok (.aload_n 0, 1) := by decide +kernel
theorem dX6_clear_1 : decode cX6_clear 1 = .ok (.iconst 0, 1) := by decide +kernel
theorem dX6_clear_2 : decode cX6_clear 2 = .ok (.putfield 7, 3) := by decide +kernel
theorem dX6_clear_5 : decode cX6_clear 5 = .ok (.return_, 1) := by decide +kernel
theorem dX6_add_0 : decode cX6_add 0 = .ok (.aload_n 0, 1) := by decide +kernel
theorem dX6_add_1 : decode cX6_add 1 = .ok (.getfield 7, 3) := by decide +kernel
theorem dX6_add_4 : decode cX6_add 4 = .ok (.aload_n 0, 1) := by decide +kernel
theorem dX6_add_5 : decode cX6_add 5 = .ok (.getfield 24, 3) := by decide +kernel
theorem dX6_add_8 : decode cX6_add 8 = .ok (.arraylength, 1) := by decide +kernel
theorem dX6_add_9 : decode cX6_add 9 = .ok (.if_icmp .lt 22, 3) := by decide +kernel
theorem dX6_add_12 : decode cX6_add 12 = .ok (.aload_n 0, 1) := by decide +kernel
theorem dX6_add_13 : decode cX6_add 13 = .ok (.aload_n 0, 1) := by decide +kernel
theorem dX6_add_14 : decode cX6_add 14 = .ok (.iconst 1, 1) := by decide +kernel
theorem dX6_add_15 : decode cX6_add 15 = .ok (.invokevirtual 29, 3) := by decide +kernel
theorem dX6_add_18 : decode cX6_add 18 = .ok (.putfield 13, 3) := by decide +kernel
theorem dX6_add_21 : decode cX6_add 21 = .ok (.aload_n 0, 1) := by decide +kernel
theorem dX6_add_22 : decode cX6_add 22 = .ok (.dup, 1) := by decide +kernel
theorem dX6_add_23 : decode cX6_add 23 = .ok (.getfield 7, 3) := by decide +kernel
theorem dX6_add_26 : decode cX6_add 26 = .ok (.iconst 1, 1) := by decide +kernel
theorem dX6_add_27 : decode cX6_add 27 = .ok (.isub, 1) := by decide +kernel
theorem dX6_add_28 : decode cX6_add 28 = .ok (.putfield 7, 3) := by decide +kernel
theorem dX6_add_31 : decode cX6_add 31 = .ok (.aload_n 0, 1) := by decide +kernel
theorem dX6_add_32 : decode cX6_add 32 = .ok (.aload_n 0, 1) := by decide +kernel
theorem dX6_add_33 : decode cX6_add 33 = .ok (.getfield 7, 3) := by decide +kernel
theorem dX6_add_36 : decode cX6_add 36 = .ok (.invokevirtual 33, 3) := by decide +kernel
theorem dX6_add_39 : decode cX6_add 39 = .ok (.astore_n 2, 1) := by decide +kernel
theorem dX6_add_40 : decode cX6_add 40 = .ok (.aload_n 2, 1) := by decide +kernel
theorem dX6_add_41 : decode cX6_add 41 = .ok (.ifnull 8, 3) := by decide +kernel
theorem dX6_add_44 : decode cX6_add 44 = .ok (.aload_n 2, 1) := by decide +kernel
theorem dX6_add_45 : decode cX6_add 45 = .ok (.aload_n 1, 1) := by decide +kernel
theorem dX6_add_46 : decode cX6_add 46 = .ok (.invokevirtual 37, 3) := by decide +kernel
theorem dX6_add_49 : decode cX6_add 49 = .ok (.aload_n 0, 1) := by decide +kernel
theorem dX6_add_50 : decode cX6_add 50 = .ok (.dup, 1) := by decide +kernel
theorem dX6_add_51 : decode cX6_add 51 = .ok (.getfield 7, 3) := by decide +kernel
theorem dX6_add_54 : decode cX6_add 54 = .ok (.iconst 1, 1) := by decide +kernel
theorem dX6_add_55 : decode cX6_add 55 = .ok (.iadd, 1) := by decide +kernel
theorem dX6_add_56 : decode cX6_add 56 = .ok (.putfield 7, 3) := by decide +kernel
theorem dX6_add_59 : decode cX6_add 59 = .ok (.return_, 1) := by decide +kernel
theorem dX6_takeLast_0 : decode cX6_takeLast 0 = .ok (.aload_n 0, 1) := by decide +kernel
theorem dX6_takeLast_1 : decode cX6_takeLast 1 = .ok (.getfield 7, 3) := by decide +kernel
theorem dX6_takeLast_4 : decode cX6_takeLast 4 = .ok (.iconst 1, 1) := by decide +kernel
theorem dX6_takeLast_5 : decode cX6_takeLast 5 = .ok (.if_icmp .ge 4, 3) := by decide +kernel
theorem dX6_takeLast_8 : decode cX6_takeLast 8 = .ok (.return_, 1) := by decide +kernel
theorem dX6_takeLast_9 : decode cX6_takeLast 9 = .ok (.aload_n 0, 1) := by decide +kernel
theorem dX6_takeLast_10 : decode cX6_takeLast 10 = .ok (.dup, 1) := by decide +kernel
theorem dX6_takeLast_11 : decode cX6_takeLast 11 = .ok (.getfield 7, 3) := by decide +kernel
theorem dX6_takeLast_14 : decode cX6_takeLast 14 = .ok (.iconst 1, 1) := by decide +kernel
theorem dX6_takeLast_15 : decode cX6_takeLast 15 = .ok (.isub, 1) := by decide +kernel
theorem dX6_takeLast_16 : decode cX6_takeLast 16 = .ok (.putfield 7, 3) := by decide +kernel
theorem dX6_takeLast_19 : decode cX6_takeLast 19 = .ok (.aload_n 0, 1) := by decide +kernel
theorem dX6_takeLast_20 : decode cX6_takeLast 20 = .ok (.aload_n 0, 1) := by decide +kernel
theorem dX6_takeLast_21 : decode cX6_takeLast 21 = .ok (.getfield 7, 3) := by decide +kernel
theorem dX6_takeLast_24 : decode cX6_takeLast 24 = .ok (.invokevirtual 33, 3) := by decide +kernel
theorem dX6_takeLast_27 : decode cX6_takeLast 27 = .ok (.astore_n 2, 1) := by decide +kernel
theorem dX6_takeLast_28 : decode cX6_takeLast 28 = .ok (.aload_n 2, 1) := by decide +kernel
theorem dX6_takeLast_29 : decode cX6_takeLast 29 = .ok (.ifnull 8, 3) := by decide +kernel
theorem dX6_takeLast_32 : decode cX6_takeLast 32 = .ok (.aload_n 1, 1) := by decide +kernel
theorem dX6_takeLast_33 : decode cX6_takeLast 33 = .ok (.aload_n 2, 1) := by decide +kernel
theorem dX6_takeLast_34 : decode cX6_takeLast 34 = .ok (.invokevirtual 37, 3) := by decide +kernel
theorem dX6_takeLast_37 : decode cX6_takeLast 37 = .ok (.return_, 1) := by decide +kernel
theorem dX6_standingAt_0 : decode cX6_standingAt 0 = .ok (.aload_n 0, 1) := by decide +kernel
theorem dX6_standingAt_1 : decode cX6_standingAt 1 = .ok (.iload_n 1, 1) := by decide +kernel
theorem dX6_standingAt_2 : decode cX6_standingAt 2 = .ok (.invokevirtual 29, 3) := by decide +kernel
theorem dX6_standingAt_5 : decode cX6_standingAt 5 = .ok (.istore_n 2, 1) := by decide +kernel
theorem dX6_standingAt_6 : decode cX6_standingAt 6 = .ok (.iload_n 2, 1) := by decide +kernel
theorem dX6_standingAt_7 : decode cX6_standingAt 7 = .ok (.ifCond .lt 21, 3) := by decide +kernel
theorem dX6_standingAt_10 : decode cX6_standingAt 10 = .ok (.iload_n 2, 1) := by decide +kernel
theorem dX6_standingAt_11 : decode cX6_standingAt 11 = .ok (.aload_n 0, 1) := by decide +kernel
theorem dX6_standingAt_12 : decode cX6_standingAt 12 = .ok (.getfield 24, 3) := by decide +kernel
theorem dX6_standingAt_15 : decode cX6_standingAt 15 = .ok (.arraylength, 1) := by decide +kernel
theorem dX6_standingAt_16 : decode cX6_standingAt 16 = .ok (.if_icmp .ge 12, 3) := by decide +kernel
theorem dX6_standingAt_19 : decode cX6_standingAt 19 = .ok (.aload_n 0, 1) := by decide +kernel
theorem dX6_standingAt_20 : decode cX6_standingAt 20 = .ok (.getfield 24, 3) := by decide +kernel
theorem dX6_standingAt_23 : decode cX6_standingAt 23 = .ok (.iload_n 2, 1) := by decide +kernel
theorem dX6_standingAt_24 : decode cX6_standingAt 24 = .ok (.aaload, 1) := by decide +kernel
theorem dX6_standingAt_25 : decode cX6_standingAt 25 = .ok (.goto 4, 3) := by decide +kernel
theorem dX6_standingAt_28 : decode cX6_standingAt 28 = .ok (.aconst_null, 1) := by decide +kernel
theorem dX6_standingAt_29 : decode cX6_standingAt 29 = .ok (.areturn, 1) := by decide +kernel
theorem dX6_slotOf_0 : decode cX6_slotOf 0 = .ok (.aload_n 0, 1) := by decide +kernel
theorem dX6_slotOf_1 : decode cX6_slotOf 1 = .ok (.getfield 24, 3) := by decide +kernel
theorem dX6_slotOf_4 : decode cX6_slotOf 4 = .ok (.arraylength, 1) := by decide +kernel
theorem dX6_slotOf_5 : decode cX6_slotOf 5 = .ok (.ifCond .le 18, 3) := by decide +kernel
theorem dX6_slotOf_8 : decode cX6_slotOf 8 = .ok (.aload_n 0, 1) := by decide +kernel
theorem dX6_slotOf_9 : decode cX6_slotOf 9 = .ok (.getfield 13, 3) := by decide +kernel
theorem dX6_slotOf_12 : decode cX6_slotOf 12 = .ok (.iload_n 1, 1) := by decide +kernel
theorem dX6_slotOf_13 : decode cX6_slotOf 13 = .ok (.iadd, 1) := by decide +kernel
theorem dX6_slotOf_14 : decode cX6_slotOf 14 = .ok (.aload_n 0, 1) := by decide +kernel
theorem dX6_slotOf_15 : decode cX6_slotOf 15 = .ok (.getfield 24, 3) := by decide +kernel
theorem dX6_slotOf_18 : decode cX6_slotOf 18 = .ok (.arraylength, 1) := by decide +kernel
theorem dX6_slotOf_19 : decode cX6_slotOf 19 = .ok (.irem, 1) := by decide +kernel
theorem dX6_slotOf_20 : decode cX6_slotOf 20 = .ok (.goto 4, 3) := by decide +kernel
theorem dX6_slotOf_23 : decode cX6_slotOf 23 = .ok (.iconst 0, 1) := by decide +kernel
theorem dX6_slotOf_24 : decode cX6_slotOf 24 = .ok (.ireturn, 1) := by decide +kernel
theorem dX7_init_0 : decode cX7_init 0 = .ok (.aload_n 0, 1) := by decide +kernel
theorem dX7_init_1 : decode cX7_init 1 = .ok (.invokespecial 3, 3) := by decide +kernel
theorem dX7_init_4 : decode cX7_init 4 = .ok (.aload_n 0, 1) := by decide +kernel
theorem dX7_init_5 : decode cX7_init 5 = .ok (.iconst 0, 1) := by decide +kernel
theorem dX7_init_6 : decode cX7_init 6 = .ok (.putfield 9, 3) := by decide +kernel
theorem dX7_init_9 : decode cX7_init 9 = .ok (.aload_n 0, 1) := by decide +kernel
theorem dX7_init_10 : decode cX7_init 10 = .ok (.bipush 8, 2) := by decide +kernel
theorem dX7_init_12 : decode cX7_init 12 = .ok (.newarray .int, 2) := by decide +kernel
theorem dX7_init_14 : decode cX7_init 14 = .ok (.putfield 15, 3) := by decide +kernel
theorem dX7_init_17 : decode cX7_init 17 = .ok (.aload_n 0, 1) := by decide +kernel
theorem dX7_init_18 : decode cX7_init 18 = .ok (.iconst 4, 1) := by decide +kernel
theorem dX7_init_19 : decode cX7_init 19 = .ok (.newarray .int, 2) := by decide +kernel
theorem dX7_init_21 : decode cX7_init 21 = .ok (.putfield 19, 3) := by decide +kernel
theorem dX7_init_24 : decode cX7_init 24 = .ok (.aload_n 0, 1) := by decide +kernel
theorem dX7_init_25 : decode cX7_init 25 = .ok (.iconst 4, 1) := by decide +kernel
theorem dX7_init_26 : decode cX7_init 26 = .ok (.newarray .int, 2) := by decide +kernel
theorem dX7_init_28 : decode cX7_init 28 = .ok (.putfield 22, 3) := by decide +kernel
theorem dX7_init_31 : decode cX7_init 31 = .ok (.return_, 1) := by decide +kernel
theorem dX7_begin_0 : decode cX7_begin 0 = .ok (.aload_n 0, 1) := by decide +kernel
theorem dX7_begin_1 : decode cX7_begin 1 = .ok (.iconst 0, 1) := by decide +kernel
theorem dX7_begin_2 : decode cX7_begin 2 = .ok (.putfield 9, 3) := by decide +kernel
theorem dX7_begin_5 : decode cX7_begin 5 = .ok (.iconst 0, 1) := by decide +kernel
theorem dX7_begin_6 : decode cX7_begin 6 = .ok (.istore_n 2, 1) := by decide +kernel
theorem dX7_begin_7 : decode cX7_begin 7 = .ok (.iload_n 2, 1) := by decide +kernel
theorem dX7_begin_8 : decode cX7_begin 8 = .ok (.bipush 8, 2) := by decide +kernel
theorem dX7_begin_10 : decode cX7_begin 10 = .ok (.if_icmp .ge 18, 3) := by decide +kernel
theorem dX7_begin_13 : decode cX7_begin 13 = .ok (.aload_n 0, 1) := by decide +kernel
theorem dX7_begin_14 : decode cX7_begin 14 = .ok (.getfield 15, 3) := by decide +kernel
theorem dX7_begin_17 : decode cX7_begin 17 = .ok (.iload_n 2, 1) := by decide +kernel
theorem dX7_begin_18 : decode cX7_begin 18 = .ok (.iconst 0, 1) := by decide +kernel
theorem dX7_begin_19 : decode cX7_begin 19 = .ok (.invokestatic 25, 3) := by decide +kernel
theorem dX7_begin_22 : decode cX7_begin 22 = .ok (.iinc 2 1, 3) := by decide +kernel
theorem dX7_begin_25 : decode cX7_begin 25 = .ok (.goto (-18), 3) := by decide +kernel
theorem dX7_begin_28 : decode cX7_begin 28 = .ok (.iconst 0, 1) := by decide +kernel
theorem dX7_begin_29 : decode cX7_begin 29 = .ok (.istore_n 2, 1) := by decide +kernel
theorem dX7_begin_30 : decode cX7_begin 30 = .ok (.iload_n 2, 1) := by decide +kernel
theorem dX7_begin_31 : decode cX7_begin 31 = .ok (.iconst 4, 1) := by decide +kernel
theorem dX7_begin_32 : decode cX7_begin 32 = .ok (.if_icmp .ge 33, 3) := by decide +kernel
theorem dX7_begin_35 : decode cX7_begin 35 = .ok (.aload_n 0, 1) := by decide +kernel
theorem dX7_begin_36 : decode cX7_begin 36 = .ok (.getfield 19, 3) := by decide +kernel
theorem dX7_begin_39 : decode cX7_begin 39 = .ok (.iload_n 2, 1) := by decide +kernel
theorem dX7_begin_40 : decode cX7_begin 40 = .ok (.bipush (-4), 2) := by decide +kernel
theorem dX7_begin_42 : decode cX7_begin 42 = .ok (.invokestatic 25, 3) := by decide +kernel
theorem dX7_begin_45 : decode cX7_begin 45 = .ok (.aload_n 0, 1) := by decide +kernel
theorem dX7_begin_46 : decode cX7_begin 46 = .ok (.getfield 22, 3) := by decide +kernel
theorem dX7_begin_49 : decode cX7_begin 49 = .ok (.iload_n 2, 1) := by decide +kernel
theorem dX7_begin_50 : decode cX7_begin 50 = .ok (.aload_n 1, 1) := by decide +kernel
theorem dX7_begin_51 : decode cX7_begin 51 = .ok (.iload_n 2, 1) := by decide +kernel
theorem dX7_begin_52 : decode cX7_begin 52 = .ok (.iconst 1, 1) := by decide +kernel
theorem dX7_begin_53 : decode cX7_begin 53 = .ok (.invokevirtual 29, 3) := by decide +kernel
theorem dX7_begin_56 : decode cX7_begin 56 = .ok (.invokestatic 25, 3) := by decide +kernel
theorem dX7_begin_59 : decode cX7_begin 59 = .ok (.iinc 2 1, 3) := by decide +kernel
theorem dX7_begin_62 : decode cX7_begin 62 = .ok (.goto (-32), 3) := by decide +kernel
theorem dX7_begin_65 : decode cX7_begin 65 = .ok (.return_, 1) := by decide +kernel
theorem dX7_copyFrom_0 : decode cX7_copyFrom 0 = .ok (.aload_n 0, 1) := by decide +kernel
theorem dX7_copyFrom_1 : decode cX7_copyFrom 1 = .ok (.aload_n 1, 1) := by decide +kernel
theorem dX7_copyFrom_2 : decode cX7_copyFrom 2 = .ok (.getfield 9, 3) := by decide +kernel
theorem dX7_copyFrom_5 : decode cX7_copyFrom 5 = .ok (.putfield 9, 3) := by decide +kernel
theorem dX7_copyFrom_8 : decode cX7_copyFrom 8 = .ok (.iconst 0, 1) := by decide +kernel
theorem dX7_copyFrom_9 : decode cX7_copyFrom 9 = .ok (.istore_n 2, 1) := by decide +kernel
theorem dX7_copyFrom_10 : decode cX7_copyFrom 10 = .ok (.iload_n 2, 1) := by decide +kernel
theorem dX7_copyFrom_11 : decode cX7_copyFrom 11 = .ok (.bipush 8, 2) := by decide +kernel
theorem dX7_copyFrom_13 : decode cX7_copyFrom 13 = .ok (.if_icmp .ge 25, 3) := by decide +kernel
theorem dX7_copyFrom_16 : decode cX7_copyFrom 16 = .ok (.aload_n 0, 1) := by decide +kernel
theorem dX7_copyFrom_17 : decode cX7_copyFrom 17 = .ok (.getfield 15, 3) := by decide +kernel
theorem dX7_copyFrom_20 : decode cX7_copyFrom 20 = .ok (.iload_n 2, 1) := by decide +kernel
theorem dX7_copyFrom_21 : decode cX7_copyFrom 21 = .ok (.aload_n 1, 1) := by decide +kernel
theorem dX7_copyFrom_22 : decode cX7_copyFrom 22 = .ok (.getfield 15, 3) := by decide +kernel
theorem dX7_copyFrom_25 : decode cX7_copyFrom 25 = .ok (.iload_n 2, 1) := by decide +kernel
theorem dX7_copyFrom_26 : decode cX7_copyFrom 26 = .ok (.invokestatic 35, 3) := by decide +kernel
theorem dX7_copyFrom_29 : decode cX7_copyFrom 29 = .ok (.invokestatic 25, 3) := by decide +kernel
theorem dX7_copyFrom_32 : decode cX7_copyFrom 32 = .ok (.iinc 2 1, 3) := by decide +kernel
theorem dX7_copyFrom_35 : decode cX7_copyFrom 35 = .ok (.goto (-25), 3) := by decide +kernel
theorem dX7_copyFrom_38 : decode cX7_copyFrom 38 = .ok (.iconst 0, 1) := by decide +kernel
theorem dX7_copyFrom_39 : decode cX7_copyFrom 39 = .ok (.istore_n 2, 1) := by decide +kernel
theorem dX7_copyFrom_40 : decode cX7_copyFrom 40 = .ok (.iload_n 2, 1) := by decide +kernel
theorem dX7_copyFrom_41 : decode cX7_copyFrom 41 = .ok (.iconst 4, 1) := by decide +kernel
theorem dX7_copyFrom_42 : decode cX7_copyFrom 42 = .ok (.if_icmp .ge 41, 3) := by decide +kernel
theorem dX7_copyFrom_45 : decode cX7_copyFrom 45 = .ok (.aload_n 0, 1) := by decide +kernel
theorem dX7_copyFrom_46 : decode cX7_copyFrom 46 = .ok (.getfield 19, 3) := by decide +kernel
theorem dX7_copyFrom_49 : decode cX7_copyFrom 49 = .ok (.iload_n 2, 1) := by decide +kernel
theorem dX7_copyFrom_50 : decode cX7_copyFrom 50 = .ok (.aload_n 1, 1) := by decide +kernel
theorem dX7_copyFrom_51 : decode cX7_copyFrom 51 = .ok (.getfield 19, 3) := by decide +kernel
theorem dX7_copyFrom_54 : decode cX7_copyFrom 54 = .ok (.iload_n 2, 1) := by decide +kernel
theorem dX7_copyFrom_55 : decode cX7_copyFrom 55 = .ok (.invokestatic 35, 3) := by decide +kernel
theorem dX7_copyFrom_58 : decode cX7_copyFrom 58 = .ok (.invokestatic 25, 3) := by decide +kernel
theorem dX7_copyFrom_61 : decode cX7_copyFrom 61 = .ok (.aload_n 0, 1) := by decide +kernel
theorem dX7_copyFrom_62 : decode cX7_copyFrom 62 = .ok (.getfield 22, 3) := by decide +kernel
theorem dX7_copyFrom_65 : decode cX7_copyFrom 65 = .ok (.iload_n 2, 1) := by decide +kernel
theorem dX7_copyFrom_66 : decode cX7_copyFrom 66 = .ok (.aload_n 1, 1) := by decide +kernel
theorem dX7_copyFrom_67 : decode cX7_copyFrom 67 = .ok (.getfield 22, 3) := by decide +kernel
theorem dX7_copyFrom_70 : decode cX7_copyFrom 70 = .ok (.iload_n 2, 1) := by decide +kernel
theorem dX7_copyFrom_71 : decode cX7_copyFrom 71 = .ok (.invokestatic 35, 3) := by decide +kernel
theorem dX7_copyFrom_74 : decode cX7_copyFrom 74 = .ok (.invokestatic 25, 3) := by decide +kernel
theorem dX7_copyFrom_77 : decode cX7_copyFrom 77 = .ok (.iinc 2 1, 3) := by decide +kernel
theorem dX7_copyFrom_80 : decode cX7_copyFrom 80 = .ok (.goto (-40), 3) := by decide +kernel
theorem dX7_copyFrom_83 : decode cX7_copyFrom 83 = .ok (.return_, 1) := by decide +kernel
theorem dX7_stitchesOf_0 : decode cX7_stitchesOf 0 = .ok (.aload_n 0, 1) := by decide +kernel
theorem dX7_stitchesOf_1 : decode cX7_stitchesOf 1 = .ok (.getfield 15, 3) := by decide +kernel
theorem dX7_stitchesOf_4 : decode cX7_stitchesOf 4 = .ok (.iload_n 1, 1) := by decide +kernel
theorem dX7_stitchesOf_5 : decode cX7_stitchesOf 5 = .ok (.invokestatic 35, 3) := by decide +kernel
theorem dX7_stitchesOf_8 : decode cX7_stitchesOf 8 = .ok (.ireturn, 1) := by decide +kernel
theorem dX7_placeOf_0 : decode cX7_placeOf 0 = .ok (.aload_n 0, 1) := by decide +kernel
theorem dX7_placeOf_1 : decode cX7_placeOf 1 = .ok (.getfield 22, 3) := by decide +kernel
theorem dX7_placeOf_4 : decode cX7_placeOf 4 = .ok (.iload_n 1, 1) := by decide +kernel
theorem dX7_placeOf_5 : decode cX7_placeOf 5 = .ok (.invokestatic 35, 3) := by decide +kernel
theorem dX7_placeOf_8 : decode cX7_placeOf 8 = .ok (.ireturn, 1) := by decide +kernel
theorem dX7_goalOf_0 : decode cX7_goalOf 0 = .ok (.aload_n 0, 1) := by decide +kernel
theorem dX7_goalOf_1 : decode cX7_goalOf 1 = .ok (.getfield 19, 3) := by decide +kernel
theorem dX7_goalOf_4 : decode cX7_goalOf 4 = .ok (.iload_n 1, 1) := by decide +kernel
theorem dX7_goalOf_5 : decode cX7_goalOf 5 = .ok (.invokestatic 35, 3) := by decide +kernel
theorem dX7_goalOf_8 : decode cX7_goalOf 8 = .ok (.ireturn, 1) := by decide +kernel
theorem dX7_isClosed_0 : decode cX7_isClosed 0 = .ok (.aload_n 0, 1) := by decide +kernel
theorem dX7_isClosed_1 : decode cX7_isClosed 1 = .ok (.getfield 15, 3) := by decide +kernel
theorem dX7_isClosed_4 : decode cX7_isClosed 4 = .ok (.iload_n 2, 1) := by decide +kernel
theorem dX7_isClosed_5 : decode cX7_isClosed 5 = .ok (.invokestatic 35, 3) := by decide +kernel
theorem dX7_isClosed_8 : decode cX7_isClosed 8 = .ok (.aload_n 1, 1) := by decide +kernel
theorem dX7_isClosed_9 : decode cX7_isClosed 9 = .ok (.iload_n 2, 1) := by decide +kernel
theorem dX7_isClosed_10 : decode cX7_isClosed 10 = .ok (.iconst 4, 1) := by decide +kernel
theorem dX7_isClosed_11 : decode cX7_isClosed 11 = .ok (.invokevirtual 39, 3) := by decide +kernel
theorem dX7_isClosed_14 : decode cX7_isClosed 14 = .ok (.if_icmp .lt 7, 3) := by decide +kernel
theorem dX7_isClosed_17 : decode cX7_isClosed 17 = .ok (.iconst 1, 1) := by decide +kernel
theorem dX7_isClosed_18 : decode cX7_isClosed 18 = .ok (.goto 4, 3) := by decide +kernel
theorem dX7_isClosed_21 : decode cX7_isClosed 21 = .ok (.iconst 0, 1) := by decide +kernel
theorem dX7_isClosed_22 : decode cX7_isClosed 22 = .ok (.ireturn, 1) := by decide +kernel
theorem dX7_closedBits_0 : decode cX7_closedBits 0 = .ok (.iconst 0, 1) := by decide +kernel
theorem dX7_closedBits_1 : decode cX7_closedBits 1 = .ok (.istore_n 2, 1) := by decide +kernel
theorem dX7_closedBits_2 : decode cX7_closedBits 2 = .ok (.iconst 0, 1) := by decide +kernel
theorem dX7_closedBits_3 : decode cX7_closedBits 3 = .ok (.istore_n 3, 1) := by decide +kernel
theorem dX7_closedBits_4 : decode cX7_closedBits 4 = .ok (.iload_n 3, 1) := by decide +kernel
theorem dX7_closedBits_5 : decode cX7_closedBits 5 = .ok (.aload_n 1, 1) := by decide +kernel
theorem dX7_closedBits_6 : decode cX7_closedBits 6 = .ok (.getfield 42, 3) := by decide +kernel
theorem dX7_closedBits_9 : decode cX7_closedBits 9 = .ok (.if_icmp .ge 24, 3) := by decide +kernel
theorem dX7_closedBits_12 : decode cX7_closedBits 12 = .ok (.aload_n 0, 1) := by decide +kernel
theorem dX7_closedBits_13 : decode cX7_closedBits 13 = .ok (.aload_n 1, 1) := by decide +kernel
theorem dX7_closedBits_14 : decode cX7_closedBits 14 = .ok (.iload_n 3, 1) := by decide +kernel
theorem dX7_closedBits_15 : decode cX7_closedBits 15 = .ok (.invokevirtual 45, 3) := by decide +kernel
theorem dX7_closedBits_18 : decode cX7_closedBits 18 = .ok (.ifCond .eq 9, 3) := by decide +kernel
theorem dX7_closedBits_21 : decode cX7_closedBits 21 = .ok (.iload_n 2, 1) := by decide +kernel
theorem dX7_closedBits_22 : decode cX7_closedBits 22 = .ok (.iconst 1, 1) := by decide +kernel
theorem dX7_closedBits_23 : decode cX7_closedBits 23 = .ok (.iload_n 3, 1) := by decide +kernel
theorem dX7_closedBits_24 : decode cX7_closedBits 24 = .ok (.ishl, 1) := by decide +kernel
theorem dX7_closedBits_25 : decode cX7_closedBits 25 = .ok (.ior, 1) := by decide +kernel
theorem dX7_closedBits_26 : decode cX7_closedBits 26 = .ok (.istore_n 2, 1) := by decide +kernel
theorem dX7_closedBits_27 : decode cX7_closedBits 27 = .ok (.iinc 3 1, 3) := by decide +kernel
theorem dX7_closedBits_30 : decode cX7_closedBits 30 = .ok (.goto (-26), 3) := by decide +kernel
theorem dX7_closedBits_33 : decode cX7_closedBits 33 = .ok (.iload_n 2, 1) := by decide +kernel
theorem dX7_closedBits_34 : decode cX7_closedBits 34 = .ok (.ireturn, 1) := by decide +kernel
theorem dX7_allStitches_0 : decode cX7_allStitches 0 = .ok (.iconst 0, 1) := by decide +kernel
theorem dX7_allStitches_1 : decode cX7_allStitches 1 = .ok (.istore_n 2, 1) := by decide +kernel
theorem dX7_allStitches_2 : decode cX7_allStitches 2 = .ok (.iconst 0, 1) := by decide +kernel
theorem dX7_allStitches_3 : decode cX7_allStitches 3 = .ok (.istore_n 3, 1) := by decide +kernel
theorem dX7_allStitches_4 : decode cX7_allStitches 4 = .ok (.iload_n 3, 1) := by decide +kernel
theorem dX7_allStitches_5 : decode cX7_allStitches 5 = .ok (.aload_n 1, 1) := by decide +kernel
theorem dX7_allStitches_6 : decode cX7_allStitches 6 = .ok (.getfield 42, 3) := by decide +kernel
theorem dX7_allStitches_9 : decode cX7_allStitches 9 = .ok (.if_icmp .ge 20, 3) := by decide +kernel
theorem dX7_allStitches_12 : decode cX7_allStitches 12 = .ok (.iload_n 2, 1) := by decide +kernel
theorem dX7_allStitches_13 : decode cX7_allStitches 13 = .ok (.aload_n 0, 1) := by decide +kernel
theorem dX7_allStitches_14 : decode cX7_allStitches 14 = .ok (.getfield 15, 3) := by decide +kernel
theorem dX7_allStitches_17 : decode cX7_allStitches 17 = .ok (.iload_n 3, 1) := by decide +kernel
theorem dX7_allStitches_18 : decode cX7_allStitches 18 = .ok (.invokestatic 35, 3) := by decide +kernel
theorem dX7_allStitches_21 : decode cX7_allStitches 21 = .ok (.iadd, 1) := by decide +kernel
theorem dX7_allStitches_22 : decode cX7_allStitches 22 = .ok (.istore_n 2, 1) := by decide +kernel
theorem dX7_allStitches_23 : decode cX7_allStitches 23 = .ok (.iinc 3 1, 3) := by decide +kernel
theorem dX7_allStitches_26 : decode cX7_allStitches 26 = .ok (.goto (-22), 3) := by decide +kernel
theorem dX7_allStitches_29 : decode cX7_allStitches 29 = .ok (.iload_n 2, 1) := by decide +kernel
theorem dX7_allStitches_30 : decode cX7_allStitches 30 = .ok (.ireturn, 1) := by decide +kernel
theorem dX7_sentOnes_0 : decode cX7_sentOnes 0 = .ok (.iconst 0, 1) := by decide +kernel
theorem dX7_sentOnes_1 : decode cX7_sentOnes 1 = .ok (.istore_n 2, 1) := by decide +kernel
theorem dX7_sentOnes_2 : decode cX7_sentOnes 2 = .ok (.iconst 0, 1) := by decide +kernel
theorem dX7_sentOnes_3 : decode cX7_sentOnes 3 = .ok (.istore_n 3, 1) := by decide +kernel
theorem dX7_sentOnes_4 : decode cX7_sentOnes 4 = .ok (.iload_n 3, 1) := by decide +kernel
theorem dX7_sentOnes_5 : decode cX7_sentOnes 5 = .ok (.aload_n 1, 1) := by decide +kernel
theorem dX7_sentOnes_6 : decode cX7_sentOnes 6 = .ok (.getfield 49, 3) := by decide +kernel
theorem dX7_sentOnes_9 : decode cX7_sentOnes 9 = .ok (.if_icmp .ge 33, 3) := by decide +kernel
theorem dX7_sentOnes_12 : decode cX7_sentOnes 12 = .ok (.iload_n 2, 1) := by decide +kernel
theorem dX7_sentOnes_13 : decode cX7_sentOnes 13 = .ok (.aload_n 0, 1) := by decide +kernel
theorem dX7_sentOnes_14 : decode cX7_sentOnes 14 = .ok (.getfield 19, 3) := by decide +kernel
theorem dX7_sentOnes_17 : decode cX7_sentOnes 17 = .ok (.iload_n 3, 1) := by decide +kernel
theorem dX7_sentOnes_18 : decode cX7_sentOnes 18 = .ok (.invokestatic 35, 3) := by decide +kernel
theorem dX7_sentOnes_21 : decode cX7_sentOnes 21 = .ok (.bipush (-4), 2) := by decide +kernel
theorem dX7_sentOnes_23 : decode cX7_sentOnes 23 = .ok (.if_icmp .eq 7, 3) := by decide +kernel
theorem dX7_sentOnes_26 : decode cX7_sentOnes 26 = .ok (.iconst 1, 1) := by decide +kernel
theorem dX7_sentOnes_27 : decode cX7_sentOnes 27 = .ok (.goto 4, 3) := by decide +kernel
theorem dX7_sentOnes_30 : decode cX7_sentOnes 30 = .ok (.iconst 0, 1) := by decide +kernel
theorem dX7_sentOnes_31 : decode cX7_sentOnes 31 = .ok (.invokestatic 52, 3) := by decide +kernel
theorem dX7_sentOnes_34 : decode cX7_sentOnes 34 = .ok (.iadd, 1) := by decide +kernel
theorem dX7_sentOnes_35 : decode cX7_sentOnes 35 = .ok (.istore_n 2, 1) := by decide +kernel
theorem dX7_sentOnes_36 : decode cX7_sentOnes 36 = .ok (.iinc 3 1, 3) := by decide +kernel
theorem dX7_sentOnes_39 : decode cX7_sentOnes 39 = .ok (.goto (-35), 3) := by decide +kernel
theorem dX7_sentOnes_42 : decode cX7_sentOnes 42 = .ok (.iload_n 2, 1) := by decide +kernel
theorem dX7_sentOnes_43 : decode cX7_sentOnes 43 = .ok (.ireturn, 1) := by decide +kernel
theorem dX7_aim_0 : decode cX7_aim 0 = .ok (.aload_n 0, 1) := by decide +kernel
theorem dX7_aim_1 : decode cX7_aim 1 = .ok (.getfield 19, 3) := by decide +kernel
theorem dX7_aim_4 : decode cX7_aim 4 = .ok (.iload_n 1, 1) := by decide +kernel
theorem dX7_aim_5 : decode cX7_aim 5 = .ok (.iload_n 2, 1) := by decide +kernel
theorem dX7_aim_6 : decode cX7_aim 6 = .ok (.invokestatic 25, 3) := by decide +kernel
theorem dX7_aim_9 : decode cX7_aim 9 = .ok (.return_, 1) := by decide +kernel
theorem dX7_callAllOff_0 : decode cX7_callAllOff 0 = .ok (.iconst 0, 1) := by decide +kernel
theorem dX7_callAllOff_1 : decode cX7_callAllOff 1 = .ok (.istore_n 1, 1) := by decide +kernel
theorem dX7_callAllOff_2 : decode cX7_callAllOff 2 = .ok (.iload_n 1, 1) := by decide +kernel
theorem dX7_callAllOff_3 : decode cX7_callAllOff 3 = .ok (.iconst 4, 1) := by decide +kernel
theorem dX7_callAllOff_4 : decode cX7_callAllOff 4 = .ok (.if_icmp .ge 19, 3) := by decide +kernel
theorem dX7_callAllOff_7 : decode cX7_callAllOff 7 = .ok (.aload_n 0, 1) := by decide +kernel
theorem dX7_callAllOff_8 : decode cX7_callAllOff 8 = .ok (.getfield 19, 3) := by decide +kernel
theorem dX7_callAllOff_11 : decode cX7_callAllOff 11 = .ok (.iload_n 1, 1) := by decide +kernel
theorem dX7_callAllOff_12 : decode cX7_callAllOff 12 = .ok (.bipush (-4), 2) := by decide +kernel
theorem dX7_callAllOff_14 : decode cX7_callAllOff 14 = .ok (.invokestatic 25, 3) := by decide +kernel
theorem dX7_callAllOff_17 : decode cX7_callAllOff 17 = .ok (.iinc 1 1, 3) := by decide +kernel
theorem dX7_callAllOff_20 : decode cX7_callAllOff 20 = .ok (.goto (-18), 3) := by decide +kernel
theorem dX7_callAllOff_23 : decode cX7_callAllOff 23 = .ok (.return_, 1) := by decide +kernel
theorem dX7_cutOpen_0 : decode cX7_cutOpen 0 = .ok (.aload_n 0, 1) := by decide +kernel
theorem dX7_cutOpen_1 : decode cX7_cutOpen 1 = .ok (.getfield 15, 3) := by decide +kernel
theorem dX7_cutOpen_4 : decode cX7_cutOpen 4 = .ok (.iload_n 1, 1) := by decide +kernel
theorem dX7_cutOpen_5 : decode cX7_cutOpen 5 = .ok (.iconst 0, 1) := by decide +kernel
theorem dX7_cutOpen_6 : decode cX7_cutOpen 6 = .ok (.invokestatic 25, 3) := by decide +kernel
theorem dX7_cutOpen_9 : decode cX7_cutOpen 9 = .ok (.return_, 1) := by decide +kernel
theorem dX7_liveThrough_0 : decode cX7_liveThrough 0 = .ok (.iconst 0, 1) := by decide +kernel
theorem dX7_liveThrough_1 : decode cX7_liveThrough 1 = .ok (.istore_n 3, 1) := by decide +kernel
theorem dX7_liveThrough_2 : decode cX7_liveThrough 2 = .ok (.iload_n 3, 1) := by decide +kernel
theorem dX7_liveThrough_3 : decode cX7_liveThrough 3 = .ok (.iload_n 2, 1) := by decide +kernel
theorem dX7_liveThrough_4 : decode cX7_liveThrough 4 = .ok (.if_icmp .ge 22, 3) := by decide +kernel
theorem dX7_liveThrough_7 : decode cX7_liveThrough 7 = .ok (.aload_n 0, 1) := by decide +kernel
theorem dX7_liveThrough_8 : decode cX7_liveThrough 8 = .ok (.aload_n 1, 1) := by decide +kernel
theorem dX7_liveThrough_9 : decode cX7_liveThrough 9 = .ok (.aload_n 1, 1) := by decide +kernel
theorem dX7_liveThrough_10 : decode cX7_liveThrough 10 = .ok (.aload_n 0, 1) := by decide +kernel
theorem dX7_liveThrough_11 : decode cX7_liveThrough 11 = .ok (.getfield 9, 3) := by decide +kernel
theorem dX7_liveThrough_14 : decode cX7_liveThrough 14 = .ok (.invokevirtual 56, 3) := by decide +kernel
theorem dX7_liveThrough_17 : decode cX7_liveThrough 17 = .ok (.invokevirtual 60, 3) := by decide +kernel
theorem dX7_liveThrough_20 : decode cX7_liveThrough 20 = .ok (.iinc 3 1, 3) := by decide +kernel
theorem dX7_liveThrough_23 : decode cX7_liveThrough 23 = .ok (.goto (-21), 3) := by decide +kernel
theorem dX7_liveThrough_26 : decode cX7_liveThrough 26 = .ok (.return_, 1) := by decide +kernel
theorem dX7_closeWithin_0 : decode cX7_closeWithin 0 = .ok (.iconst 0, 1) := by decide +kernel
theorem dX7_closeWithin_1 : decode cX7_closeWithin 1 = .ok (.istore 4, 2) := by decide +kernel
theorem dX7_closeWithin_3 : decode cX7_closeWithin 3 = .ok (.iload 4, 2) := by decide +kernel
theorem dX7_closeWithin_5 : decode cX7_closeWithin 5 = .ok (.iload_n 3, 1) := by decide +kernel
theorem dX7_closeWithin_6 : decode cX7_closeWithin 6 = .ok (.if_icmp .ge 34, 3) := by decide +kernel
theorem dX7_closeWithin_9 : decode cX7_closeWithin 9 = .ok (.aload_n 0, 1) := by decide +kernel
theorem dX7_closeWithin_10 : decode cX7_closeWithin 10 = .ok (.aload_n 1, 1) := by decide +kernel
theorem dX7_closeWithin_11 : decode cX7_closeWithin 11 = .ok (.iload_n 2, 1) := by decide +kernel
theorem dX7_closeWithin_12 : decode cX7_closeWithin 12 = .ok (.invokevirtual 45, 3) := by decide +kernel
theorem dX7_closeWithin_15 : decode cX7_closeWithin 15 = .ok (.ifCond .eq 6, 3) := by decide +kernel
theorem dX7_closeWithin_18 : decode cX7_closeWithin 18 = .ok (.iload 4, 2) := by decide +kernel
theorem dX7_closeWithin_20 : decode cX7_closeWithin 20 = .ok (.ireturn, 1) := by decide +kernel
theorem dX7_closeWithin_21 : decode cX7_closeWithin 21 = .ok (.aload_n 0, 1) := by decide +kernel
theorem dX7_closeWithin_22 : decode cX7_closeWithin 22 = .ok (.aload_n 1, 1) := by decide +kernel
theorem dX7_closeWithin_23 : decode cX7_closeWithin 23 = .ok (.aload_n 1, 1) := by decide +kernel
theorem dX7_closeWithin_24 : decode cX7_closeWithin 24 = .ok (.aload_n 0, 1) := by decide +kernel
theorem dX7_closeWithin_25 : decode cX7_closeWithin 25 = .ok (.getfield 9, 3) := by decide +kernel
theorem dX7_closeWithin_28 : decode cX7_closeWithin 28 = .ok (.invokevirtual 56, 3) := by decide +kernel
theorem dX7_closeWithin_31 : decode cX7_closeWithin 31 = .ok (.invokevirtual 60, 3) := by decide +kernel
theorem dX7_closeWithin_34 : decode cX7_closeWithin 34 = .ok (.iinc 4 1, 3) := by decide +kernel
theorem dX7_closeWithin_37 : decode cX7_closeWithin 37 = .ok (.goto (-34), 3) := by decide +kernel
theorem dX7_closeWithin_40 : decode cX7_closeWithin 40 = .ok (.aload_n 0, 1) := by decide +kernel
theorem dX7_closeWithin_41 : decode cX7_closeWithin 41 = .ok (.aload_n 1, 1) := by decide +kernel
theorem dX7_closeWithin_42 : decode cX7_closeWithin 42 = .ok (.iload_n 2, 1) := by decide +kernel
theorem dX7_closeWithin_43 : decode cX7_closeWithin 43 = .ok (.invokevirtual 45, 3) := by decide +kernel
theorem dX7_closeWithin_46 : decode cX7_closeWithin 46 = .ok (.ifCond .eq 7, 3) := by decide +kernel
theorem dX7_closeWithin_49 : decode cX7_closeWithin 49 = .ok (.iload_n 3, 1) := by decide +kernel
theorem dX7_closeWithin_50 : decode cX7_closeWithin 50 = .ok (.goto 5, 3) := by decide +kernel
theorem dX7_closeWithin_53 : decode cX7_closeWithin 53 = .ok (.bipush (-4), 2) := by decide +kernel
theorem dX7_closeWithin_55 : decode cX7_closeWithin 55 = .ok (.ireturn, 1) := by decide +kernel
theorem dX7_liveHour_0 : decode cX7_liveHour 0 = .ok (.aload_n 1, 1) := by decide +kernel
theorem dX7_liveHour_1 : decode cX7_liveHour 1 = .ok (.aload_n 0, 1) := by decide +kernel
theorem dX7_liveHour_2 : decode cX7_liveHour 2 = .ok (.getfield 9, 3) := by decide +kernel
theorem dX7_liveHour_5 : decode cX7_liveHour 5 = .ok (.invokevirtual 64, 3) := by decide +kernel
theorem dX7_liveHour_8 : decode cX7_liveHour 8 = .ok (.ifCond .eq 25, 3) := by decide +kernel
theorem dX7_liveHour_11 : decode cX7_liveHour 11 = .ok (.iconst 0, 1) := by decide +kernel
theorem dX7_liveHour_12 : decode cX7_liveHour 12 = .ok (.istore_n 3, 1) := by decide +kernel
theorem dX7_liveHour_13 : decode cX7_liveHour 13 = .ok (.iload_n 3, 1) := by decide +kernel
theorem dX7_liveHour_14 : decode cX7_liveHour 14 = .ok (.aload_n 1, 1) := by decide +kernel
theorem dX7_liveHour_15 : decode cX7_liveHour 15 = .ok (.getfield 49, 3) := by decide +kernel
theorem dX7_liveHour_18 : decode cX7_liveHour 18 = .ok (.if_icmp .ge 15, 3) := by decide +kernel
theorem dX7_liveHour_21 : decode cX7_liveHour 21 = .ok (.aload_n 0, 1) := by decide +kernel
theorem dX7_liveHour_22 : decode cX7_liveHour 22 = .ok (.aload_n 1, 1) := by decide +kernel
theorem dX7_liveHour_23 : decode cX7_liveHour 23 = .ok (.iload_n 3, 1) := by decide +kernel
theorem dX7_liveHour_24 : decode cX7_liveHour 24 = .ok (.invokevirtual 67, 3) := by decide +kernel
theorem dX7_liveHour_27 : decode cX7_liveHour 27 = .ok (.iinc 3 1, 3) := by decide +kernel
theorem dX7_liveHour_30 : decode cX7_liveHour 30 = .ok (.goto (-17), 3) := by decide +kernel
theorem dX7_liveHour_33 : decode cX7_liveHour 33 = .ok (.iload_n 2, 1) := by decide +kernel
theorem dX7_liveHour_34 : decode cX7_liveHour 34 = .ok (.ifCond .eq 8, 3) := by decide +kernel
theorem dX7_liveHour_37 : decode cX7_liveHour 37 = .ok (.aload_n 0, 1) := by decide +kernel
theorem dX7_liveHour_38 : decode cX7_liveHour 38 = .ok (.aload_n 1, 1) := by decide +kernel
theorem dX7_liveHour_39 : decode cX7_liveHour 39 = .ok (.invokevirtual 71, 3) := by decide +kernel
theorem dX7_liveHour_42 : decode cX7_liveHour 42 = .ok (.aload_n 0, 1) := by decide +kernel
theorem dX7_liveHour_43 : decode cX7_liveHour 43 = .ok (.dup, 1) := by decide +kernel
theorem dX7_liveHour_44 : decode cX7_liveHour 44 = .ok (.getfield 9, 3) := by decide +kernel
theorem dX7_liveHour_47 : decode cX7_liveHour 47 = .ok (.iconst 1, 1) := by decide +kernel
theorem dX7_liveHour_48 : decode cX7_liveHour 48 = .ok (.iadd, 1) := by decide +kernel
theorem dX7_liveHour_49 : decode cX7_liveHour 49 = .ok (.putfield 9, 3) := by decide +kernel
theorem dX7_liveHour_52 : decode cX7_liveHour 52 = .ok (.return_, 1) := by decide +kernel
theorem dX7_flyOrSew_0 : decode cX7_flyOrSew 0 = .ok (.aload_n 0, 1) := by decide +kernel
theorem dX7_flyOrSew_1 : decode cX7_flyOrSew 1 = .ok (.getfield 19, 3) := by decide +kernel
theorem dX7_flyOrSew_4 : decode cX7_flyOrSew 4 = .ok (.iload_n 2, 1) := by decide +kernel
theorem dX7_flyOrSew_5 : decode cX7_flyOrSew 5 = .ok (.invokestatic 35, 3) := by decide +kernel
theorem dX7_flyOrSew_8 : decode cX7_flyOrSew 8 = .ok (.istore_n 3, 1) := by decide +kernel
theorem dX7_flyOrSew_9 : decode cX7_flyOrSew 9 = .ok (.iload_n 3, 1) := by decide +kernel
theorem dX7_flyOrSew_10 : decode cX7_flyOrSew 10 = .ok (.bipush (-4), 2) := by decide +kernel
theorem dX7_flyOrSew_12 : decode cX7_flyOrSew 12 = .ok (.if_icmp .ne 4, 3) := by decide +kernel
theorem dX7_flyOrSew_15 : decode cX7_flyOrSew 15 = .ok (.return_, 1) := by decide +kernel
theorem dX7_flyOrSew_16 : decode cX7_flyOrSew 16 = .ok (.aload_n 1, 1) := by decide +kernel
theorem dX7_flyOrSew_17 : decode cX7_flyOrSew 17 = .ok (.iload_n 3, 1) := by decide +kernel
theorem dX7_flyOrSew_18 : decode cX7_flyOrSew 18 = .ok (.iconst 3, 1) := by decide +kernel
theorem dX7_flyOrSew_19 : decode cX7_flyOrSew 19 = .ok (.invokevirtual 39, 3) := by decide +kernel
theorem dX7_flyOrSew_22 : decode cX7_flyOrSew 22 = .ok (.aload_n 0, 1) := by decide +kernel
theorem dX7_flyOrSew_23 : decode cX7_flyOrSew 23 = .ok (.getfield 22, 3) := by decide +kernel
theorem dX7_flyOrSew_26 : decode cX7_flyOrSew 26 = .ok (.iload_n 2, 1) := by decide +kernel
theorem dX7_flyOrSew_27 : decode cX7_flyOrSew 27 = .ok (.invokestatic 35, 3) := by decide +kernel
theorem dX7_flyOrSew_30 : decode cX7_flyOrSew 30 = .ok (.isub, 1) := by decide +kernel
theorem dX7_flyOrSew_31 : decode cX7_flyOrSew 31 = .ok (.istore 4, 2) := by decide +kernel
theorem dX7_flyOrSew_33 : decode cX7_flyOrSew 33 = .ok (.iload 4, 2) := by decide +kernel
theorem dX7_flyOrSew_35 : decode cX7_flyOrSew 35 = .ok (.ifCond .eq 42, 3) := by decide +kernel
theorem dX7_flyOrSew_38 : decode cX7_flyOrSew 38 = .ok (.aload_n 1, 1) := by decide +kernel
theorem dX7_flyOrSew_39 : decode cX7_flyOrSew 39 = .ok (.iload_n 2, 1) := by decide +kernel
theorem dX7_flyOrSew_40 : decode cX7_flyOrSew 40 = .ok (.iconst 2, 1) := by decide +kernel
theorem dX7_flyOrSew_41 : decode cX7_flyOrSew 41 = .ok (.invokevirtual 29, 3) := by decide +kernel
theorem dX7_flyOrSew_44 : decode cX7_flyOrSew 44 = .ok (.istore 5, 2) := by decide +kernel
theorem dX7_flyOrSew_46 : decode cX7_flyOrSew 46 = .ok (.aload_n 0, 1) := by decide +kernel
theorem dX7_flyOrSew_47 : decode cX7_flyOrSew 47 = .ok (.getfield 22, 3) := by decide +kernel
theorem dX7_flyOrSew_50 : decode cX7_flyOrSew 50 = .ok (.iload_n 2, 1) := by decide +kernel
theorem dX7_flyOrSew_51 : decode cX7_flyOrSew 51 = .ok (.aload_n 0, 1) := by decide +kernel
theorem dX7_flyOrSew_52 : decode cX7_flyOrSew 52 = .ok (.getfield 22, 3) := by decide +kernel
theorem dX7_flyOrSew_55 : decode cX7_flyOrSew 55 = .ok (.iload_n 2, 1) := by decide +kernel
theorem dX7_flyOrSew_56 : decode cX7_flyOrSew 56 = .ok (.invokestatic 35, 3) := by decide +kernel
theorem dX7_flyOrSew_59 : decode cX7_flyOrSew 59 = .ok (.iload 5, 2) := by decide +kernel
theorem dX7_flyOrSew_61 : decode cX7_flyOrSew 61 = .ok (.ineg, 1) := by decide +kernel
theorem dX7_flyOrSew_62 : decode cX7_flyOrSew 62 = .ok (.iload 5, 2) := by decide +kernel
theorem dX7_flyOrSew_64 : decode cX7_flyOrSew 64 = .ok (.iload 4, 2) := by decide +kernel
theorem dX7_flyOrSew_66 : decode cX7_flyOrSew 66 = .ok (.invokestatic 75, 3) := by decide +kernel
theorem dX7_flyOrSew_69 : decode cX7_flyOrSew 69 = .ok (.invokestatic 80, 3) := by decide +kernel
theorem dX7_flyOrSew_72 : decode cX7_flyOrSew 72 = .ok (.iadd, 1) := by decide +kernel
theorem dX7_flyOrSew_73 : decode cX7_flyOrSew 73 = .ok (.invokestatic 25, 3) := by decide +kernel
theorem dX7_flyOrSew_76 : decode cX7_flyOrSew 76 = .ok (.return_, 1) := by decide +kernel
theorem dX7_flyOrSew_77 : decode cX7_flyOrSew 77 = .ok (.aload_n 1, 1) := by decide +kernel
theorem dX7_flyOrSew_78 : decode cX7_flyOrSew 78 = .ok (.iload_n 3, 1) := by decide +kernel
theorem dX7_flyOrSew_79 : decode cX7_flyOrSew 79 = .ok (.iconst 4, 1) := by decide +kernel
theorem dX7_flyOrSew_80 : decode cX7_flyOrSew 80 = .ok (.invokevirtual 39, 3) := by decide +kernel
theorem dX7_flyOrSew_83 : decode cX7_flyOrSew 83 = .ok (.istore 5, 2) := by decide +kernel
theorem dX7_flyOrSew_85 : decode cX7_flyOrSew 85 = .ok (.iload 5, 2) := by decide +kernel
theorem dX7_flyOrSew_87 : decode cX7_flyOrSew 87 = .ok (.aload_n 0, 1) := by decide +kernel
theorem dX7_flyOrSew_88 : decode cX7_flyOrSew 88 = .ok (.getfield 15, 3) := by decide +kernel
theorem dX7_flyOrSew_91 : decode cX7_flyOrSew 91 = .ok (.iload_n 3, 1) := by decide +kernel
theorem dX7_flyOrSew_92 : decode cX7_flyOrSew 92 = .ok (.invokestatic 35, 3) := by decide +kernel
theorem dX7_flyOrSew_95 : decode cX7_flyOrSew 95 = .ok (.aload_n 1, 1) := by decide +kernel
theorem dX7_flyOrSew_96 : decode cX7_flyOrSew 96 = .ok (.iload_n 2, 1) := by decide +kernel
theorem dX7_flyOrSew_97 : decode cX7_flyOrSew 97 = .ok (.iload_n 3, 1) := by decide +kernel
theorem dX7_flyOrSew_98 : decode cX7_flyOrSew 98 = .ok (.invokevirtual 83, 3) := by decide +kernel
theorem dX7_flyOrSew_101 : decode cX7_flyOrSew 101 = .ok (.iadd, 1) := by decide +kernel
theorem dX7_flyOrSew_102 : decode cX7_flyOrSew 102 = .ok (.invokestatic 75, 3) := by decide +kernel
theorem dX7_flyOrSew_105 : decode cX7_flyOrSew 105 = .ok (.istore 6, 2) := by decide +kernel
theorem dX7_flyOrSew_107 : decode cX7_flyOrSew 107 = .ok (.aload_n 0, 1) := by decide +kernel
theorem dX7_flyOrSew_108 : decode cX7_flyOrSew 108 = .ok (.getfield 15, 3) := by decide +kernel
theorem dX7_flyOrSew_111 : decode cX7_flyOrSew 111 = .ok (.iload_n 3, 1) := by decide +kernel
theorem dX7_flyOrSew_112 : decode cX7_flyOrSew 112 = .ok (.iload 6, 2) := by decide +kernel
theorem dX7_flyOrSew_114 : decode cX7_flyOrSew 114 = .ok (.invokestatic 25, 3) := by decide +kernel
theorem dX7_flyOrSew_117 : decode cX7_flyOrSew 117 = .ok (.iload 6, 2) := by decide +kernel
theorem dX7_flyOrSew_119 : decode cX7_flyOrSew 119 = .ok (.iload 5, 2) := by decide +kernel
theorem dX7_flyOrSew_121 : decode cX7_flyOrSew 121 = .ok (.if_icmp .ne 8, 3) := by decide +kernel
theorem dX7_flyOrSew_124 : decode cX7_flyOrSew 124 = .ok (.aload_n 0, 1) := by decide +kernel
theorem dX7_flyOrSew_125 : decode cX7_flyOrSew 125 = .ok (.iload_n 3, 1) := by decide +kernel
theorem dX7_flyOrSew_126 : decode cX7_flyOrSew 126 = .ok (.invokevirtual 86, 3) := by decide +kernel
theorem dX7_flyOrSew_129 : decode cX7_flyOrSew 129 = .ok (.return_, 1) := by decide +kernel
theorem dX7_callOffFrom_0 : decode cX7_callOffFrom 0 = .ok (.iconst 0, 1) := by decide +kernel
theorem dX7_callOffFrom_1 : decode cX7_callOffFrom 1 = .ok (.istore_n 2, 1) := by decide +kernel
theorem dX7_callOffFrom_2 : decode cX7_callOffFrom 2 = .ok (.iload_n 2, 1) := by decide +kernel
theorem dX7_callOffFrom_3 : decode cX7_callOffFrom 3 = .ok (.iconst 4, 1) := by decide +kernel
theorem dX7_callOffFrom_4 : decode cX7_callOffFrom 4 = .ok (.if_icmp .ge 31, 3) := by decide +kernel
theorem dX7_callOffFrom_7 : decode cX7_callOffFrom 7 = .ok (.aload_n 0, 1) := by decide +kernel
theorem dX7_callOffFrom_8 : decode cX7_callOffFrom 8 = .ok (.getfield 19, 3) := by decide +kernel
theorem dX7_callOffFrom_11 : decode cX7_callOffFrom 11 = .ok (.iload_n 2, 1) := by decide +kernel
theorem dX7_callOffFrom_12 : decode cX7_callOffFrom 12 = .ok (.invokestatic 35, 3) := by decide +kernel
theorem dX7_callOffFrom_15 : decode cX7_callOffFrom 15 = .ok (.iload_n 1, 1) := by decide +kernel
theorem dX7_callOffFrom_16 : decode cX7_callOffFrom 16 = .ok (.if_icmp .ne 13, 3) := by decide +kernel
theorem dX7_callOffFrom_19 : decode cX7_callOffFrom 19 = .ok (.aload_n 0, 1) := by decide +kernel
theorem dX7_callOffFrom_20 : decode cX7_callOffFrom 20 = .ok (.getfield 19, 3) := by decide +kernel
theorem dX7_callOffFrom_23 : decode cX7_callOffFrom 23 = .ok (.iload_n 2, 1) := by decide +kernel
theorem dX7_callOffFrom_24 : decode cX7_callOffFrom 24 = .ok (.bipush (-4), 2) := by decide +kernel
theorem dX7_callOffFrom_26 : decode cX7_callOffFrom 26 = .ok (.invokestatic 25, 3) := by decide +kernel
theorem dX7_callOffFrom_29 : decode cX7_callOffFrom 29 = .ok (.iinc 2 1, 3) := by decide +kernel
theorem dX7_callOffFrom_32 : decode cX7_callOffFrom 32 = .ok (.goto (-30), 3) := by decide +kernel
theorem dX7_callOffFrom_35 : decode cX7_callOffFrom 35 = .ok (.return_, 1) := by decide +kernel
theorem dX7_unpick_0 : decode cX7_unpick 0 = .ok (.iconst 0, 1) := by decide +kernel
theorem dX7_unpick_1 : decode cX7_unpick 1 = .ok (.istore_n 2, 1) := by decide +kernel
theorem dX7_unpick_2 : decode cX7_unpick 2 = .ok (.iload_n 2, 1) := by decide +kernel
theorem dX7_unpick_3 : decode cX7_unpick 3 = .ok (.aload_n 1, 1) := by decide +kernel
theorem dX7_unpick_4 : decode cX7_unpick 4 = .ok (.getfield 42, 3) := by decide +kernel
theorem dX7_unpick_7 : decode cX7_unpick 7 = .ok (.if_icmp .ge 56, 3) := by decide +kernel
theorem dX7_unpick_10 : decode cX7_unpick 10 = .ok (.aload_n 0, 1) := by decide +kernel
theorem dX7_unpick_11 : decode cX7_unpick 11 = .ok (.aload_n 1, 1) := by decide +kernel
theorem dX7_unpick_12 : decode cX7_unpick 12 = .ok (.iload_n 2, 1) := by decide +kernel
theorem dX7_unpick_13 : decode cX7_unpick 13 = .ok (.invokevirtual 45, 3) := by decide +kernel
theorem dX7_unpick_16 : decode cX7_unpick 16 = .ok (.ifCond .ne 41, 3) := by decide +kernel
theorem dX7_unpick_19 : decode cX7_unpick 19 = .ok (.aload_n 1, 1) := by decide +kernel
theorem dX7_unpick_20 : decode cX7_unpick 20 = .ok (.iload_n 2, 1) := by decide +kernel
theorem dX7_unpick_21 : decode cX7_unpick 21 = .ok (.iconst 0, 1) := by decide +kernel
theorem dX7_unpick_22 : decode cX7_unpick 22 = .ok (.invokevirtual 39, 3) := by decide +kernel
theorem dX7_unpick_25 : decode cX7_unpick 25 = .ok (.iconst 2, 1) := by decide +kernel
theorem dX7_unpick_26 : decode cX7_unpick 26 = .ok (.if_icmp .ne 7, 3) := by decide +kernel
theorem dX7_unpick_29 : decode cX7_unpick 29 = .ok (.iconst 2, 1) := by decide +kernel
theorem dX7_unpick_30 : decode cX7_unpick 30 = .ok (.goto 4, 3) := by decide +kernel
theorem dX7_unpick_33 : decode cX7_unpick 33 = .ok (.iconst 1, 1) := by decide +kernel
theorem dX7_unpick_34 : decode cX7_unpick 34 = .ok (.istore_n 3, 1) := by decide +kernel
theorem dX7_unpick_35 : decode cX7_unpick 35 = .ok (.aload_n 0, 1) := by decide +kernel
theorem dX7_unpick_36 : decode cX7_unpick 36 = .ok (.getfield 15, 3) := by decide +kernel
theorem dX7_unpick_39 : decode cX7_unpick 39 = .ok (.iload_n 2, 1) := by decide +kernel
theorem dX7_unpick_40 : decode cX7_unpick 40 = .ok (.iconst 0, 1) := by decide +kernel
theorem dX7_unpick_41 : decode cX7_unpick 41 = .ok (.aload_n 0, 1) := by decide +kernel
theorem dX7_unpick_42 : decode cX7_unpick 42 = .ok (.getfield 15, 3) := by decide +kernel
theorem dX7_unpick_45 : decode cX7_unpick 45 = .ok (.iload_n 2, 1) := by decide +kernel
theorem dX7_unpick_46 : decode cX7_unpick 46 = .ok (.invokestatic 35, 3) := by decide +kernel
theorem dX7_unpick_49 : decode cX7_unpick 49 = .ok (.iload_n 3, 1) := by decide +kernel
theorem dX7_unpick_50 : decode cX7_unpick 50 = .ok (.isub, 1) := by decide +kernel
theorem dX7_unpick_51 : decode cX7_unpick 51 = .ok (.invokestatic 80, 3) := by decide +kernel
theorem dX7_unpick_54 : decode cX7_unpick 54 = .ok (.invokestatic 25, 3) := by decide +kernel
theorem dX7_unpick_57 : decode cX7_unpick 57 = .ok (.iinc 2 1, 3) := by decide +kernel
theorem dX7_unpick_60 : decode cX7_unpick 60 = .ok (.goto (-58), 3) := by decide +kernel
theorem dX7_unpick_63 : decode cX7_unpick 63 = .ok (.return_, 1) := by decide +kernel
theorem dX8_init_0 : decode cX8_init 0 = .ok (.aload_n 0, 1) := by decide +kernel
theorem dX8_init_1 : decode cX8_init 1 = .ok (.invokespecial 1, 3) := by decide +kernel
theorem dX8_init_4 : decode cX8_init 4 = .ok (.aload_n 0, 1) := by decide +kernel
theorem dX8_init_5 : decode cX8_init 5 = .ok (.sipush 200, 3) := by decide +kernel
theorem dX8_init_8 : decode cX8_init 8 = .ok (.newarray .int, 2) := by decide +kernel
theorem dX8_init_10 : decode cX8_init 10 = .ok (.putfield 9, 3) := by decide +kernel
theorem dX8_init_13 : decode cX8_init 13 = .ok (.aload_n 0, 1) := by decide +kernel
theorem dX8_init_14 : decode cX8_init 14 = .ok (.iconst 0, 1) := by decide +kernel
theorem dX8_init_15 : decode cX8_init 15 = .ok (.putfield 13, 3) := by decide +kernel
theorem dX8_init_18 : decode cX8_init 18 = .ok (.aload_n 0, 1) := by decide +kernel
theorem dX8_init_19 : decode cX8_init 19 = .ok (.new 17, 3) := by decide +kernel
theorem dX8_init_22 : decode cX8_init 22 = .ok (.dup, 1) := by decide +kernel
theorem dX8_init_23 : decode cX8_init 23 = .ok (.invokespecial 19, 3) := by decide +kernel
theorem dX8_init_26 : decode cX8_init 26 = .ok (.putfield 20, 3) := by decide +kernel
theorem dX8_init_29 : decode cX8_init 29 = .ok (.aload_n 0, 1) := by decide +kernel
theorem dX8_init_30 : decode cX8_init 30 = .ok (.new 24, 3) := by decide +kernel
theorem dX8_init_33 : decode cX8_init 33 = .ok (.dup, 1) := by decide +kernel
theorem dX8_init_34 : decode cX8_init 34 = .ok (.invokespecial 26, 3) := by decide +kernel
theorem dX8_init_37 : decode cX8_init 37 = .ok (.putfield 27, 3) := by decide +kernel
theorem dX8_init_40 : decode cX8_init 40 = .ok (.aload_n 0, 1) := by decide +kernel
theorem dX8_init_41 : decode cX8_init 41 = .ok (.new 24, 3) := by decide +kernel
theorem dX8_init_44 : decode cX8_init 44 = .ok (.dup, 1) := by decide +kernel
theorem dX8_init_45 : decode cX8_init 45 = .ok (.invokespecial 26, 3) := by decide +kernel
theorem dX8_init_48 : decode cX8_init 48 = .ok (.putfield 31, 3) := by decide +kernel
theorem dX8_init_51 : decode cX8_init 51 = .ok (.aload_n 0, 1) := by decide +kernel
theorem dX8_init_52 : decode cX8_init 52 = .ok (.new 34, 3) := by decide +kernel
theorem dX8_init_55 : decode cX8_init 55 = .ok (.dup, 1) := by decide +kernel
theorem dX8_init_56 : decode cX8_init 56 = .ok (.invokespecial 36, 3) := by decide +kernel
theorem dX8_init_59 : decode cX8_init 59 = .ok (.putfield 37, 3) := by decide +kernel
theorem dX8_init_62 : decode cX8_init 62 = .ok (.aload_n 0, 1) := by decide +kernel
theorem dX8_init_63 : decode cX8_init 63 = .ok (.new 34, 3) := by decide +kernel
theorem dX8_init_66 : decode cX8_init 66 = .ok (.dup, 1) := by decide +kernel
theorem dX8_init_67 : decode cX8_init 67 = .ok (.invokespecial 36, 3) := by decide +kernel
theorem dX8_init_70 : decode cX8_init 70 = .ok (.putfield 41, 3) := by decide +kernel
theorem dX8_init_73 : decode cX8_init 73 = .ok (.aload_n 0, 1) := by decide +kernel
theorem dX8_init_74 : decode cX8_init 74 = .ok (.new 44, 3) := by decide +kernel
theorem dX8_init_77 : decode cX8_init 77 = .ok (.dup, 1) := by decide +kernel
theorem dX8_init_78 : decode cX8_init 78 = .ok (.bipush 8, 2) := by decide +kernel
theorem dX8_init_80 : decode cX8_init 80 = .ok (.invokespecial 46, 3) := by decide +kernel
theorem dX8_init_83 : decode cX8_init 83 = .ok (.putfield 49, 3) := by decide +kernel
theorem dX8_init_86 : decode cX8_init 86 = .ok (.aload_n 0, 1) := by decide +kernel
theorem dX8_init_87 : decode cX8_init 87 = .ok (.new 44, 3) := by decide +kernel
theorem dX8_init_90 : decode cX8_init 90 = .ok (.dup, 1) := by decide +kernel
theorem dX8_init_91 : decode cX8_init 91 = .ok (.iconst 2, 1) := by decide +kernel
theorem dX8_init_92 : decode cX8_init 92 = .ok (.invokespecial 46, 3) := by decide +kernel
theorem dX8_init_95 : decode cX8_init 95 = .ok (.putfield 53, 3) := by decide +kernel
theorem dX8_init_98 : decode cX8_init 98 = .ok (.aload_n 0, 1) := by decide +kernel
theorem dX8_init_99 : decode cX8_init 99 = .ok (.new 56, 3) := by decide +kernel
theorem dX8_init_102 : decode cX8_init 102 = .ok (.dup, 1) := by decide +kernel
theorem dX8_init_103 : decode cX8_init 103 = .ok (.invokespecial 58, 3) := by decide +kernel
theorem dX8_init_106 : decode cX8_init 106 = .ok (.putfield 59, 3) := by decide +kernel
theorem dX8_init_109 : decode cX8_init 109 = .ok (.aload_n 0, 1) := by decide +kernel
theorem dX8_init_110 : decode cX8_init 110 = .ok (.new 63, 3) := by decide +kernel
theorem dX8_init_113 : decode cX8_init 113 = .ok (.dup, 1) := by decide +kernel
theorem dX8_init_114 : decode cX8_init 114 = .ok (.invokespecial 65, 3) := by decide +kernel
theorem dX8_init_117 : decode cX8_init 117 = .ok (.putfield 66, 3) := by decide +kernel
theorem dX8_init_120 : decode cX8_init 120 = .ok (.aload_n 0, 1) := by decide +kernel
theorem dX8_init_121 : decode cX8_init 121 = .ok (.new 70, 3) := by decide +kernel
theorem dX8_init_124 : decode cX8_init 124 = .ok (.dup, 1) := by decide +kernel
theorem dX8_init_125 : decode cX8_init 125 = .ok (.invokespecial 72, 3) := by decide +kernel
theorem dX8_init_128 : decode cX8_init 128 = .ok (.putfield 73, 3) := by decide +kernel
theorem dX8_init_131 : decode cX8_init 131 = .ok (.aload_n 0, 1) := by decide +kernel
theorem dX8_init_132 : decode cX8_init 132 = .ok (.new 77, 3) := by decide +kernel
theorem dX8_init_135 : decode cX8_init 135 = .ok (.dup, 1) := by decide +kernel
theorem dX8_init_136 : decode cX8_init 136 = .ok (.invokespecial 79, 3) := by decide +kernel
theorem dX8_init_139 : decode cX8_init 139 = .ok (.putfield 80, 3) := by decide +kernel
theorem dX8_init_142 : decode cX8_init 142 = .ok (.ldc 84, 2) := by decide +kernel
theorem dX8_init_144 : decode cX8_init 144 = .ok (.invokevirtual 86, 3) := by decide +kernel
theorem dX8_init_147 : decode cX8_init 147 = .ok (.sipush 200, 3) := by decide +kernel
theorem dX8_init_150 : decode cX8_init 150 = .ok (.invokestatic 92, 3) := by decide +kernel
theorem dX8_init_153 : decode cX8_init 153 = .ok (.istore_n 1, 1) := by decide +kernel
theorem dX8_init_154 : decode cX8_init 154 = .ok (.iconst 0, 1) := by decide +kernel
theorem dX8_init_155 : decode cX8_init 155 = .ok (.istore_n 2, 1) := by decide +kernel
theorem dX8_init_156 : decode cX8_init 156 = .ok (.iload_n 2, 1) := by decide +kernel
theorem dX8_init_157 : decode cX8_init 157 = .ok (.iload_n 1, 1) := by decide +kernel
theorem dX8_init_158 : decode cX8_init 158 = .ok (.if_icmp .ge 23, 3) := by decide +kernel
theorem dX8_init_161 : decode cX8_init 161 = .ok (.aload_n 0, 1) := by decide +kernel
theorem dX8_init_162 : decode cX8_init 162 = .ok (.getfield 9, 3) := by decide +kernel
theorem dX8_init_165 : decode cX8_init 165 = .ok (.iload_n 2, 1) := by decide +kernel
theorem dX8_init_166 : decode cX8_init 166 = .ok (.ldc 84, 2) := by decide +kernel
theorem dX8_init_168 : decode cX8_init 168 = .ok (.iload_n 2, 1) := by decide +kernel
theorem dX8_init_169 : decode cX8_init 169 = .ok (.invokevirtual 98, 3) := by decide +kernel
theorem dX8_init_172 : decode cX8_init 172 = .ok (.invokestatic 102, 3) := by decide +kernel
theorem dX8_init_175 : decode cX8_init 175 = .ok (.iinc 2 1, 3) := by decide +kernel
theorem dX8_init_178 : decode cX8_init 178 = .ok (.goto (-22), 3) := by decide +kernel
theorem dX8_init_181 : decode cX8_init 181 = .ok (.aload_n 0, 1) := by decide +kernel
theorem dX8_init_182 : decode cX8_init 182 = .ok (.getfield 20, 3) := by decide +kernel
theorem dX8_init_185 : decode cX8_init 185 = .ok (.aload_n 0, 1) := by decide +kernel
theorem dX8_init_186 : decode cX8_init 186 = .ok (.getfield 9, 3) := by decide +kernel
theorem dX8_init_189 : decode cX8_init 189 = .ok (.iload_n 1, 1) := by decide +kernel
theorem dX8_init_190 : decode cX8_init 190 = .ok (.aload_n 0, 1) := by decide +kernel
theorem dX8_init_191 : decode cX8_init 191 = .ok (.getfield 27, 3) := by decide +kernel
theorem dX8_init_194 : decode cX8_init 194 = .ok (.invokevirtual 106, 3) := by decide +kernel
theorem dX8_init_197 : decode cX8_init 197 = .ok (.pop, 1) := by decide +kernel
theorem dX8_init_198 : decode cX8_init 198 = .ok (.aload_n 0, 1) := by decide +kernel
theorem dX8_init_199 : decode cX8_init 199 = .ok (.invokevirtual 110, 3) := by decide +kernel
theorem dX8_init_202 : decode cX8_init 202 = .ok (.return_, 1) := by decide +kernel
theorem dX8_write_0 : decode cX8_write 0 = .ok (.iload_n 1, 1) := by decide +kernel
theorem dX8_write_1 : decode cX8_write 1 = .ok (.bipush 32, 2) := by decide +kernel
theorem dX8_write_3 : decode cX8_write 3 = .ok (.if_icmp .lt 9, 3) := by decide +kernel
theorem dX8_write_6 : decode cX8_write 6 = .ok (.iload_n 1, 1) := by decide +kernel
theorem dX8_write_7 : decode cX8_write 7 = .ok (.bipush 126, 2) := by decide +kernel
theorem dX8_write_9 : decode cX8_write 9 = .ok (.if_icmp .le 5, 3) := by decide +kernel
theorem dX8_write_12 : decode cX8_write 12 = .ok (.iconst (-1), 1) := by decide +kernel
theorem dX8_write_13 : decode cX8_write 13 = .ok (.ireturn, 1) := by decide +kernel
theorem dX8_write_14 : decode cX8_write 14 = .ok (.aload_n 0, 1) := by decide +kernel
theorem dX8_write_15 : decode cX8_write 15 = .ok (.getfield 13, 3) := by decide +kernel
theorem dX8_write_18 : decode cX8_write 18 = .ok (.sipush 200, 3) := by decide +kernel
theorem dX8_write_21 : decode cX8_write 21 = .ok (.if_icmp .lt 6, 3) := by decide +kernel
theorem dX8_write_24 : decode cX8_write 24 = .ok (.bipush (-3), 2) := by decide +kernel
theorem dX8_write_26 : decode cX8_write 26 = .ok (.ireturn, 1) := by decide +kernel
theorem dX8_write_27 : decode cX8_write 27 = .ok (.aload_n 0, 1) := by decide +kernel
theorem dX8_write_28 : decode cX8_write 28 = .ok (.getfield 9, 3) := by decide +kernel
theorem dX8_write_31 : decode cX8_write 31 = .ok (.aload_n 0, 1) := by decide +kernel
theorem dX8_write_32 : decode cX8_write 32 = .ok (.getfield 13, 3) := by decide +kernel
theorem dX8_write_35 : decode cX8_write 35 = .ok (.iload_n 1, 1) := by decide +kernel
theorem dX8_write_36 : decode cX8_write 36 = .ok (.invokestatic 102, 3) := by decide +kernel
theorem dX8_write_39 : decode cX8_write 39 = .ok (.aload_n 0, 1) := by decide +kernel
theorem dX8_write_40 : decode cX8_write 40 = .ok (.dup, 1) := by decide +kernel
theorem dX8_write_41 : decode cX8_write 41 = .ok (.getfield 13, 3) := by decide +kernel
theorem dX8_write_44 : decode cX8_write 44 = .ok (.iconst 1, 1) := by decide +kernel
theorem dX8_write_45 : decode cX8_write 45 = .ok (.iadd, 1) := by decide +kernel
theorem dX8_write_46 : decode cX8_write 46 = .ok (.putfield 13, 3) := by decide +kernel
theorem dX8_write_49 : decode cX8_write 49 = .ok (.aload_n 0, 1) := by decide +kernel
theorem dX8_write_50 : decode cX8_write 50 = .ok (.getfield 13, 3) := by decide +kernel
theorem dX8_write_53 : decode cX8_write 53 = .ok (.ireturn, 1) := by decide +kernel
theorem dX8_wipe_0 : decode cX8_wipe 0 = .ok (.aload_n 0, 1) := by decide +kernel
theorem dX8_wipe_1 : decode cX8_wipe 1 = .ok (.getfield 13, 3) := by decide +kernel
theorem dX8_wipe_4 : decode cX8_wipe 4 = .ok (.istore_n 1, 1) := by decide +kernel
theorem dX8_wipe_5 : decode cX8_wipe 5 = .ok (.aload_n 0, 1) := by decide +kernel
theorem dX8_wipe_6 : decode cX8_wipe 6 = .ok (.iconst 0, 1) := by decide +kernel
theorem dX8_wipe_7 : decode cX8_wipe 7 = .ok (.putfield 13, 3) := by decide +kernel
theorem dX8_wipe_10 : decode cX8_wipe 10 = .ok (.iload_n 1, 1) := by decide +kernel
theorem dX8_wipe_11 : decode cX8_wipe 11 = .ok (.ireturn, 1) := by decide +kernel
theorem dX8_fault_0 : decode cX8_fault 0 = .ok (.aload_n 0, 1) := by decide +kernel
theorem dX8_fault_1 : decode cX8_fault 1 = .ok (.getfield 20, 3) := by decide +kernel
theorem dX8_fault_4 : decode cX8_fault 4 = .ok (.aload_n 0, 1) := by decide +kernel
theorem dX8_fault_5 : decode cX8_fault 5 = .ok (.getfield 9, 3) := by decide +kernel
theorem dX8_fault_8 : decode cX8_fault 8 = .ok (.aload_n 0, 1) := by decide +kernel
theorem dX8_fault_9 : decode cX8_fault 9 = .ok (.getfield 13, 3) := by decide +kernel
theorem dX8_fault_12 : decode cX8_fault 12 = .ok (.aload_n 0, 1) := by decide +kernel
theorem dX8_fault_13 : decode cX8_fault 13 = .ok (.getfield 31, 3) := by decide +kernel
theorem dX8_fault_16 : decode cX8_fault 16 = .ok (.invokevirtual 106, 3) := by decide +kernel
theorem dX8_fault_19 : decode cX8_fault 19 = .ok (.ireturn, 1) := by decide +kernel
theorem dX8_lay_0 : decode cX8_lay 0 = .ok (.aload_n 0, 1) := by decide +kernel
theorem dX8_lay_1 : decode cX8_lay 1 = .ok (.getfield 20, 3) := by decide +kernel
theorem dX8_lay_4 : decode cX8_lay 4 = .ok (.aload_n 0, 1) := by decide +kernel
theorem dX8_lay_5 : decode cX8_lay 5 = .ok (.getfield 9, 3) := by decide +kernel
theorem dX8_lay_8 : decode cX8_lay 8 = .ok (.aload_n 0, 1) := by decide +kernel
theorem dX8_lay_9 : decode cX8_lay 9 = .ok (.getfield 13, 3) := by decide +kernel
theorem dX8_lay_12 : decode cX8_lay 12 = .ok (.aload_n 0, 1) := by decide +kernel
theorem dX8_lay_13 : decode cX8_lay 13 = .ok (.getfield 31, 3) := by decide +kernel
theorem dX8_lay_16 : decode cX8_lay 16 = .ok (.invokevirtual 106, 3) := by decide +kernel
theorem dX8_lay_19 : decode cX8_lay 19 = .ok (.bipush (-4), 2) := by decide +kernel
theorem dX8_lay_21 : decode cX8_lay 21 = .ok (.if_icmp .ne 25, 3) := by decide +kernel
theorem dX8_lay_24 : decode cX8_lay 24 = .ok (.aload_n 0, 1) := by decide +kernel
theorem dX8_lay_25 : decode cX8_lay 25 = .ok (.getfield 31, 3) := by decide +kernel
theorem dX8_lay_28 : decode cX8_lay 28 = .ok (.getfield 113, 3) := by decide +kernel
theorem dX8_lay_31 : decode cX8_lay 31 = .ok (.iconst 1, 1) := by decide +kernel
theorem dX8_lay_32 : decode cX8_lay 32 = .ok (.if_icmp .lt 14, 3) := by decide +kernel
theorem dX8_lay_35 : decode cX8_lay 35 = .ok (.aload_n 0, 1) := by decide +kernel
theorem dX8_lay_36 : decode cX8_lay 36 = .ok (.getfield 31, 3) := by decide +kernel
theorem dX8_lay_39 : decode cX8_lay 39 = .ok (.getfield 116, 3) := by decide +kernel
theorem dX8_lay_42 : decode cX8_lay 42 = .ok (.iconst 1, 1) := by decide +kernel
theorem dX8_lay_43 : decode cX8_lay 43 = .ok (.if_icmp .ge 6, 3) := by decide +kernel
theorem dX8_lay_46 : decode cX8_lay 46 = .ok (.bipush (-2), 2) := by decide +kernel
theorem dX8_lay_48 : decode cX8_lay 48 = .ok (.ireturn, 1) := by decide +kernel
theorem dX8_lay_49 : decode cX8_lay 49 = .ok (.aload_n 0, 1) := by decide +kernel
theorem dX8_lay_50 : decode cX8_lay 50 = .ok (.getfield 27, 3) := by decide +kernel
theorem dX8_lay_53 : decode cX8_lay 53 = .ok (.astore_n 1, 1) := by decide +kernel
theorem dX8_lay_54 : decode cX8_lay 54 = .ok (.aload_n 0, 1) := by decide +kernel
theorem dX8_lay_55 : decode cX8_lay 55 = .ok (.aload_n 0, 1) := by decide +kernel
theorem dX8_lay_56 : decode cX8_lay 56 = .ok (.getfield 31, 3) := by decide +kernel
theorem dX8_lay_59 : decode cX8_lay 59 = .ok (.putfield 27, 3) := by decide +kernel
theorem dX8_lay_62 : decode cX8_lay 62 = .ok (.aload_n 0, 1) := by decide +kernel
theorem dX8_lay_63 : decode cX8_lay 63 = .ok (.aload_n 1, 1) := by decide +kernel
theorem dX8_lay_64 : decode cX8_lay 64 = .ok (.putfield 31, 3) := by decide +kernel
theorem dX8_lay_67 : decode cX8_lay 67 = .ok (.aload_n 0, 1) := by decide +kernel
theorem dX8_lay_68 : decode cX8_lay 68 = .ok (.invokevirtual 110, 3) := by decide +kernel
theorem dX8_lay_71 : decode cX8_lay 71 = .ok (.aload_n 0, 1) := by decide +kernel
theorem dX8_lay_72 : decode cX8_lay 72 = .ok (.getfield 27, 3) := by decide +kernel
theorem dX8_lay_75 : decode cX8_lay 75 = .ok (.getfield 113, 3) := by decide +kernel
theorem dX8_lay_78 : decode cX8_lay 78 = .ok (.ireturn, 1) := by decide +kernel
theorem dX8_gap_0 : decode cX8_gap 0 = .ok (.aload_n 0, 1) := by decide +kernel
theorem dX8_gap_1 : decode cX8_gap 1 = .ok (.iload_n 1, 1) := by decide +kernel
theorem dX8_gap_2 : decode cX8_gap 2 = .ok (.invokevirtual 119, 3) := by decide +kernel
theorem dX8_gap_5 : decode cX8_gap 5 = .ok (.ifCond .eq 13, 3) := by decide +kernel
theorem dX8_gap_8 : decode cX8_gap 8 = .ok (.iload_n 2, 1) := by decide +kernel
theorem dX8_gap_9 : decode cX8_gap 9 = .ok (.iconst 0, 1) := by decide +kernel
theorem dX8_gap_10 : decode cX8_gap 10 = .ok (.bipush 6, 2) := by decide +kernel
theorem dX8_gap_12 : decode cX8_gap 12 = .ok (.invokestatic 123, 3) := by decide +kernel
theorem dX8_gap_15 : decode cX8_gap 15 = .ok (.ifCond .ne 5, 3) := by decide +kernel
theorem dX8_gap_18 : decode cX8_gap 18 = .ok (.iconst (-1), 1) := by decide +kernel
theorem dX8_gap_19 : decode cX8_gap 19 = .ok (.ireturn, 1) := by decide +kernel
theorem dX8_gap_20 : decode cX8_gap 20 = .ok (.iload_n 2, 1) := by decide +kernel
theorem dX8_gap_21 : decode cX8_gap 21 = .ok (.iconst 5, 1) := by decide +kernel
theorem dX8_gap_22 : decode cX8_gap 22 = .ok (.if_icmp .ge 13, 3) := by decide +kernel
theorem dX8_gap_25 : decode cX8_gap 25 = .ok (.aload_n 0, 1) := by decide +kernel
theorem dX8_gap_26 : decode cX8_gap 26 = .ok (.getfield 27, 3) := by decide +kernel
theorem dX8_gap_29 : decode cX8_gap 29 = .ok (.iload_n 1, 1) := by decide +kernel
theorem dX8_gap_30 : decode cX8_gap 30 = .ok (.iload_n 2, 1) := by decide +kernel
theorem dX8_gap_31 : decode cX8_gap 31 = .ok (.invokevirtual 127, 3) := by decide +kernel
theorem dX8_gap_34 : decode cX8_gap 34 = .ok (.ireturn, 1) := by decide +kernel
theorem dX8_gap_35 : decode cX8_gap 35 = .ok (.iload_n 2, 1) := by decide +kernel
theorem dX8_gap_36 : decode cX8_gap 36 = .ok (.iconst 5, 1) := by decide +kernel
theorem dX8_gap_37 : decode cX8_gap 37 = .ok (.if_icmp .ne 14, 3) := by decide +kernel
theorem dX8_gap_40 : decode cX8_gap 40 = .ok (.aload_n 0, 1) := by decide +kernel
theorem dX8_gap_41 : decode cX8_gap 41 = .ok (.getfield 37, 3) := by decide +kernel
theorem dX8_gap_44 : decode cX8_gap 44 = .ok (.iload_n 1, 1) := by decide +kernel
theorem dX8_gap_45 : decode cX8_gap 45 = .ok (.invokevirtual 130, 3) := by decide +kernel
theorem dX8_gap_48 : decode cX8_gap 48 = .ok (.goto 18, 3) := by decide +kernel
theorem dX8_gap_51 : decode cX8_gap 51 = .ok (.aload_n 0, 1) := by decide +kernel
theorem dX8_gap_52 : decode cX8_gap 52 = .ok (.getfield 37, 3) := by decide +kernel
theorem dX8_gap_55 : decode cX8_gap 55 = .ok (.aload_n 0, 1) := by decide +kernel
theorem dX8_gap_56 : decode cX8_gap 56 = .ok (.getfield 27, 3) := by decide +kernel
theorem dX8_gap_59 : decode cX8_gap 59 = .ok (.iload_n 1, 1) := by decide +kernel
theorem dX8_gap_60 : decode cX8_gap 60 = .ok (.invokevirtual 134, 3) := by decide +kernel
theorem dX8_gap_63 : decode cX8_gap 63 = .ok (.invokestatic 138, 3) := by decide +kernel
theorem dX8_gap_66 : decode cX8_gap 66 = .ok (.ireturn, 1) := by decide +kernel
theorem dX8_stitcher_0 : decode cX8_stitcher 0 = .ok (.aload_n 0, 1) := by decide +kernel
theorem dX8_stitcher_1 : decode cX8_stitcher 1 = .ok (.iload_n 1, 1) := by decide +kernel
theorem dX8_stitcher_2 : decode cX8_stitcher 2 = .ok (.invokevirtual 142, 3) := by decide +kernel
theorem dX8_stitcher_5 : decode cX8_stitcher 5 = .ok (.ifCond .eq 12, 3) := by decide +kernel
theorem dX8_stitcher_8 : decode cX8_stitcher 8 = .ok (.iload_n 2, 1) := by decide +kernel
theorem dX8_stitcher_9 : decode cX8_stitcher 9 = .ok (.iconst 0, 1) := by decide +kernel
theorem dX8_stitcher_10 : decode cX8_stitcher 10 = .ok (.iconst 3, 1) := by decide +kernel
theorem dX8_stitcher_11 : decode cX8_stitcher 11 = .ok (.invokestatic 123, 3) := by decide +kernel
theorem dX8_stitcher_14 : decode cX8_stitcher 14 = .ok (.ifCond .ne 5, 3) := by decide +kernel
theorem dX8_stitcher_17 : decode cX8_stitcher 17 = .ok (.iconst (-1), 1) := by decide +kernel
theorem dX8_stitcher_18 : decode cX8_stitcher 18 = .ok (.ireturn, 1) := by decide +kernel
theorem dX8_stitcher_19 : decode cX8_stitcher 19 = .ok (.iload_n 2, 1) := by decide +kernel
theorem dX8_stitcher_20 : decode cX8_stitcher 20 = .ok (.iconst 1, 1) := by decide +kernel
theorem dX8_stitcher_21 : decode cX8_stitcher 21 = .ok (.if_icmp .ne 12, 3) := by decide +kernel
theorem dX8_stitcher_24 : decode cX8_stitcher 24 = .ok (.aload_n 0, 1) := by decide +kernel
theorem dX8_stitcher_25 : decode cX8_stitcher 25 = .ok (.getfield 37, 3) := by decide +kernel
theorem dX8_stitcher_28 : decode cX8_stitcher 28 = .ok (.iload_n 1, 1) := by decide +kernel
theorem dX8_stitcher_29 : decode cX8_stitcher 29 = .ok (.invokevirtual 145, 3) := by decide +kernel
theorem dX8_stitcher_32 : decode cX8_stitcher 32 = .ok (.ireturn, 1) := by decide +kernel
theorem dX8_stitcher_33 : decode cX8_stitcher 33 = .ok (.iload_n 2, 1) := by decide +kernel
theorem dX8_stitcher_34 : decode cX8_stitcher 34 = .ok (.iconst 3, 1) := by decide +kernel
theorem dX8_stitcher_35 : decode cX8_stitcher 35 = .ok (.if_icmp .ne 14, 3) := by decide +kernel
theorem dX8_stitcher_38 : decode cX8_stitcher 38 = .ok (.aload_n 0, 1) := by decide +kernel
theorem dX8_stitcher_39 : decode cX8_stitcher 39 = .ok (.getfield 37, 3) := by decide +kernel
theorem dX8_stitcher_42 : decode cX8_stitcher 42 = .ok (.iload_n 1, 1) := by decide +kernel
theorem dX8_stitcher_43 : decode cX8_stitcher 43 = .ok (.invokevirtual 148, 3) := by decide +kernel
theorem dX8_stitcher_46 : decode cX8_stitcher 46 = .ok (.goto 12, 3) := by decide +kernel
theorem dX8_stitcher_49 : decode cX8_stitcher 49 = .ok (.aload_n 0, 1) := by decide +kernel
theorem dX8_stitcher_50 : decode cX8_stitcher 50 = .ok (.getfield 27, 3) := by decide +kernel
theorem dX8_stitcher_53 : decode cX8_stitcher 53 = .ok (.iload_n 1, 1) := by decide +kernel
theorem dX8_stitcher_54 : decode cX8_stitcher 54 = .ok (.iload_n 2, 1) := by decide +kernel
theorem dX8_stitcher_55 : decode cX8_stitcher 55 = .ok (.invokevirtual 151, 3) := by decide +kernel
theorem dX8_stitcher_58 : decode cX8_stitcher 58 = .ok (.ireturn, 1) := by decide +kernel
theorem dX8_sky_0 : decode cX8_sky 0 = .ok (.iload_n 1, 1) := by decide +kernel
theorem dX8_sky_1 : decode cX8_sky 1 = .ok (.iconst 0, 1) := by decide +kernel
theorem dX8_sky_2 : decode cX8_sky 2 = .ok (.bipush 99, 2) := by decide +kernel
theorem dX8_sky_4 : decode cX8_sky 4 = .ok (.invokestatic 123, 3) := by decide +kernel
theorem dX8_sky_7 : decode cX8_sky 7 = .ok (.ifCond .eq 12, 3) := by decide +kernel
theorem dX8_sky_10 : decode cX8_sky 10 = .ok (.iload_n 2, 1) := by decide +kernel
theorem dX8_sky_11 : decode cX8_sky 11 = .ok (.iconst 0, 1) := by decide +kernel
theorem dX8_sky_12 : decode cX8_sky 12 = .ok (.iconst 1, 1) := by decide +kernel
theorem dX8_sky_13 : decode cX8_sky 13 = .ok (.invokestatic 123, 3) := by decide +kernel
theorem dX8_sky_16 : decode cX8_sky 16 = .ok (.ifCond .ne 5, 3) := by decide +kernel
theorem dX8_sky_19 : decode cX8_sky 19 = .ok (.iconst (-1), 1) := by decide +kernel
theorem dX8_sky_20 : decode cX8_sky 20 = .ok (.ireturn, 1) := by decide +kernel
theorem dX8_sky_21 : decode cX8_sky 21 = .ok (.aload_n 0, 1) := by decide +kernel
theorem dX8_sky_22 : decode cX8_sky 22 = .ok (.getfield 37, 3) := by decide +kernel
theorem dX8_sky_25 : decode cX8_sky 25 = .ok (.getfield 154, 3) := by decide +kernel
theorem dX8_sky_28 : decode cX8_sky 28 = .ok (.iload_n 1, 1) := by decide +kernel
theorem dX8_sky_29 : decode cX8_sky 29 = .ok (.iadd, 1) := by decide +kernel
theorem dX8_sky_30 : decode cX8_sky 30 = .ok (.istore_n 3, 1) := by decide +kernel
theorem dX8_sky_31 : decode cX8_sky 31 = .ok (.iload_n 2, 1) := by decide +kernel
theorem dX8_sky_32 : decode cX8_sky 32 = .ok (.ifCond .ne 14, 3) := by decide +kernel
theorem dX8_sky_35 : decode cX8_sky 35 = .ok (.aload_n 0, 1) := by decide +kernel
theorem dX8_sky_36 : decode cX8_sky 36 = .ok (.getfield 27, 3) := by decide +kernel
theorem dX8_sky_39 : decode cX8_sky 39 = .ok (.iload_n 3, 1) := by decide +kernel
theorem dX8_sky_40 : decode cX8_sky 40 = .ok (.invokevirtual 157, 3) := by decide +kernel
theorem dX8_sky_43 : decode cX8_sky 43 = .ok (.goto 11, 3) := by decide +kernel
theorem dX8_sky_46 : decode cX8_sky 46 = .ok (.aload_n 0, 1) := by decide +kernel
theorem dX8_sky_47 : decode cX8_sky 47 = .ok (.getfield 27, 3) := by decide +kernel
theorem dX8_sky_50 : decode cX8_sky 50 = .ok (.iload_n 3, 1) := by decide +kernel
theorem dX8_sky_51 : decode cX8_sky 51 = .ok (.invokevirtual 160, 3) := by decide +kernel
theorem dX8_sky_54 : decode cX8_sky 54 = .ok (.invokestatic 138, 3) := by decide +kernel
theorem dX8_sky_57 : decode cX8_sky 57 = .ok (.ireturn, 1) := by decide +kernel
theorem dX8_together_0 : decode cX8_together 0 = .ok (.aload_n 0, 1) := by decide +kernel
theorem dX8_together_1 : decode cX8_together 1 = .ok (.iload_n 1, 1) := by decide +kernel
theorem dX8_together_2 : decode cX8_together 2 = .ok (.invokevirtual 163, 3) := by decide +kernel
theorem dX8_together_5 : decode cX8_together 5 = .ok (.ifCond .eq 11, 3) := by decide +kernel
theorem dX8_together_8 : decode cX8_together 8 = .ok (.aload_n 0, 1) := by decide +kernel
theorem dX8_together_9 : decode cX8_together 9 = .ok (.iload_n 2, 1) := by decide +kernel
theorem dX8_together_10 : decode cX8_together 10 = .ok (.invokevirtual 163, 3) := by decide +kernel
theorem dX8_together_13 : decode cX8_together 13 = .ok (.ifCond .ne 5, 3) := by decide +kernel
theorem dX8_together_16 : decode cX8_together 16 = .ok (.iconst (-1), 1) := by decide +kernel
theorem dX8_together_17 : decode cX8_together 17 = .ok (.ireturn, 1) := by decide +kernel
theorem dX8_together_18 : decode cX8_together 18 = .ok (.aload_n 0, 1) := by decide +kernel
theorem dX8_together_19 : decode cX8_together 19 = .ok (.getfield 66, 3) := by decide +kernel
theorem dX8_together_22 : decode cX8_together 22 = .ok (.aload_n 0, 1) := by decide +kernel
theorem dX8_together_23 : decode cX8_together 23 = .ok (.getfield 27, 3) := by decide +kernel
theorem dX8_together_26 : decode cX8_together 26 = .ok (.aload_n 0, 1) := by decide +kernel
theorem dX8_together_27 : decode cX8_together 27 = .ok (.getfield 37, 3) := by decide +kernel
theorem dX8_together_30 : decode cX8_together 30 = .ok (.aload_n 0, 1) := by decide +kernel
theorem dX8_together_31 : decode cX8_together 31 = .ok (.getfield 27, 3) := by decide +kernel
theorem dX8_together_34 : decode cX8_together 34 = .ok (.invokevirtual 166, 3) := by decide +kernel
theorem dX8_together_37 : decode cX8_together 37 = .ok (.invokevirtual 170, 3) := by decide +kernel
theorem dX8_together_40 : decode cX8_together 40 = .ok (.aload_n 0, 1) := by decide +kernel
theorem dX8_together_41 : decode cX8_together 41 = .ok (.getfield 66, 3) := by decide +kernel
theorem dX8_together_44 : decode cX8_together 44 = .ok (.iload_n 1, 1) := by decide +kernel
theorem dX8_together_45 : decode cX8_together 45 = .ok (.iload_n 2, 1) := by decide +kernel
theorem dX8_together_46 : decode cX8_together 46 = .ok (.invokevirtual 174, 3) := by decide +kernel
theorem dX8_together_49 : decode cX8_together 49 = .ok (.invokestatic 138, 3) := by decide +kernel
theorem dX8_together_52 : decode cX8_together 52 = .ok (.ireturn, 1) := by decide +kernel
theorem dX8_send_0 : decode cX8_send 0 = .ok (.aload_n 0, 1) := by decide +kernel
theorem dX8_send_1 : decode cX8_send 1 = .ok (.iload_n 1, 1) := by decide +kernel
theorem dX8_send_2 : decode cX8_send 2 = .ok (.invokevirtual 142, 3) := by decide +kernel
theorem dX8_send_5 : decode cX8_send 5 = .ok (.ifCond .eq 16, 3) := by decide +kernel
theorem dX8_send_8 : decode cX8_send 8 = .ok (.iload_n 2, 1) := by decide +kernel
theorem dX8_send_9 : decode cX8_send 9 = .ok (.iconst (-1), 1) := by decide +kernel
theorem dX8_send_10 : decode cX8_send 10 = .ok (.if_icmp .eq 13, 3) := by decide +kernel
theorem dX8_send_13 : decode cX8_send 13 = .ok (.aload_n 0, 1) := by decide +kernel
theorem dX8_send_14 : decode cX8_send 14 = .ok (.iload_n 2, 1) := by decide +kernel
theorem dX8_send_15 : decode cX8_send 15 = .ok (.invokevirtual 119, 3) := by decide +kernel
theorem dX8_send_18 : decode cX8_send 18 = .ok (.ifCond .ne 5, 3) := by decide +kernel
theorem dX8_send_21 : decode cX8_send 21 = .ok (.iconst (-1), 1) := by decide +kernel
theorem dX8_send_22 : decode cX8_send 22 = .ok (.ireturn, 1) := by decide +kernel
theorem dX8_send_23 : decode cX8_send 23 = .ok (.iload_n 2, 1) := by decide +kernel
theorem dX8_send_24 : decode cX8_send 24 = .ok (.iconst (-1), 1) := by decide +kernel
theorem dX8_send_25 : decode cX8_send 25 = .ok (.if_icmp .ne 8, 3) := by decide +kernel
theorem dX8_send_28 : decode cX8_send 28 = .ok (.bipush (-4), 2) := by decide +kernel
theorem dX8_send_30 : decode cX8_send 30 = .ok (.goto 4, 3) := by decide +kernel
theorem dX8_send_33 : decode cX8_send 33 = .ok (.iload_n 2, 1) := by decide +kernel
theorem dX8_send_34 : decode cX8_send 34 = .ok (.istore_n 3, 1) := by decide +kernel
theorem dX8_send_35 : decode cX8_send 35 = .ok (.aload_n 0, 1) := by decide +kernel
theorem dX8_send_36 : decode cX8_send 36 = .ok (.getfield 37, 3) := by decide +kernel
theorem dX8_send_39 : decode cX8_send 39 = .ok (.iload_n 1, 1) := by decide +kernel
theorem dX8_send_40 : decode cX8_send 40 = .ok (.invokevirtual 148, 3) := by decide +kernel
theorem dX8_send_43 : decode cX8_send 43 = .ok (.istore 4, 2) := by decide +kernel
theorem dX8_send_45 : decode cX8_send 45 = .ok (.iload 4, 2) := by decide +kernel
theorem dX8_send_47 : decode cX8_send 47 = .ok (.iload_n 3, 1) := by decide +kernel
theorem dX8_send_48 : decode cX8_send 48 = .ok (.if_icmp .eq 24, 3) := by decide +kernel
theorem dX8_send_51 : decode cX8_send 51 = .ok (.iload_n 3, 1) := by decide +kernel
theorem dX8_send_52 : decode cX8_send 52 = .ok (.bipush (-4), 2) := by decide +kernel
theorem dX8_send_54 : decode cX8_send 54 = .ok (.if_icmp .eq 21, 3) := by decide +kernel
theorem dX8_send_57 : decode cX8_send 57 = .ok (.aload_n 0, 1) := by decide +kernel
theorem dX8_send_58 : decode cX8_send 58 = .ok (.getfield 37, 3) := by decide +kernel
theorem dX8_send_61 : decode cX8_send 61 = .ok (.aload_n 0, 1) := by decide +kernel
theorem dX8_send_62 : decode cX8_send 62 = .ok (.getfield 27, 3) := by decide +kernel
theorem dX8_send_65 : decode cX8_send 65 = .ok (.iload_n 3, 1) := by decide +kernel
theorem dX8_send_66 : decode cX8_send 66 = .ok (.invokevirtual 134, 3) := by decide +kernel
theorem dX8_send_69 : decode cX8_send 69 = .ok (.ifCond .eq 6, 3) := by decide +kernel
theorem dX8_send_72 : decode cX8_send 72 = .ok (.bipush (-2), 2) := by decide +kernel
theorem dX8_send_74 : decode cX8_send 74 = .ok (.ireturn, 1) := by decide +kernel
theorem dX8_send_75 : decode cX8_send 75 = .ok (.aload_n 0, 1) := by decide +kernel
theorem dX8_send_76 : decode cX8_send 76 = .ok (.getfield 49, 3) := by decide +kernel
theorem dX8_send_79 : decode cX8_send 79 = .ok (.aload_n 0, 1) := by decide +kernel
theorem dX8_send_80 : decode cX8_send 80 = .ok (.getfield 37, 3) := by decide +kernel
theorem dX8_send_83 : decode cX8_send 83 = .ok (.invokevirtual 178, 3) := by decide +kernel
theorem dX8_send_86 : decode cX8_send 86 = .ok (.aload_n 0, 1) := by decide +kernel
theorem dX8_send_87 : decode cX8_send 87 = .ok (.getfield 37, 3) := by decide +kernel
theorem dX8_send_90 : decode cX8_send 90 = .ok (.iload_n 1, 1) := by decide +kernel
theorem dX8_send_91 : decode cX8_send 91 = .ok (.iload_n 3, 1) := by decide +kernel
theorem dX8_send_92 : decode cX8_send 92 = .ok (.invokevirtual 182, 3) := by decide +kernel
theorem dX8_send_95 : decode cX8_send 95 = .ok (.iload 4, 2) := by decide +kernel
theorem dX8_send_97 : decode cX8_send 97 = .ok (.ireturn, 1) := by decide +kernel
theorem dX8_pass_0 : decode cX8_pass 0 = .ok (.iload_n 1, 1) := by decide +kernel
theorem dX8_pass_1 : decode cX8_pass 1 = .ok (.iconst 1, 1) := by decide +kernel
theorem dX8_pass_2 : decode cX8_pass 2 = .ok (.bipush 24, 2) := by decide +kernel
theorem dX8_pass_4 : decode cX8_pass 4 = .ok (.invokestatic 123, 3) := by decide +kernel
theorem dX8_pass_7 : decode cX8_pass 7 = .ok (.ifCond .ne 5, 3) := by decide +kernel
theorem dX8_pass_10 : decode cX8_pass 10 = .ok (.iconst (-1), 1) := by decide +kernel
theorem dX8_pass_11 : decode cX8_pass 11 = .ok (.ireturn, 1) := by decide +kernel
theorem dX8_pass_12 : decode cX8_pass 12 = .ok (.aload_n 0, 1) := by decide +kernel
theorem dX8_pass_13 : decode cX8_pass 13 = .ok (.getfield 49, 3) := by decide +kernel
theorem dX8_pass_16 : decode cX8_pass 16 = .ok (.aload_n 0, 1) := by decide +kernel
theorem dX8_pass_17 : decode cX8_pass 17 = .ok (.getfield 37, 3) := by decide +kernel
theorem dX8_pass_20 : decode cX8_pass 20 = .ok (.invokevirtual 178, 3) := by decide +kernel
theorem dX8_pass_23 : decode cX8_pass 23 = .ok (.aload_n 0, 1) := by decide +kernel
theorem dX8_pass_24 : decode cX8_pass 24 = .ok (.getfield 37, 3) := by decide +kernel
theorem dX8_pass_27 : decode cX8_pass 27 = .ok (.aload_n 0, 1) := by decide +kernel
theorem dX8_pass_28 : decode cX8_pass 28 = .ok (.getfield 27, 3) := by decide +kernel
theorem dX8_pass_31 : decode cX8_pass 31 = .ok (.iload_n 1, 1) := by decide +kernel
theorem dX8_pass_32 : decode cX8_pass 32 = .ok (.invokevirtual 186, 3) := by decide +kernel
theorem dX8_pass_35 : decode cX8_pass 35 = .ok (.aload_n 0, 1) := by decide +kernel
theorem dX8_pass_36 : decode cX8_pass 36 = .ok (.getfield 37, 3) := by decide +kernel
theorem dX8_pass_39 : decode cX8_pass 39 = .ok (.getfield 154, 3) := by decide +kernel
theorem dX8_pass_42 : decode cX8_pass 42 = .ok (.ireturn, 1) := by decide +kernel
theorem dX8_frog_0 : decode cX8_frog 0 = .ok (.aload_n 0, 1) := by decide +kernel
theorem dX8_frog_1 : decode cX8_frog 1 = .ok (.iload_n 1, 1) := by decide +kernel
theorem dX8_frog_2 : decode cX8_frog 2 = .ok (.invokevirtual 119, 3) := by decide +kernel
theorem dX8_frog_5 : decode cX8_frog 5 = .ok (.ifCond .ne 5, 3) := by decide +kernel
theorem dX8_frog_8 : decode cX8_frog 8 = .ok (.iconst (-1), 1) := by decide +kernel
theorem dX8_frog_9 : decode cX8_frog 9 = .ok (.ireturn, 1) := by decide +kernel
theorem dX8_frog_10 : decode cX8_frog 10 = .ok (.aload_n 0, 1) := by decide +kernel
theorem dX8_frog_11 : decode cX8_frog 11 = .ok (.getfield 37, 3) := by decide +kernel
theorem dX8_frog_14 : decode cX8_frog 14 = .ok (.aload_n 0, 1) := by decide +kernel
theorem dX8_frog_15 : decode cX8_frog 15 = .ok (.getfield 27, 3) := by decide +kernel
theorem dX8_frog_18 : decode cX8_frog 18 = .ok (.iload_n 1, 1) := by decide +kernel
theorem dX8_frog_19 : decode cX8_frog 19 = .ok (.invokevirtual 134, 3) := by decide +kernel
theorem dX8_frog_22 : decode cX8_frog 22 = .ok (.ifCond .ne 6, 3) := by decide +kernel
theorem dX8_frog_25 : decode cX8_frog 25 = .ok (.bipush (-2), 2) := by decide +kernel
theorem dX8_frog_27 : decode cX8_frog 27 = .ok (.ireturn, 1) := by decide +kernel
theorem dX8_frog_28 : decode cX8_frog 28 = .ok (.aload_n 0, 1) := by decide +kernel
theorem dX8_frog_29 : decode cX8_frog 29 = .ok (.getfield 49, 3) := by decide +kernel
theorem dX8_frog_32 : decode cX8_frog 32 = .ok (.aload_n 0, 1) := by decide +kernel
theorem dX8_frog_33 : decode cX8_frog 33 = .ok (.getfield 37, 3) := by decide +kernel
theorem dX8_frog_36 : decode cX8_frog 36 = .ok (.invokevirtual 178, 3) := by decide +kernel
theorem dX8_frog_39 : decode cX8_frog 39 = .ok (.aload_n 0, 1) := by decide +kernel
theorem dX8_frog_40 : decode cX8_frog 40 = .ok (.getfield 37, 3) := by decide +kernel
theorem dX8_frog_43 : decode cX8_frog 43 = .ok (.iload_n 1, 1) := by decide +kernel
theorem dX8_frog_44 : decode cX8_frog 44 = .ok (.invokevirtual 189, 3) := by decide +kernel
theorem dX8_frog_47 : decode cX8_frog 47 = .ok (.aload_n 0, 1) := by decide +kernel
theorem dX8_frog_48 : decode cX8_frog 48 = .ok (.getfield 37, 3) := by decide +kernel
theorem dX8_frog_51 : decode cX8_frog 51 = .ok (.aload_n 0, 1) := by decide +kernel
theorem dX8_frog_52 : decode cX8_frog 52 = .ok (.getfield 27, 3) := by decide +kernel
theorem dX8_frog_55 : decode cX8_frog 55 = .ok (.invokevirtual 166, 3) := by decide +kernel
theorem dX8_frog_58 : decode cX8_frog 58 = .ok (.invokestatic 192, 3) := by decide +kernel
theorem dX8_frog_61 : decode cX8_frog 61 = .ok (.ireturn, 1) := by decide +kernel
theorem dX8_undo_0 : decode cX8_undo 0 = .ok (.aload_n 0, 1) := by decide +kernel
theorem dX8_undo_1 : decode cX8_undo 1 = .ok (.getfield 49, 3) := by decide +kernel
theorem dX8_undo_4 : decode cX8_undo 4 = .ok (.getfield 197, 3) := by decide +kernel
theorem dX8_undo_7 : decode cX8_undo 7 = .ok (.iconst 1, 1) := by decide +kernel
theorem dX8_undo_8 : decode cX8_undo 8 = .ok (.if_icmp .ge 6, 3) := by decide +kernel
theorem dX8_undo_11 : decode cX8_undo 11 = .ok (.bipush (-2), 2) := by decide +kernel
theorem dX8_undo_13 : decode cX8_undo 13 = .ok (.ireturn, 1) := by decide +kernel
theorem dX8_undo_14 : decode cX8_undo 14 = .ok (.aload_n 0, 1) := by decide +kernel
theorem dX8_undo_15 : decode cX8_undo 15 = .ok (.getfield 49, 3) := by decide +kernel
theorem dX8_undo_18 : decode cX8_undo 18 = .ok (.aload_n 0, 1) := by decide +kernel
theorem dX8_undo_19 : decode cX8_undo 19 = .ok (.getfield 37, 3) := by decide +kernel
theorem dX8_undo_22 : decode cX8_undo 22 = .ok (.invokevirtual 200, 3) := by decide +kernel
theorem dX8_undo_25 : decode cX8_undo 25 = .ok (.aload_n 0, 1) := by decide +kernel
theorem dX8_undo_26 : decode cX8_undo 26 = .ok (.getfield 49, 3) := by decide +kernel
theorem dX8_undo_29 : decode cX8_undo 29 = .ok (.getfield 197, 3) := by decide +kernel
theorem dX8_undo_32 : decode cX8_undo 32 = .ok (.ireturn, 1) := by decide +kernel
theorem dX8_closes_0 : decode cX8_closes 0 = .ok (.aload_n 0, 1) := by decide +kernel
theorem dX8_closes_1 : decode cX8_closes 1 = .ok (.iload_n 1, 1) := by decide +kernel
theorem dX8_closes_2 : decode cX8_closes 2 = .ok (.invokevirtual 119, 3) := by decide +kernel
theorem dX8_closes_5 : decode cX8_closes 5 = .ok (.ifCond .ne 5, 3) := by decide +kernel
theorem dX8_closes_8 : decode cX8_closes 8 = .ok (.iconst (-1), 1) := by decide +kernel
theorem dX8_closes_9 : decode cX8_closes 9 = .ok (.ireturn, 1) := by decide +kernel
theorem dX8_closes_10 : decode cX8_closes 10 = .ok (.aload_n 0, 1) := by decide +kernel
theorem dX8_closes_11 : decode cX8_closes 11 = .ok (.getfield 41, 3) := by decide +kernel
theorem dX8_closes_14 : decode cX8_closes 14 = .ok (.aload_n 0, 1) := by decide +kernel
theorem dX8_closes_15 : decode cX8_closes 15 = .ok (.getfield 37, 3) := by decide +kernel
theorem dX8_closes_18 : decode cX8_closes 18 = .ok (.invokevirtual 203, 3) := by decide +kernel
theorem dX8_closes_21 : decode cX8_closes 21 = .ok (.aload_n 0, 1) := by decide +kernel
theorem dX8_closes_22 : decode cX8_closes 22 = .ok (.getfield 41, 3) := by decide +kernel
theorem dX8_closes_25 : decode cX8_closes 25 = .ok (.aload_n 0, 1) := by decide +kernel
theorem dX8_closes_26 : decode cX8_closes 26 = .ok (.getfield 27, 3) := by decide +kernel
theorem dX8_closes_29 : decode cX8_closes 29 = .ok (.iload_n 1, 1) := by decide +kernel
theorem dX8_closes_30 : decode cX8_closes 30 = .ok (.bipush 60, 2) := by decide +kernel
theorem dX8_closes_32 : decode cX8_closes 32 = .ok (.invokevirtual 206, 3) := by decide +kernel
theorem dX8_closes_35 : decode cX8_closes 35 = .ok (.ireturn, 1) := by decide +kernel
theorem dX8_dusk_0 : decode cX8_dusk 0 = .ok (.aload_n 0, 1) := by decide +kernel
theorem dX8_dusk_1 : decode cX8_dusk 1 = .ok (.getfield 41, 3) := by decide +kernel
theorem dX8_dusk_4 : decode cX8_dusk 4 = .ok (.aload_n 0, 1) := by decide +kernel
theorem dX8_dusk_5 : decode cX8_dusk 5 = .ok (.getfield 37, 3) := by decide +kernel
theorem dX8_dusk_8 : decode cX8_dusk 8 = .ok (.invokevirtual 203, 3) := by decide +kernel
theorem dX8_dusk_11 : decode cX8_dusk 11 = .ok (.aload_n 0, 1) := by decide +kernel
theorem dX8_dusk_12 : decode cX8_dusk 12 = .ok (.getfield 41, 3) := by decide +kernel
theorem dX8_dusk_15 : decode cX8_dusk 15 = .ok (.aload_n 0, 1) := by decide +kernel
theorem dX8_dusk_16 : decode cX8_dusk 16 = .ok (.getfield 27, 3) := by decide +kernel
theorem dX8_dusk_19 : decode cX8_dusk 19 = .ok (.aload_n 0, 1) := by decide +kernel
theorem dX8_dusk_20 : decode cX8_dusk 20 = .ok (.getfield 27, 3) := by decide +kernel
theorem dX8_dusk_23 : decode cX8_dusk 23 = .ok (.aload_n 0, 1) := by decide +kernel
theorem dX8_dusk_24 : decode cX8_dusk 24 = .ok (.getfield 37, 3) := by decide +kernel
theorem dX8_dusk_27 : decode cX8_dusk 27 = .ok (.getfield 154, 3) := by decide +kernel
theorem dX8_dusk_30 : decode cX8_dusk 30 = .ok (.invokevirtual 210, 3) := by decide +kernel
theorem dX8_dusk_33 : decode cX8_dusk 33 = .ok (.invokevirtual 186, 3) := by decide +kernel
theorem dX8_dusk_36 : decode cX8_dusk 36 = .ok (.aload_n 0, 1) := by decide +kernel
theorem dX8_dusk_37 : decode cX8_dusk 37 = .ok (.getfield 41, 3) := by decide +kernel
theorem dX8_dusk_40 : decode cX8_dusk 40 = .ok (.aload_n 0, 1) := by decide +kernel
theorem dX8_dusk_41 : decode cX8_dusk 41 = .ok (.getfield 27, 3) := by decide +kernel
theorem dX8_dusk_44 : decode cX8_dusk 44 = .ok (.invokevirtual 166, 3) := by decide +kernel
theorem dX8_dusk_47 : decode cX8_dusk 47 = .ok (.ireturn, 1) := by decide +kernel
theorem dX8_order_0 : decode cX8_order 0 = .ok (.aload_n 0, 1) := by decide +kernel
theorem dX8_order_1 : decode cX8_order 1 = .ok (.iload_n 1, 1) := by decide +kernel
theorem dX8_order_2 : decode cX8_order 2 = .ok (.invokevirtual 142, 3) := by decide +kernel
theorem dX8_order_5 : decode cX8_order 5 = .ok (.ifCond .eq 22, 3) := by decide +kernel
theorem dX8_order_8 : decode cX8_order 8 = .ok (.iload_n 2, 1) := by decide +kernel
theorem dX8_order_9 : decode cX8_order 9 = .ok (.iconst 1, 1) := by decide +kernel
theorem dX8_order_10 : decode cX8_order 10 = .ok (.bipush 24, 2) := by decide +kernel
theorem dX8_order_12 : decode cX8_order 12 = .ok (.invokestatic 123, 3) := by decide +kernel
theorem dX8_order_15 : decode cX8_order 15 = .ok (.ifCond .eq 12, 3) := by decide +kernel
theorem dX8_order_18 : decode cX8_order 18 = .ok (.iload_n 3, 1) := by decide +kernel
theorem dX8_order_19 : decode cX8_order 19 = .ok (.iconst (-1), 1) := by decide +kernel
theorem dX8_order_20 : decode cX8_order 20 = .ok (.iconst 3, 1) := by decide +kernel
theorem dX8_order_21 : decode cX8_order 21 = .ok (.invokestatic 123, 3) := by decide +kernel
theorem dX8_order_24 : decode cX8_order 24 = .ok (.ifCond .ne 5, 3) := by decide +kernel
theorem dX8_order_27 : decode cX8_order 27 = .ok (.iconst (-1), 1) := by decide +kernel
theorem dX8_order_28 : decode cX8_order 28 = .ok (.ireturn, 1) := by decide +kernel
theorem dX8_order_29 : decode cX8_order 29 = .ok (.aload_n 0, 1) := by decide +kernel
theorem dX8_order_30 : decode cX8_order 30 = .ok (.getfield 73, 3) := by decide +kernel
theorem dX8_order_33 : decode cX8_order 33 = .ok (.aload_n 0, 1) := by decide +kernel
theorem dX8_order_34 : decode cX8_order 34 = .ok (.getfield 37, 3) := by decide +kernel
theorem dX8_order_37 : decode cX8_order 37 = .ok (.iload_n 1, 1) := by decide +kernel
theorem dX8_order_38 : decode cX8_order 38 = .ok (.iload_n 2, 1) := by decide +kernel
theorem dX8_order_39 : decode cX8_order 39 = .ok (.invokevirtual 213, 3) := by decide +kernel
theorem dX8_order_42 : decode cX8_order 42 = .ok (.aload_n 0, 1) := by decide +kernel
theorem dX8_order_43 : decode cX8_order 43 = .ok (.getfield 73, 3) := by decide +kernel
theorem dX8_order_46 : decode cX8_order 46 = .ok (.aload_n 0, 1) := by decide +kernel
theorem dX8_order_47 : decode cX8_order 47 = .ok (.getfield 27, 3) := by decide +kernel
theorem dX8_order_50 : decode cX8_order 50 = .ok (.iconst 0, 1) := by decide +kernel
theorem dX8_order_51 : decode cX8_order 51 = .ok (.iconst 0, 1) := by decide +kernel
theorem dX8_order_52 : decode cX8_order 52 = .ok (.invokevirtual 217, 3) := by decide +kernel
theorem dX8_order_55 : decode cX8_order 55 = .ok (.iload_n 3, 1) := by decide +kernel
theorem dX8_order_56 : decode cX8_order 56 = .ok (.iconst (-1), 1) := by decide +kernel
theorem dX8_order_57 : decode cX8_order 57 = .ok (.if_icmp .ne 11, 3) := by decide +kernel
theorem dX8_order_60 : decode cX8_order 60 = .ok (.aload_n 0, 1) := by decide +kernel
theorem dX8_order_61 : decode cX8_order 61 = .ok (.getfield 73, 3) := by decide +kernel
theorem dX8_order_64 : decode cX8_order 64 = .ok (.getfield 221, 3) := by decide +kernel
theorem dX8_order_67 : decode cX8_order 67 = .ok (.ireturn, 1) := by decide +kernel
theorem dX8_order_68 : decode cX8_order 68 = .ok (.iload_n 3, 1) := by decide +kernel
theorem dX8_order_69 : decode cX8_order 69 = .ok (.iconst 3, 1) := by decide +kernel
theorem dX8_order_70 : decode cX8_order 70 = .ok (.if_icmp .ne 11, 3) := by decide +kernel
theorem dX8_order_73 : decode cX8_order 73 = .ok (.aload_n 0, 1) := by decide +kernel
theorem dX8_order_74 : decode cX8_order 74 = .ok (.getfield 73, 3) := by decide +kernel
theorem dX8_order_77 : decode cX8_order 77 = .ok (.getfield 224, 3) := by decide +kernel
theorem dX8_order_80 : decode cX8_order 80 = .ok (.ireturn, 1) := by decide +kernel
theorem dX8_order_81 : decode cX8_order 81 = .ok (.iload_n 3, 1) := by decide +kernel
theorem dX8_order_82 : decode cX8_order 82 = .ok (.aload_n 0, 1) := by decide +kernel
theorem dX8_order_83 : decode cX8_order 83 = .ok (.getfield 73, 3) := by decide +kernel
theorem dX8_order_86 : decode cX8_order 86 = .ok (.getfield 221, 3) := by decide +kernel
theorem dX8_order_89 : decode cX8_order 89 = .ok (.if_icmp .ge 17, 3) := by decide +kernel
theorem dX8_order_92 : decode cX8_order 92 = .ok (.aload_n 0, 1) := by decide +kernel
theorem dX8_order_93 : decode cX8_order 93 = .ok (.getfield 73, 3) := by decide +kernel
theorem dX8_order_96 : decode cX8_order 96 = .ok (.getfield 227, 3) := by decide +kernel
theorem dX8_order_99 : decode cX8_order 99 = .ok (.iload_n 3, 1) := by decide +kernel
theorem dX8_order_100 : decode cX8_order 100 = .ok (.invokestatic 230, 3) := by decide +kernel
theorem dX8_order_103 : decode cX8_order 103 = .ok (.goto 5, 3) := by decide +kernel
theorem dX8_order_106 : decode cX8_order 106 = .ok (.bipush (-4), 2) := by decide +kernel
theorem dX8_order_108 : decode cX8_order 108 = .ok (.ireturn, 1) := by decide +kernel
theorem dX8_deal_0 : decode cX8_deal 0 = .ok (.iload_n 1, 1) := by decide +kernel
theorem dX8_deal_1 : decode cX8_deal 1 = .ok (.iconst 1, 1) := by decide +kernel
theorem dX8_deal_2 : decode cX8_deal 2 = .ok (.bipush 24, 2) := by decide +kernel
theorem dX8_deal_4 : decode cX8_deal 4 = .ok (.invokestatic 123, 3) := by decide +kernel
theorem dX8_deal_7 : decode cX8_deal 7 = .ok (.ifCond .eq 16, 3) := by decide +kernel
theorem dX8_deal_10 : decode cX8_deal 10 = .ok (.iload_n 2, 1) := by decide +kernel
theorem dX8_deal_11 : decode cX8_deal 11 = .ok (.iconst (-1), 1) := by decide +kernel
theorem dX8_deal_12 : decode cX8_deal 12 = .ok (.if_icmp .eq 13, 3) := by decide +kernel
theorem dX8_deal_15 : decode cX8_deal 15 = .ok (.aload_n 0, 1) := by decide +kernel
theorem dX8_deal_16 : decode cX8_deal 16 = .ok (.iload_n 2, 1) := by decide +kernel
theorem dX8_deal_17 : decode cX8_deal 17 = .ok (.invokevirtual 142, 3) := by decide +kernel
theorem dX8_deal_20 : decode cX8_deal 20 = .ok (.ifCond .ne 5, 3) := by decide +kernel
theorem dX8_deal_23 : decode cX8_deal 23 = .ok (.iconst (-1), 1) := by decide +kernel
theorem dX8_deal_24 : decode cX8_deal 24 = .ok (.ireturn, 1) := by decide +kernel
theorem dX8_deal_25 : decode cX8_deal 25 = .ok (.aload_n 0, 1) := by decide +kernel
theorem dX8_deal_26 : decode cX8_deal 26 = .ok (.getfield 80, 3) := by decide +kernel
theorem dX8_deal_29 : decode cX8_deal 29 = .ok (.aload_n 0, 1) := by decide +kernel
theorem dX8_deal_30 : decode cX8_deal 30 = .ok (.getfield 27, 3) := by decide +kernel
theorem dX8_deal_33 : decode cX8_deal 33 = .ok (.aload_n 0, 1) := by decide +kernel
theorem dX8_deal_34 : decode cX8_deal 34 = .ok (.getfield 37, 3) := by decide +kernel
theorem dX8_deal_37 : decode cX8_deal 37 = .ok (.aload_n 0, 1) := by decide +kernel
theorem dX8_deal_38 : decode cX8_deal 38 = .ok (.getfield 41, 3) := by decide +kernel
theorem dX8_deal_41 : decode cX8_deal 41 = .ok (.iload_n 1, 1) := by decide +kernel
theorem dX8_deal_42 : decode cX8_deal 42 = .ok (.invokevirtual 234, 3) := by decide +kernel
theorem dX8_deal_45 : decode cX8_deal 45 = .ok (.iload_n 2, 1) := by decide +kernel
theorem dX8_deal_46 : decode cX8_deal 46 = .ok (.iconst (-1), 1) := by decide +kernel
theorem dX8_deal_47 : decode cX8_deal 47 = .ok (.if_icmp .ne 13, 3) := by decide +kernel
theorem dX8_deal_50 : decode cX8_deal 50 = .ok (.aload_n 0, 1) := by decide +kernel
theorem dX8_deal_51 : decode cX8_deal 51 = .ok (.getfield 80, 3) := by decide +kernel
theorem dX8_deal_54 : decode cX8_deal 54 = .ok (.getfield 238, 3) := by decide +kernel
theorem dX8_deal_57 : decode cX8_deal 57 = .ok (.goto 14, 3) := by decide +kernel
theorem dX8_deal_60 : decode cX8_deal 60 = .ok (.aload_n 0, 1) := by decide +kernel
theorem dX8_deal_61 : decode cX8_deal 61 = .ok (.getfield 80, 3) := by decide +kernel
theorem dX8_deal_64 : decode cX8_deal 64 = .ok (.getfield 239, 3) := by decide +kernel
theorem dX8_deal_67 : decode cX8_deal 67 = .ok (.iload_n 2, 1) := by decide +kernel
theorem dX8_deal_68 : decode cX8_deal 68 = .ok (.invokestatic 230, 3) := by decide +kernel
theorem dX8_deal_71 : decode cX8_deal 71 = .ok (.ireturn, 1) := by decide +kernel
