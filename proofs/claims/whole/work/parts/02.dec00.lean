theorem dX0_init_0 : decode cX0_init 0 = .ok (.aload_n 0, 1) := by decide +kernel
theorem dX0_init_1 : decode cX0_init 1 = .ok (.invokespecial 3, 3) := by decide +kernel
theorem dX0_init_4 : decode cX0_init 4 = .ok (.aload_n 0, 1) := by decide +kernel
theorem dX0_init_5 : decode cX0_init 5 = .ok (.iconst 0, 1) := by decide +kernel
theorem dX0_init_6 : decode cX0_init 6 = .ok (.putfield 9, 3) := by decide +kernel
theorem dX0_init_9 : decode cX0_init 9 = .ok (.aload_n 0, 1) := by decide +kernel
theorem dX0_init_10 : decode cX0_init 10 = .ok (.iconst 4, 1) := by decide +kernel
theorem dX0_init_11 : decode cX0_init 11 = .ok (.newarray .int, 2) := by decide +kernel
theorem dX0_init_13 : decode cX0_init 13 = .ok (.putfield 15, 3) := by decide +kernel
theorem dX0_init_16 : decode cX0_init 16 = .ok (.aload_n 0, 1) := by decide +kernel
theorem dX0_init_17 : decode cX0_init 17 = .ok (.iconst 4, 1) := by decide +kernel
theorem dX0_init_18 : decode cX0_init 18 = .ok (.newarray .int, 2) := by decide +kernel
theorem dX0_init_20 : decode cX0_init 20 = .ok (.putfield 19, 3) := by decide +kernel
theorem dX0_init_23 : decode cX0_init 23 = .ok (.aload_n 0, 1) := by decide +kernel
theorem dX0_init_24 : decode cX0_init 24 = .ok (.bipush 8, 2) := by decide +kernel
theorem dX0_init_26 : decode cX0_init 26 = .ok (.newarray .int, 2) := by decide +kernel
theorem dX0_init_28 : decode cX0_init 28 = .ok (.putfield 22, 3) := by decide +kernel
theorem dX0_init_31 : decode cX0_init 31 = .ok (.aload_n 0, 1) := by decide +kernel
theorem dX0_init_32 : decode cX0_init 32 = .ok (.bipush 8, 2) := by decide +kernel
theorem dX0_init_34 : decode cX0_init 34 = .ok (.newarray .int, 2) := by decide +kernel
theorem dX0_init_36 : decode cX0_init 36 = .ok (.putfield 25, 3) := by decide +kernel
theorem dX0_init_39 : decode cX0_init 39 = .ok (.return_, 1) := by decide +kernel
theorem dX0_find_0 : decode cX0_find 0 = .ok (.aload_n 0, 1) := by decide +kernel
theorem dX0_find_1 : decode cX0_find 1 = .ok (.iconst (-1), 1) := by decide +kernel
theorem dX0_find_2 : decode cX0_find 2 = .ok (.putfield 9, 3) := by decide +kernel
theorem dX0_find_5 : decode cX0_find 5 = .ok (.iconst 0, 1) := by decide +kernel
theorem dX0_find_6 : decode cX0_find 6 = .ok (.istore 5, 2) := by decide +kernel
theorem dX0_find_8 : decode cX0_find 8 = .ok (.iload 5, 2) := by decide +kernel
theorem dX0_find_10 : decode cX0_find 10 = .ok (.aload_n 1, 1) := by decide +kernel
theorem dX0_find_11 : decode cX0_find 11 = .ok (.getfield 28, 3) := by decide +kernel
theorem dX0_find_14 : decode cX0_find 14 = .ok (.if_icmp .ge 89, 3) := by decide +kernel
theorem dX0_find_17 : decode cX0_find 17 = .ok (.iconst 0, 1) := by decide +kernel
theorem dX0_find_18 : decode cX0_find 18 = .ok (.istore 6, 2) := by decide +kernel
theorem dX0_find_20 : decode cX0_find 20 = .ok (.iconst 0, 1) := by decide +kernel
theorem dX0_find_21 : decode cX0_find 21 = .ok (.istore 7, 2) := by decide +kernel
theorem dX0_find_23 : decode cX0_find 23 = .ok (.iload 7, 2) := by decide +kernel
theorem dX0_find_25 : decode cX0_find 25 = .ok (.iconst 1, 1) := by decide +kernel
theorem dX0_find_26 : decode cX0_find 26 = .ok (.aload_n 1, 1) := by decide +kernel
theorem dX0_find_27 : decode cX0_find 27 = .ok (.getfield 33, 3) := by decide +kernel
theorem dX0_find_30 : decode cX0_find 30 = .ok (.ishl, 1) := by decide +kernel
theorem dX0_find_31 : decode cX0_find 31 = .ok (.if_icmp .ge 45, 3) := by decide +kernel
theorem dX0_find_34 : decode cX0_find 34 = .ok (.aload_n 3, 1) := by decide +kernel
theorem dX0_find_35 : decode cX0_find 35 = .ok (.aload_n 2, 1) := by decide +kernel
theorem dX0_find_36 : decode cX0_find 36 = .ok (.invokevirtual 36, 3) := by decide +kernel
theorem dX0_find_39 : decode cX0_find 39 = .ok (.aload_n 3, 1) := by decide +kernel
theorem dX0_find_40 : decode cX0_find 40 = .ok (.iload 7, 2) := by decide +kernel
theorem dX0_find_42 : decode cX0_find 42 = .ok (.iload 5, 2) := by decide +kernel
theorem dX0_find_44 : decode cX0_find 44 = .ok (.invokestatic 42, 3) := by decide +kernel
theorem dX0_find_47 : decode cX0_find 47 = .ok (.aload_n 3, 1) := by decide +kernel
theorem dX0_find_48 : decode cX0_find 48 = .ok (.aload_n 1, 1) := by decide +kernel
theorem dX0_find_49 : decode cX0_find 49 = .ok (.iload 5, 2) := by decide +kernel
theorem dX0_find_51 : decode cX0_find 51 = .ok (.iload 4, 2) := by decide +kernel
theorem dX0_find_53 : decode cX0_find 53 = .ok (.invokevirtual 46, 3) := by decide +kernel
theorem dX0_find_56 : decode cX0_find 56 = .ok (.bipush (-4), 2) := by decide +kernel
theorem dX0_find_58 : decode cX0_find 58 = .ok (.if_icmp .eq 12, 3) := by decide +kernel
theorem dX0_find_61 : decode cX0_find 61 = .ok (.iload 6, 2) := by decide +kernel
theorem dX0_find_63 : decode cX0_find 63 = .ok (.iconst 1, 1) := by decide +kernel
theorem dX0_find_64 : decode cX0_find 64 = .ok (.iload 7, 2) := by decide +kernel
theorem dX0_find_66 : decode cX0_find 66 = .ok (.ishl, 1) := by decide +kernel
theorem dX0_find_67 : decode cX0_find 67 = .ok (.ior, 1) := by decide +kernel
theorem dX0_find_68 : decode cX0_find 68 = .ok (.istore 6, 2) := by decide +kernel
theorem dX0_find_70 : decode cX0_find 70 = .ok (.iinc 7 1, 3) := by decide +kernel
theorem dX0_find_73 : decode cX0_find 73 = .ok (.goto (-50), 3) := by decide +kernel
theorem dX0_find_76 : decode cX0_find 76 = .ok (.aload_n 0, 1) := by decide +kernel
theorem dX0_find_77 : decode cX0_find 77 = .ok (.getfield 22, 3) := by decide +kernel
theorem dX0_find_80 : decode cX0_find 80 = .ok (.iload 5, 2) := by decide +kernel
theorem dX0_find_82 : decode cX0_find 82 = .ok (.iconst 0, 1) := by decide +kernel
theorem dX0_find_83 : decode cX0_find 83 = .ok (.invokestatic 50, 3) := by decide +kernel
theorem dX0_find_86 : decode cX0_find 86 = .ok (.aload_n 0, 1) := by decide +kernel
theorem dX0_find_87 : decode cX0_find 87 = .ok (.getfield 25, 3) := by decide +kernel
theorem dX0_find_90 : decode cX0_find 90 = .ok (.iload 5, 2) := by decide +kernel
theorem dX0_find_92 : decode cX0_find 92 = .ok (.iload 6, 2) := by decide +kernel
theorem dX0_find_94 : decode cX0_find 94 = .ok (.invokestatic 50, 3) := by decide +kernel
theorem dX0_find_97 : decode cX0_find 97 = .ok (.iinc 5 1, 3) := by decide +kernel
theorem dX0_find_100 : decode cX0_find 100 = .ok (.goto (-92), 3) := by decide +kernel
theorem dX0_find_103 : decode cX0_find 103 = .ok (.aload_n 2, 1) := by decide +kernel
theorem dX0_find_104 : decode cX0_find 104 = .ok (.aload_n 1, 1) := by decide +kernel
theorem dX0_find_105 : decode cX0_find 105 = .ok (.invokevirtual 54, 3) := by decide +kernel
theorem dX0_find_108 : decode cX0_find 108 = .ok (.istore 5, 2) := by decide +kernel
theorem dX0_find_110 : decode cX0_find 110 = .ok (.aload_n 0, 1) := by decide +kernel
theorem dX0_find_111 : decode cX0_find 111 = .ok (.aload_n 1, 1) := by decide +kernel
theorem dX0_find_112 : decode cX0_find 112 = .ok (.iload 5, 2) := by decide +kernel
theorem dX0_find_114 : decode cX0_find 114 = .ok (.iconst 0, 1) := by decide +kernel
theorem dX0_find_115 : decode cX0_find 115 = .ok (.iload 5, 2) := by decide +kernel
theorem dX0_find_117 : decode cX0_find 117 = .ok (.invokestatic 58, 3) := by decide +kernel
theorem dX0_find_120 : decode cX0_find 120 = .ok (.invokevirtual 64, 3) := by decide +kernel
theorem dX0_find_123 : decode cX0_find 123 = .ok (.return_, 1) := by decide +kernel
theorem dX0_sendCrew_0 : decode cX0_sendCrew 0 = .ok (.iconst 0, 1) := by decide +kernel
theorem dX0_sendCrew_1 : decode cX0_sendCrew 1 = .ok (.istore_n 3, 1) := by decide +kernel
theorem dX0_sendCrew_2 : decode cX0_sendCrew 2 = .ok (.iload_n 3, 1) := by decide +kernel
theorem dX0_sendCrew_3 : decode cX0_sendCrew 3 = .ok (.iconst 4, 1) := by decide +kernel
theorem dX0_sendCrew_4 : decode cX0_sendCrew 4 = .ok (.if_icmp .ge 28, 3) := by decide +kernel
theorem dX0_sendCrew_7 : decode cX0_sendCrew 7 = .ok (.aload_n 0, 1) := by decide +kernel
theorem dX0_sendCrew_8 : decode cX0_sendCrew 8 = .ok (.iload_n 3, 1) := by decide +kernel
theorem dX0_sendCrew_9 : decode cX0_sendCrew 9 = .ok (.iload_n 1, 1) := by decide +kernel
theorem dX0_sendCrew_10 : decode cX0_sendCrew 10 = .ok (.iload_n 3, 1) := by decide +kernel
theorem dX0_sendCrew_11 : decode cX0_sendCrew 11 = .ok (.invokestatic 68, 3) := by decide +kernel
theorem dX0_sendCrew_14 : decode cX0_sendCrew 14 = .ok (.ifCond .eq 7, 3) := by decide +kernel
theorem dX0_sendCrew_17 : decode cX0_sendCrew 17 = .ok (.iload_n 2, 1) := by decide +kernel
theorem dX0_sendCrew_18 : decode cX0_sendCrew 18 = .ok (.goto 5, 3) := by decide +kernel
theorem dX0_sendCrew_21 : decode cX0_sendCrew 21 = .ok (.bipush (-4), 2) := by decide +kernel
theorem dX0_sendCrew_23 : decode cX0_sendCrew 23 = .ok (.invokevirtual 72, 3) := by decide +kernel
theorem dX0_sendCrew_26 : decode cX0_sendCrew 26 = .ok (.iinc 3 1, 3) := by decide +kernel
theorem dX0_sendCrew_29 : decode cX0_sendCrew 29 = .ok (.goto (-27), 3) := by decide +kernel
theorem dX0_sendCrew_32 : decode cX0_sendCrew 32 = .ok (.return_, 1) := by decide +kernel
theorem dX0_choose_0 : decode cX0_choose 0 = .ok (.iload_n 3, 1) := by decide +kernel
theorem dX0_choose_1 : decode cX0_choose 1 = .ok (.aload_n 1, 1) := by decide +kernel
theorem dX0_choose_2 : decode cX0_choose 2 = .ok (.getfield 33, 3) := by decide +kernel
theorem dX0_choose_5 : decode cX0_choose 5 = .ok (.if_icmp .ge 8, 3) := by decide +kernel
theorem dX0_choose_8 : decode cX0_choose 8 = .ok (.iload_n 3, 1) := by decide +kernel
theorem dX0_choose_9 : decode cX0_choose 9 = .ok (.iconst 4, 1) := by decide +kernel
theorem dX0_choose_10 : decode cX0_choose 10 = .ok (.if_icmp .lt 10, 3) := by decide +kernel
theorem dX0_choose_13 : decode cX0_choose 13 = .ok (.aload_n 0, 1) := by decide +kernel
theorem dX0_choose_14 : decode cX0_choose 14 = .ok (.iload 4, 2) := by decide +kernel
theorem dX0_choose_16 : decode cX0_choose 16 = .ok (.invokevirtual 76, 3) := by decide +kernel
theorem dX0_choose_19 : decode cX0_choose 19 = .ok (.return_, 1) := by decide +kernel
theorem dX0_choose_20 : decode cX0_choose 20 = .ok (.iload 4, 2) := by decide +kernel
theorem dX0_choose_22 : decode cX0_choose 22 = .ok (.aload_n 1, 1) := by decide +kernel
theorem dX0_choose_23 : decode cX0_choose 23 = .ok (.getfield 33, 3) := by decide +kernel
theorem dX0_choose_26 : decode cX0_choose 26 = .ok (.iadd, 1) := by decide +kernel
theorem dX0_choose_27 : decode cX0_choose 27 = .ok (.iload_n 3, 1) := by decide +kernel
theorem dX0_choose_28 : decode cX0_choose 28 = .ok (.isub, 1) := by decide +kernel
theorem dX0_choose_29 : decode cX0_choose 29 = .ok (.aload_n 0, 1) := by decide +kernel
theorem dX0_choose_30 : decode cX0_choose 30 = .ok (.getfield 9, 3) := by decide +kernel
theorem dX0_choose_33 : decode cX0_choose 33 = .ok (.if_icmp .gt 4, 3) := by decide +kernel
theorem dX0_choose_36 : decode cX0_choose 36 = .ok (.return_, 1) := by decide +kernel
theorem dX0_choose_37 : decode cX0_choose 37 = .ok (.iconst 0, 1) := by decide +kernel
theorem dX0_choose_38 : decode cX0_choose 38 = .ok (.istore 5, 2) := by decide +kernel
theorem dX0_choose_40 : decode cX0_choose 40 = .ok (.iload 5, 2) := by decide +kernel
theorem dX0_choose_42 : decode cX0_choose 42 = .ok (.aload_n 1, 1) := by decide +kernel
theorem dX0_choose_43 : decode cX0_choose 43 = .ok (.getfield 28, 3) := by decide +kernel
theorem dX0_choose_46 : decode cX0_choose 46 = .ok (.if_icmp .ge 29, 3) := by decide +kernel
theorem dX0_choose_49 : decode cX0_choose 49 = .ok (.iload_n 2, 1) := by decide +kernel
theorem dX0_choose_50 : decode cX0_choose 50 = .ok (.iload 5, 2) := by decide +kernel
theorem dX0_choose_52 : decode cX0_choose 52 = .ok (.invokestatic 68, 3) := by decide +kernel
theorem dX0_choose_55 : decode cX0_choose 55 = .ok (.ifCond .ne 14, 3) := by decide +kernel
theorem dX0_choose_58 : decode cX0_choose 58 = .ok (.aload_n 0, 1) := by decide +kernel
theorem dX0_choose_59 : decode cX0_choose 59 = .ok (.aload_n 1, 1) := by decide +kernel
theorem dX0_choose_60 : decode cX0_choose 60 = .ok (.iload_n 2, 1) := by decide +kernel
theorem dX0_choose_61 : decode cX0_choose 61 = .ok (.iload_n 3, 1) := by decide +kernel
theorem dX0_choose_62 : decode cX0_choose 62 = .ok (.iload 4, 2) := by decide +kernel
theorem dX0_choose_64 : decode cX0_choose 64 = .ok (.iload 5, 2) := by decide +kernel
theorem dX0_choose_66 : decode cX0_choose 66 = .ok (.invokevirtual 80, 3) := by decide +kernel
theorem dX0_choose_69 : decode cX0_choose 69 = .ok (.iinc 5 1, 3) := by decide +kernel
theorem dX0_choose_72 : decode cX0_choose 72 = .ok (.goto (-32), 3) := by decide +kernel
theorem dX0_choose_75 : decode cX0_choose 75 = .ok (.aload_n 0, 1) := by decide +kernel
theorem dX0_choose_76 : decode cX0_choose 76 = .ok (.getfield 19, 3) := by decide +kernel
theorem dX0_choose_79 : decode cX0_choose 79 = .ok (.iload_n 3, 1) := by decide +kernel
theorem dX0_choose_80 : decode cX0_choose 80 = .ok (.bipush (-4), 2) := by decide +kernel
theorem dX0_choose_82 : decode cX0_choose 82 = .ok (.invokestatic 50, 3) := by decide +kernel
theorem dX0_choose_85 : decode cX0_choose 85 = .ok (.aload_n 0, 1) := by decide +kernel
theorem dX0_choose_86 : decode cX0_choose 86 = .ok (.aload_n 1, 1) := by decide +kernel
theorem dX0_choose_87 : decode cX0_choose 87 = .ok (.iload_n 2, 1) := by decide +kernel
theorem dX0_choose_88 : decode cX0_choose 88 = .ok (.iload_n 3, 1) := by decide +kernel
theorem dX0_choose_89 : decode cX0_choose 89 = .ok (.iconst 1, 1) := by decide +kernel
theorem dX0_choose_90 : decode cX0_choose 90 = .ok (.iadd, 1) := by decide +kernel
theorem dX0_choose_91 : decode cX0_choose 91 = .ok (.iload 4, 2) := by decide +kernel
theorem dX0_choose_93 : decode cX0_choose 93 = .ok (.invokevirtual 64, 3) := by decide +kernel
theorem dX0_choose_96 : decode cX0_choose 96 = .ok (.return_, 1) := by decide +kernel
theorem dX0_tryGoal_0 : decode cX0_tryGoal 0 = .ok (.aload_n 0, 1) := by decide +kernel
theorem dX0_tryGoal_1 : decode cX0_tryGoal 1 = .ok (.getfield 22, 3) := by decide +kernel
theorem dX0_tryGoal_4 : decode cX0_tryGoal 4 = .ok (.iload 5, 2) := by decide +kernel
theorem dX0_tryGoal_6 : decode cX0_tryGoal 6 = .ok (.invokestatic 84, 3) := by decide +kernel
theorem dX0_tryGoal_9 : decode cX0_tryGoal 9 = .ok (.istore 6, 2) := by decide +kernel
theorem dX0_tryGoal_11 : decode cX0_tryGoal 11 = .ok (.iload 6, 2) := by decide +kernel
theorem dX0_tryGoal_13 : decode cX0_tryGoal 13 = .ok (.iconst 1, 1) := by decide +kernel
theorem dX0_tryGoal_14 : decode cX0_tryGoal 14 = .ok (.iload_n 3, 1) := by decide +kernel
theorem dX0_tryGoal_15 : decode cX0_tryGoal 15 = .ok (.ishl, 1) := by decide +kernel
theorem dX0_tryGoal_16 : decode cX0_tryGoal 16 = .ok (.ior, 1) := by decide +kernel
theorem dX0_tryGoal_17 : decode cX0_tryGoal 17 = .ok (.istore 7, 2) := by decide +kernel
theorem dX0_tryGoal_19 : decode cX0_tryGoal 19 = .ok (.aload_n 0, 1) := by decide +kernel
theorem dX0_tryGoal_20 : decode cX0_tryGoal 20 = .ok (.getfield 25, 3) := by decide +kernel
theorem dX0_tryGoal_23 : decode cX0_tryGoal 23 = .ok (.iload 5, 2) := by decide +kernel
theorem dX0_tryGoal_25 : decode cX0_tryGoal 25 = .ok (.invokestatic 84, 3) := by decide +kernel
theorem dX0_tryGoal_28 : decode cX0_tryGoal 28 = .ok (.istore 8, 2) := by decide +kernel
theorem dX0_tryGoal_30 : decode cX0_tryGoal 30 = .ok (.aload_n 0, 1) := by decide +kernel
theorem dX0_tryGoal_31 : decode cX0_tryGoal 31 = .ok (.getfield 19, 3) := by decide +kernel
theorem dX0_tryGoal_34 : decode cX0_tryGoal 34 = .ok (.iload_n 3, 1) := by decide +kernel
theorem dX0_tryGoal_35 : decode cX0_tryGoal 35 = .ok (.iload 5, 2) := by decide +kernel
theorem dX0_tryGoal_37 : decode cX0_tryGoal 37 = .ok (.invokestatic 50, 3) := by decide +kernel
theorem dX0_tryGoal_40 : decode cX0_tryGoal 40 = .ok (.aload_n 0, 1) := by decide +kernel
theorem dX0_tryGoal_41 : decode cX0_tryGoal 41 = .ok (.getfield 22, 3) := by decide +kernel
theorem dX0_tryGoal_44 : decode cX0_tryGoal 44 = .ok (.iload 5, 2) := by decide +kernel
theorem dX0_tryGoal_46 : decode cX0_tryGoal 46 = .ok (.iload 7, 2) := by decide +kernel
theorem dX0_tryGoal_48 : decode cX0_tryGoal 48 = .ok (.invokestatic 50, 3) := by decide +kernel
theorem dX0_tryGoal_51 : decode cX0_tryGoal 51 = .ok (.aload_n 0, 1) := by decide +kernel
theorem dX0_tryGoal_52 : decode cX0_tryGoal 52 = .ok (.aload_n 1, 1) := by decide +kernel
theorem dX0_tryGoal_53 : decode cX0_tryGoal 53 = .ok (.iload_n 2, 1) := by decide +kernel
theorem dX0_tryGoal_54 : decode cX0_tryGoal 54 = .ok (.iload_n 3, 1) := by decide +kernel
theorem dX0_tryGoal_55 : decode cX0_tryGoal 55 = .ok (.iconst 1, 1) := by decide +kernel
theorem dX0_tryGoal_56 : decode cX0_tryGoal 56 = .ok (.iadd, 1) := by decide +kernel
theorem dX0_tryGoal_57 : decode cX0_tryGoal 57 = .ok (.iload 4, 2) := by decide +kernel
theorem dX0_tryGoal_59 : decode cX0_tryGoal 59 = .ok (.iload 8, 2) := by decide +kernel
theorem dX0_tryGoal_61 : decode cX0_tryGoal 61 = .ok (.iload 6, 2) := by decide +kernel
theorem dX0_tryGoal_63 : decode cX0_tryGoal 63 = .ok (.invokestatic 88, 3) := by decide +kernel
theorem dX0_tryGoal_66 : decode cX0_tryGoal 66 = .ok (.isub, 1) := by decide +kernel
theorem dX0_tryGoal_67 : decode cX0_tryGoal 67 = .ok (.iload 8, 2) := by decide +kernel
theorem dX0_tryGoal_69 : decode cX0_tryGoal 69 = .ok (.iload 7, 2) := by decide +kernel
theorem dX0_tryGoal_71 : decode cX0_tryGoal 71 = .ok (.invokestatic 88, 3) := by decide +kernel
theorem dX0_tryGoal_74 : decode cX0_tryGoal 74 = .ok (.iadd, 1) := by decide +kernel
theorem dX0_tryGoal_75 : decode cX0_tryGoal 75 = .ok (.invokevirtual 64, 3) := by decide +kernel
theorem dX0_tryGoal_78 : decode cX0_tryGoal 78 = .ok (.aload_n 0, 1) := by decide +kernel
theorem dX0_tryGoal_79 : decode cX0_tryGoal 79 = .ok (.getfield 22, 3) := by decide +kernel
theorem dX0_tryGoal_82 : decode cX0_tryGoal 82 = .ok (.iload 5, 2) := by decide +kernel
theorem dX0_tryGoal_84 : decode cX0_tryGoal 84 = .ok (.iload 6, 2) := by decide +kernel
theorem dX0_tryGoal_86 : decode cX0_tryGoal 86 = .ok (.invokestatic 50, 3) := by decide +kernel
theorem dX0_tryGoal_89 : decode cX0_tryGoal 89 = .ok (.return_, 1) := by decide +kernel
theorem dX0_noteIfBetter_0 : decode cX0_noteIfBetter 0 = .ok (.iload_n 1, 1) := by decide +kernel
theorem dX0_noteIfBetter_1 : decode cX0_noteIfBetter 1 = .ok (.aload_n 0, 1) := by decide +kernel
theorem dX0_noteIfBetter_2 : decode cX0_noteIfBetter 2 = .ok (.getfield 9, 3) := by decide +kernel
theorem dX0_noteIfBetter_5 : decode cX0_noteIfBetter 5 = .ok (.if_icmp .gt 4, 3) := by decide +kernel
theorem dX0_noteIfBetter_8 : decode cX0_noteIfBetter 8 = .ok (.return_, 1) := by decide +kernel
theorem dX0_noteIfBetter_9 : decode cX0_noteIfBetter 9 = .ok (.aload_n 0, 1) := by decide +kernel
theorem dX0_noteIfBetter_10 : decode cX0_noteIfBetter 10 = .ok (.iload_n 1, 1) := by decide +kernel
theorem dX0_noteIfBetter_11 : decode cX0_noteIfBetter 11 = .ok (.putfield 9, 3) := by decide +kernel
theorem dX0_noteIfBetter_14 : decode cX0_noteIfBetter 14 = .ok (.iconst 0, 1) := by decide +kernel
theorem dX0_noteIfBetter_15 : decode cX0_noteIfBetter 15 = .ok (.istore_n 2, 1) := by decide +kernel
theorem dX0_noteIfBetter_16 : decode cX0_noteIfBetter 16 = .ok (.iload_n 2, 1) := by decide +kernel
theorem dX0_noteIfBetter_17 : decode cX0_noteIfBetter 17 = .ok (.iconst 4, 1) := by decide +kernel
theorem dX0_noteIfBetter_18 : decode cX0_noteIfBetter 18 = .ok (.if_icmp .ge 25, 3) := by decide +kernel
theorem dX0_noteIfBetter_21 : decode cX0_noteIfBetter 21 = .ok (.aload_n 0, 1) := by decide +kernel
theorem dX0_noteIfBetter_22 : decode cX0_noteIfBetter 22 = .ok (.getfield 15, 3) := by decide +kernel
theorem dX0_noteIfBetter_25 : decode cX0_noteIfBetter 25 = .ok (.iload_n 2, 1) := by decide +kernel
theorem dX0_noteIfBetter_26 : decode cX0_noteIfBetter 26 = .ok (.aload_n 0, 1) := by decide +kernel
theorem dX0_noteIfBetter_27 : decode cX0_noteIfBetter 27 = .ok (.getfield 19, 3) := by decide +kernel
theorem dX0_noteIfBetter_30 : decode cX0_noteIfBetter 30 = .ok (.iload_n 2, 1) := by decide +kernel
theorem dX0_noteIfBetter_31 : decode cX0_noteIfBetter 31 = .ok (.invokestatic 84, 3) := by decide +kernel
theorem dX0_noteIfBetter_34 : decode cX0_noteIfBetter 34 = .ok (.invokestatic 50, 3) := by decide +kernel
theorem dX0_noteIfBetter_37 : decode cX0_noteIfBetter 37 = .ok (.iinc 2 1, 3) := by decide +kernel
theorem dX0_noteIfBetter_40 : decode cX0_noteIfBetter 40 = .ok (.goto (-24), 3) := by decide +kernel
theorem dX0_noteIfBetter_43 : decode cX0_noteIfBetter 43 = .ok (.return_, 1) := by decide +kernel
theorem dX1_init_0 : decode cX1_init 0 = .ok (.aload_n 0, 1) := by decide +kernel
theorem dX1_init_1 : decode cX1_init 1 = .ok (.invokespecial 3, 3) := by decide +kernel
theorem dX1_init_4 : decode cX1_init 4 = .ok (.aload_n 0, 1) := by decide +kernel
theorem dX1_init_5 : decode cX1_init 5 = .ok (.bipush 8, 2) := by decide +kernel
theorem dX1_init_7 : decode cX1_init 7 = .ok (.newarray .int, 2) := by decide +kernel
theorem dX1_init_9 : decode cX1_init 9 = .ok (.putfield 9, 3) := by decide +kernel
theorem dX1_init_12 : decode cX1_init 12 = .ok (.return_, 1) := by decide +kernel
theorem dX1_form_0 : decode cX1_form 0 = .ok (.iconst 0, 1) := by decide +kernel
theorem dX1_form_1 : decode cX1_form 1 = .ok (.istore_n 3, 1) := by decide +kernel
theorem dX1_form_2 : decode cX1_form 2 = .ok (.iload_n 3, 1) := by decide +kernel
theorem dX1_form_3 : decode cX1_form 3 = .ok (.bipush 8, 2) := by decide +kernel
theorem dX1_form_5 : decode cX1_form 5 = .ok (.if_icmp .ge 18, 3) := by decide +kernel
theorem dX1_form_8 : decode cX1_form 8 = .ok (.aload_n 0, 1) := by decide +kernel
theorem dX1_form_9 : decode cX1_form 9 = .ok (.getfield 9, 3) := by decide +kernel
theorem dX1_form_12 : decode cX1_form 12 = .ok (.iload_n 3, 1) := by decide +kernel
theorem dX1_form_13 : decode cX1_form 13 = .ok (.iload_n 3, 1) := by decide +kernel
theorem dX1_form_14 : decode cX1_form 14 = .ok (.invokestatic 15, 3) := by decide +kernel
theorem dX1_form_17 : decode cX1_form 17 = .ok (.iinc 3 1, 3) := by decide +kernel
theorem dX1_form_20 : decode cX1_form 20 = .ok (.goto (-18), 3) := by decide +kernel
theorem dX1_form_23 : decode cX1_form 23 = .ok (.iconst 0, 1) := by decide +kernel
theorem dX1_form_24 : decode cX1_form 24 = .ok (.istore_n 3, 1) := by decide +kernel
theorem dX1_form_25 : decode cX1_form 25 = .ok (.iload_n 3, 1) := by decide +kernel
theorem dX1_form_26 : decode cX1_form 26 = .ok (.aload_n 1, 1) := by decide +kernel
theorem dX1_form_27 : decode cX1_form 27 = .ok (.getfield 19, 3) := by decide +kernel
theorem dX1_form_30 : decode cX1_form 30 = .ok (.if_icmp .ge 47, 3) := by decide +kernel
theorem dX1_form_33 : decode cX1_form 33 = .ok (.iload_n 2, 1) := by decide +kernel
theorem dX1_form_34 : decode cX1_form 34 = .ok (.iload_n 3, 1) := by decide +kernel
theorem dX1_form_35 : decode cX1_form 35 = .ok (.invokestatic 25, 3) := by decide +kernel
theorem dX1_form_38 : decode cX1_form 38 = .ok (.ifCond .eq 33, 3) := by decide +kernel
theorem dX1_form_41 : decode cX1_form 41 = .ok (.aload_n 0, 1) := by decide +kernel
theorem dX1_form_42 : decode cX1_form 42 = .ok (.aload_n 0, 1) := by decide +kernel
theorem dX1_form_43 : decode cX1_form 43 = .ok (.getfield 9, 3) := by decide +kernel
theorem dX1_form_46 : decode cX1_form 46 = .ok (.aload_n 1, 1) := by decide +kernel
theorem dX1_form_47 : decode cX1_form 47 = .ok (.iload_n 3, 1) := by decide +kernel
theorem dX1_form_48 : decode cX1_form 48 = .ok (.iconst 1, 1) := by decide +kernel
theorem dX1_form_49 : decode cX1_form 49 = .ok (.invokevirtual 29, 3) := by decide +kernel
theorem dX1_form_52 : decode cX1_form 52 = .ok (.invokestatic 33, 3) := by decide +kernel
theorem dX1_form_55 : decode cX1_form 55 = .ok (.aload_n 0, 1) := by decide +kernel
theorem dX1_form_56 : decode cX1_form 56 = .ok (.getfield 9, 3) := by decide +kernel
theorem dX1_form_59 : decode cX1_form 59 = .ok (.aload_n 1, 1) := by decide +kernel
theorem dX1_form_60 : decode cX1_form 60 = .ok (.iload_n 3, 1) := by decide +kernel
theorem dX1_form_61 : decode cX1_form 61 = .ok (.iconst 2, 1) := by decide +kernel
theorem dX1_form_62 : decode cX1_form 62 = .ok (.invokevirtual 29, 3) := by decide +kernel
theorem dX1_form_65 : decode cX1_form 65 = .ok (.invokestatic 33, 3) := by decide +kernel
theorem dX1_form_68 : decode cX1_form 68 = .ok (.invokevirtual 37, 3) := by decide +kernel
theorem dX1_form_71 : decode cX1_form 71 = .ok (.iinc 3 1, 3) := by decide +kernel
theorem dX1_form_74 : decode cX1_form 74 = .ok (.goto (-49), 3) := by decide +kernel
theorem dX1_form_77 : decode cX1_form 77 = .ok (.return_, 1) := by decide +kernel
theorem dX1_merge_0 : decode cX1_merge 0 = .ok (.iload_n 1, 1) := by decide +kernel
theorem dX1_merge_1 : decode cX1_merge 1 = .ok (.iload_n 2, 1) := by decide +kernel
theorem dX1_merge_2 : decode cX1_merge 2 = .ok (.if_icmp .ne 4, 3) := by decide +kernel
theorem dX1_merge_5 : decode cX1_merge 5 = .ok (.return_, 1) := by decide +kernel
theorem dX1_merge_6 : decode cX1_merge 6 = .ok (.iconst 0, 1) := by decide +kernel
theorem dX1_merge_7 : decode cX1_merge 7 = .ok (.istore_n 3, 1) := by decide +kernel
theorem dX1_merge_8 : decode cX1_merge 8 = .ok (.iload_n 3, 1) := by decide +kernel
theorem dX1_merge_9 : decode cX1_merge 9 = .ok (.bipush 8, 2) := by decide +kernel
theorem dX1_merge_11 : decode cX1_merge 11 = .ok (.if_icmp .ge 30, 3) := by decide +kernel
theorem dX1_merge_14 : decode cX1_merge 14 = .ok (.aload_n 0, 1) := by decide +kernel
theorem dX1_merge_15 : decode cX1_merge 15 = .ok (.getfield 9, 3) := by decide +kernel
theorem dX1_merge_18 : decode cX1_merge 18 = .ok (.iload_n 3, 1) := by decide +kernel
theorem dX1_merge_19 : decode cX1_merge 19 = .ok (.invokestatic 33, 3) := by decide +kernel
theorem dX1_merge_22 : decode cX1_merge 22 = .ok (.iload_n 2, 1) := by decide +kernel
theorem dX1_merge_23 : decode cX1_merge 23 = .ok (.if_icmp .ne 12, 3) := by decide +kernel
theorem dX1_merge_26 : decode cX1_merge 26 = .ok (.aload_n 0, 1) := by decide +kernel
theorem dX1_merge_27 : decode cX1_merge 27 = .ok (.getfield 9, 3) := by decide +kernel
theorem dX1_merge_30 : decode cX1_merge 30 = .ok (.iload_n 3, 1) := by decide +kernel
theorem dX1_merge_31 : decode cX1_merge 31 = .ok (.iload_n 1, 1) := by decide +kernel
theorem dX1_merge_32 : decode cX1_merge 32 = .ok (.invokestatic 15, 3) := by decide +kernel
theorem dX1_merge_35 : decode cX1_merge 35 = .ok (.iinc 3 1, 3) := by decide +kernel
theorem dX1_merge_38 : decode cX1_merge 38 = .ok (.goto (-30), 3) := by decide +kernel
theorem dX1_merge_41 : decode cX1_merge 41 = .ok (.return_, 1) := by decide +kernel
theorem dX1_areOne_0 : decode cX1_areOne 0 = .ok (.aload_n 0, 1) := by decide +kernel
theorem dX1_areOne_1 : decode cX1_areOne 1 = .ok (.getfield 9, 3) := by decide +kernel
theorem dX1_areOne_4 : decode cX1_areOne 4 = .ok (.iload_n 1, 1) := by decide +kernel
theorem dX1_areOne_5 : decode cX1_areOne 5 = .ok (.invokestatic 33, 3) := by decide +kernel
theorem dX1_areOne_8 : decode cX1_areOne 8 = .ok (.aload_n 0, 1) := by decide +kernel
theorem dX1_areOne_9 : decode cX1_areOne 9 = .ok (.getfield 9, 3) := by decide +kernel
theorem dX1_areOne_12 : decode cX1_areOne 12 = .ok (.iload_n 2, 1) := by decide +kernel
theorem dX1_areOne_13 : decode cX1_areOne 13 = .ok (.invokestatic 33, 3) := by decide +kernel
theorem dX1_areOne_16 : decode cX1_areOne 16 = .ok (.if_icmp .ne 7, 3) := by decide +kernel
theorem dX1_areOne_19 : decode cX1_areOne 19 = .ok (.iconst 1, 1) := by decide +kernel
theorem dX1_areOne_20 : decode cX1_areOne 20 = .ok (.goto 4, 3) := by decide +kernel
theorem dX1_areOne_23 : decode cX1_areOne 23 = .ok (.iconst 0, 1) := by decide +kernel
theorem dX1_areOne_24 : decode cX1_areOne 24 = .ok (.ireturn, 1) := by decide +kernel
theorem dX1_pairsJoined_0 : decode cX1_pairsJoined 0 = .ok (.aload_n 0, 1) := by decide +kernel
theorem dX1_pairsJoined_1 : decode cX1_pairsJoined 1 = .ok (.iload_n 1, 1) := by decide +kernel
theorem dX1_pairsJoined_2 : decode cX1_pairsJoined 2 = .ok (.iload_n 2, 1) := by decide +kernel
theorem dX1_pairsJoined_3 : decode cX1_pairsJoined 3 = .ok (.invokevirtual 41, 3) := by decide +kernel
theorem dX1_pairsJoined_6 : decode cX1_pairsJoined 6 = .ok (.ifCond .eq 7, 3) := by decide +kernel
theorem dX1_pairsJoined_9 : decode cX1_pairsJoined 9 = .ok (.iconst 0, 1) := by decide +kernel
theorem dX1_pairsJoined_10 : decode cX1_pairsJoined 10 = .ok (.goto 14, 3) := by decide +kernel
theorem dX1_pairsJoined_13 : decode cX1_pairsJoined 13 = .ok (.aload_n 0, 1) := by decide +kernel
theorem dX1_pairsJoined_14 : decode cX1_pairsJoined 14 = .ok (.iload_n 1, 1) := by decide +kernel
theorem dX1_pairsJoined_15 : decode cX1_pairsJoined 15 = .ok (.invokevirtual 44, 3) := by decide +kernel
theorem dX1_pairsJoined_18 : decode cX1_pairsJoined 18 = .ok (.aload_n 0, 1) := by decide +kernel
theorem dX1_pairsJoined_19 : decode cX1_pairsJoined 19 = .ok (.iload_n 2, 1) := by decide +kernel
theorem dX1_pairsJoined_20 : decode cX1_pairsJoined 20 = .ok (.invokevirtual 44, 3) := by decide +kernel
theorem dX1_pairsJoined_23 : decode cX1_pairsJoined 23 = .ok (.imul, 1) := by decide +kernel
theorem dX1_pairsJoined_24 : decode cX1_pairsJoined 24 = .ok (.ireturn, 1) := by decide +kernel
theorem dX1_sizeWith_0 : decode cX1_sizeWith 0 = .ok (.iconst 0, 1) := by decide +kernel
theorem dX1_sizeWith_1 : decode cX1_sizeWith 1 = .ok (.istore_n 2, 1) := by decide +kernel
theorem dX1_sizeWith_2 : decode cX1_sizeWith 2 = .ok (.iconst 0, 1) := by decide +kernel
theorem dX1_sizeWith_3 : decode cX1_sizeWith 3 = .ok (.istore_n 3, 1) := by decide +kernel
theorem dX1_sizeWith_4 : decode cX1_sizeWith 4 = .ok (.iload_n 3, 1) := by decide +kernel
theorem dX1_sizeWith_5 : decode cX1_sizeWith 5 = .ok (.bipush 8, 2) := by decide +kernel
theorem dX1_sizeWith_7 : decode cX1_sizeWith 7 = .ok (.if_icmp .ge 21, 3) := by decide +kernel
theorem dX1_sizeWith_10 : decode cX1_sizeWith 10 = .ok (.iload_n 2, 1) := by decide +kernel
theorem dX1_sizeWith_11 : decode cX1_sizeWith 11 = .ok (.aload_n 0, 1) := by decide +kernel
theorem dX1_sizeWith_12 : decode cX1_sizeWith 12 = .ok (.iload_n 3, 1) := by decide +kernel
theorem dX1_sizeWith_13 : decode cX1_sizeWith 13 = .ok (.iload_n 1, 1) := by decide +kernel
theorem dX1_sizeWith_14 : decode cX1_sizeWith 14 = .ok (.invokevirtual 41, 3) := by decide +kernel
theorem dX1_sizeWith_17 : decode cX1_sizeWith 17 = .ok (.invokestatic 48, 3) := by decide +kernel
theorem dX1_sizeWith_20 : decode cX1_sizeWith 20 = .ok (.iadd, 1) := by decide +kernel
theorem dX1_sizeWith_21 : decode cX1_sizeWith 21 = .ok (.istore_n 2, 1) := by decide +kernel
theorem dX1_sizeWith_22 : decode cX1_sizeWith 22 = .ok (.iinc 3 1, 3) := by decide +kernel
theorem dX1_sizeWith_25 : decode cX1_sizeWith 25 = .ok (.goto (-21), 3) := by decide +kernel
theorem dX1_sizeWith_28 : decode cX1_sizeWith 28 = .ok (.iload_n 2, 1) := by decide +kernel
theorem dX1_sizeWith_29 : decode cX1_sizeWith 29 = .ok (.ireturn, 1) := by decide +kernel
theorem dX1_howMany_0 : decode cX1_howMany 0 = .ok (.iconst 0, 1) := by decide +kernel
theorem dX1_howMany_1 : decode cX1_howMany 1 = .ok (.istore_n 2, 1) := by decide +kernel
theorem dX1_howMany_2 : decode cX1_howMany 2 = .ok (.iconst 0, 1) := by decide +kernel
theorem dX1_howMany_3 : decode cX1_howMany 3 = .ok (.istore_n 3, 1) := by decide +kernel
theorem dX1_howMany_4 : decode cX1_howMany 4 = .ok (.iload_n 3, 1) := by decide +kernel
theorem dX1_howMany_5 : decode cX1_howMany 5 = .ok (.aload_n 1, 1) := by decide +kernel
theorem dX1_howMany_6 : decode cX1_howMany 6 = .ok (.getfield 52, 3) := by decide +kernel
theorem dX1_howMany_9 : decode cX1_howMany 9 = .ok (.if_icmp .ge 51, 3) := by decide +kernel
theorem dX1_howMany_12 : decode cX1_howMany 12 = .ok (.iconst 0, 1) := by decide +kernel
theorem dX1_howMany_13 : decode cX1_howMany 13 = .ok (.istore 4, 2) := by decide +kernel
theorem dX1_howMany_15 : decode cX1_howMany 15 = .ok (.iload 4, 2) := by decide +kernel
theorem dX1_howMany_17 : decode cX1_howMany 17 = .ok (.iload_n 3, 1) := by decide +kernel
theorem dX1_howMany_18 : decode cX1_howMany 18 = .ok (.if_icmp .ge 19, 3) := by decide +kernel
theorem dX1_howMany_21 : decode cX1_howMany 21 = .ok (.aload_n 0, 1) := by decide +kernel
theorem dX1_howMany_22 : decode cX1_howMany 22 = .ok (.iload 4, 2) := by decide +kernel
theorem dX1_howMany_24 : decode cX1_howMany 24 = .ok (.iload_n 3, 1) := by decide +kernel
theorem dX1_howMany_25 : decode cX1_howMany 25 = .ok (.invokevirtual 41, 3) := by decide +kernel
theorem dX1_howMany_28 : decode cX1_howMany 28 = .ok (.ifCond .ne 9, 3) := by decide +kernel
theorem dX1_howMany_31 : decode cX1_howMany 31 = .ok (.iinc 4 1, 3) := by decide +kernel
theorem dX1_howMany_34 : decode cX1_howMany 34 = .ok (.goto (-19), 3) := by decide +kernel
theorem dX1_howMany_37 : decode cX1_howMany 37 = .ok (.iload_n 2, 1) := by decide +kernel
theorem dX1_howMany_38 : decode cX1_howMany 38 = .ok (.iload 4, 2) := by decide +kernel
theorem dX1_howMany_40 : decode cX1_howMany 40 = .ok (.iload_n 3, 1) := by decide +kernel
theorem dX1_howMany_41 : decode cX1_howMany 41 = .ok (.if_icmp .ne 7, 3) := by decide +kernel
theorem dX1_howMany_44 : decode cX1_howMany 44 = .ok (.iconst 1, 1) := by decide +kernel
theorem dX1_howMany_45 : decode cX1_howMany 45 = .ok (.goto 4, 3) := by decide +kernel
theorem dX1_howMany_48 : decode cX1_howMany 48 = .ok (.iconst 0, 1) := by decide +kernel
theorem dX1_howMany_49 : decode cX1_howMany 49 = .ok (.invokestatic 48, 3) := by decide +kernel
theorem dX1_howMany_52 : decode cX1_howMany 52 = .ok (.iadd, 1) := by decide +kernel
theorem dX1_howMany_53 : decode cX1_howMany 53 = .ok (.istore_n 2, 1) := by decide +kernel
theorem dX1_howMany_54 : decode cX1_howMany 54 = .ok (.iinc 3 1, 3) := by decide +kernel
theorem dX1_howMany_57 : decode cX1_howMany 57 = .ok (.goto (-53), 3) := by decide +kernel
theorem dX1_howMany_60 : decode cX1_howMany 60 = .ok (.iload_n 2, 1) := by decide +kernel
theorem dX1_howMany_61 : decode cX1_howMany 61 = .ok (.ireturn, 1) := by decide +kernel
theorem dX2_init_0 : decode cX2_init 0 = .ok (.aload_n 0, 1) := by decide +kernel
theorem dX2_init_1 : decode cX2_init 1 = .ok (.invokespecial 3, 3) := by decide +kernel
theorem dX2_init_4 : decode cX2_init 4 = .ok (.aload_n 0, 1) := by decide +kernel
theorem dX2_init_5 : decode cX2_init 5 = .ok (.bipush 40, 2) := by decide +kernel
theorem dX2_init_7 : decode cX2_init 7 = .ok (.newarray .int, 2) := by decide +kernel
theorem dX2_init_9 : decode cX2_init 9 = .ok (.putfield 9, 3) := by decide +kernel
theorem dX2_init_12 : decode cX2_init 12 = .ok (.aload_n 0, 1) := by decide +kernel
theorem dX2_init_13 : decode cX2_init 13 = .ok (.bipush 12, 2) := by decide +kernel
theorem dX2_init_15 : decode cX2_init 15 = .ok (.newarray .int, 2) := by decide +kernel
theorem dX2_init_17 : decode cX2_init 17 = .ok (.putfield 15, 3) := by decide +kernel
theorem dX2_init_20 : decode cX2_init 20 = .ok (.aload_n 0, 1) := by decide +kernel
theorem dX2_init_21 : decode cX2_init 21 = .ok (.bipush 12, 2) := by decide +kernel
theorem dX2_init_23 : decode cX2_init 23 = .ok (.newarray .int, 2) := by decide +kernel
theorem dX2_init_25 : decode cX2_init 25 = .ok (.putfield 18, 3) := by decide +kernel
theorem dX2_init_28 : decode cX2_init 28 = .ok (.return_, 1) := by decide +kernel
theorem dX2_clear_0 : decode cX2_clear 0 = .ok (.aload_n 0, 1) := by decide +kernel
theorem dX2_clear_1 : decode cX2_clear 1 = .ok (.iconst 4, 1) := by decide +kernel
theorem dX2_clear_2 : decode cX2_clear 2 = .ok (.putfield 21, 3) := by decide +kernel
theorem dX2_clear_5 : decode cX2_clear 5 = .ok (.aload_n 0, 1) := by decide +kernel
theorem dX2_clear_6 : decode cX2_clear 6 = .ok (.iconst 0, 1) := by decide +kernel
theorem dX2_clear_7 : decode cX2_clear 7 = .ok (.putfield 25, 3) := by decide +kernel
theorem dX2_clear_10 : decode cX2_clear 10 = .ok (.aload_n 0, 1) := by decide +kernel
theorem dX2_clear_11 : decode cX2_clear 11 = .ok (.iconst 0, 1) := by decide +kernel
theorem dX2_clear_12 : decode cX2_clear 12 = .ok (.putfield 28, 3) := by decide +kernel
theorem dX2_clear_15 : decode cX2_clear 15 = .ok (.aload_n 0, 1) := by decide +kernel
theorem dX2_clear_16 : decode cX2_clear 16 = .ok (.bipush 12, 2) := by decide +kernel
theorem dX2_clear_18 : decode cX2_clear 18 = .ok (.putfield 31, 3) := by decide +kernel
theorem dX2_clear_21 : decode cX2_clear 21 = .ok (.aload_n 0, 1) := by decide +kernel
theorem dX2_clear_22 : decode cX2_clear 22 = .ok (.iconst 0, 1) := by decide +kernel
theorem dX2_clear_23 : decode cX2_clear 23 = .ok (.putfield 34, 3) := by decide +kernel
theorem dX2_clear_26 : decode cX2_clear 26 = .ok (.return_, 1) := by decide +kernel
theorem dX2_addGap_0 : decode cX2_addGap 0 = .ok (.iconst 0, 1) := by decide +kernel
theorem dX2_addGap_1 : decode cX2_addGap 1 = .ok (.istore_n 2, 1) := by decide +kernel
theorem dX2_addGap_2 : decode cX2_addGap 2 = .ok (.iload_n 2, 1) := by decide +kernel
theorem dX2_addGap_3 : decode cX2_addGap 3 = .ok (.iconst 5, 1) := by decide +kernel
theorem dX2_addGap_4 : decode cX2_addGap 4 = .ok (.if_icmp .ge 29, 3) := by decide +kernel
theorem dX2_addGap_7 : decode cX2_addGap 7 = .ok (.aload_n 0, 1) := by decide +kernel
theorem dX2_addGap_8 : decode cX2_addGap 8 = .ok (.getfield 9, 3) := by decide +kernel
theorem dX2_addGap_11 : decode cX2_addGap 11 = .ok (.aload_n 0, 1) := by decide +kernel
theorem dX2_addGap_12 : decode cX2_addGap 12 = .ok (.getfield 25, 3) := by decide +kernel
theorem dX2_addGap_15 : decode cX2_addGap 15 = .ok (.iconst 5, 1) := by decide +kernel
theorem dX2_addGap_16 : decode cX2_addGap 16 = .ok (.imul, 1) := by decide +kernel
theorem dX2_addGap_17 : decode cX2_addGap 17 = .ok (.iload_n 2, 1) := by decide +kernel
theorem dX2_addGap_18 : decode cX2_addGap 18 = .ok (.iadd, 1) := by decide +kernel
theorem dX2_addGap_19 : decode cX2_addGap 19 = .ok (.aload_n 1, 1) := by decide +kernel
theorem dX2_addGap_20 : decode cX2_addGap 20 = .ok (.iload_n 2, 1) := by decide +kernel
theorem dX2_addGap_21 : decode cX2_addGap 21 = .ok (.invokestatic 37, 3) := by decide +kernel
theorem dX2_addGap_24 : decode cX2_addGap 24 = .ok (.invokestatic 41, 3) := by decide +kernel
theorem dX2_addGap_27 : decode cX2_addGap 27 = .ok (.iinc 2 1, 3) := by decide +kernel
theorem dX2_addGap_30 : decode cX2_addGap 30 = .ok (.goto (-28), 3) := by decide +kernel
theorem dX2_addGap_33 : decode cX2_addGap 33 = .ok (.aload_n 0, 1) := by decide +kernel
theorem dX2_addGap_34 : decode cX2_addGap 34 = .ok (.dup, 1) := by decide +kernel
theorem dX2_addGap_35 : decode cX2_addGap 35 = .ok (.getfield 25, 3) := by decide +kernel
theorem dX2_addGap_38 : decode cX2_addGap 38 = .ok (.iconst 1, 1) := by decide +kernel
theorem dX2_addGap_39 : decode cX2_addGap 39 = .ok (.iadd, 1) := by decide +kernel
theorem dX2_addGap_40 : decode cX2_addGap 40 = .ok (.putfield 25, 3) := by decide +kernel
theorem dX2_addGap_43 : decode cX2_addGap 43 = .ok (.return_, 1) := by decide +kernel
theorem dX2_addStitcher_0 : decode cX2_addStitcher 0 = .ok (.iconst 0, 1) := by decide +kernel
theorem dX2_addStitcher_1 : decode cX2_addStitcher 1 = .ok (.istore_n 2, 1) := by decide +kernel
theorem dX2_addStitcher_2 : decode cX2_addStitcher 2 = .ok (.iload_n 2, 1) := by decide +kernel
theorem dX2_addStitcher_3 : decode cX2_addStitcher 3 = .ok (.iconst 3, 1) := by decide +kernel
theorem dX2_addStitcher_4 : decode cX2_addStitcher 4 = .ok (.if_icmp .ge 29, 3) := by decide +kernel
theorem dX2_addStitcher_7 : decode cX2_addStitcher 7 = .ok (.aload_n 0, 1) := by decide +kernel
theorem dX2_addStitcher_8 : decode cX2_addStitcher 8 = .ok (.getfield 15, 3) := by decide +kernel
theorem dX2_addStitcher_11 : decode cX2_addStitcher 11 = .ok (.aload_n 0, 1) := by decide +kernel
theorem dX2_addStitcher_12 : decode cX2_addStitcher 12 = .ok (.getfield 28, 3) := by decide +kernel
theorem dX2_addStitcher_15 : decode cX2_addStitcher 15 = .ok (.iconst 3, 1) := by decide +kernel
theorem dX2_addStitcher_16 : decode cX2_addStitcher 16 = .ok (.imul, 1) := by decide +kernel
theorem dX2_addStitcher_17 : decode cX2_addStitcher 17 = .ok (.iload_n 2, 1) := by decide +kernel
theorem dX2_addStitcher_18 : decode cX2_addStitcher 18 = .ok (.iadd, 1) := by decide +kernel
theorem dX2_addStitcher_19 : decode cX2_addStitcher 19 = .ok (.aload_n 1, 1) := by decide +kernel
theorem dX2_addStitcher_20 : decode cX2_addStitcher 20 = .ok (.iload_n 2, 1) := by decide +kernel
theorem dX2_addStitcher_21 : decode cX2_addStitcher 21 = .ok (.invokestatic 37, 3) := by decide +kernel
theorem dX2_addStitcher_24 : decode cX2_addStitcher 24 = .ok (.invokestatic 41, 3) := by decide +kernel
theorem dX2_addStitcher_27 : decode cX2_addStitcher 27 = .ok (.iinc 2 1, 3) := by decide +kernel
theorem dX2_addStitcher_30 : decode cX2_addStitcher 30 = .ok (.goto (-28), 3) := by decide +kernel
theorem dX2_addStitcher_33 : decode cX2_addStitcher 33 = .ok (.aload_n 0, 1) := by decide +kernel
theorem dX2_addStitcher_34 : decode cX2_addStitcher 34 = .ok (.dup, 1) := by decide +kernel
theorem dX2_addStitcher_35 : decode cX2_addStitcher 35 = .ok (.getfield 28, 3) := by decide +kernel
theorem dX2_addStitcher_38 : decode cX2_addStitcher 38 = .ok (.iconst 1, 1) := by decide +kernel
theorem dX2_addStitcher_39 : decode cX2_addStitcher 39 = .ok (.iadd, 1) := by decide +kernel
theorem dX2_addStitcher_40 : decode cX2_addStitcher 40 = .ok (.putfield 28, 3) := by decide +kernel
theorem dX2_addStitcher_43 : decode cX2_addStitcher 43 = .ok (.return_, 1) := by decide +kernel
theorem dX2_addRain_0 : decode cX2_addRain 0 = .ok (.aload_n 0, 1) := by decide +kernel
theorem dX2_addRain_1 : decode cX2_addRain 1 = .ok (.getfield 18, 3) := by decide +kernel
theorem dX2_addRain_4 : decode cX2_addRain 4 = .ok (.aload_n 0, 1) := by decide +kernel
theorem dX2_addRain_5 : decode cX2_addRain 5 = .ok (.getfield 34, 3) := by decide +kernel
theorem dX2_addRain_8 : decode cX2_addRain 8 = .ok (.iload_n 1, 1) := by decide +kernel
theorem dX2_addRain_9 : decode cX2_addRain 9 = .ok (.invokestatic 41, 3) := by decide +kernel
theorem dX2_addRain_12 : decode cX2_addRain 12 = .ok (.aload_n 0, 1) := by decide +kernel
theorem dX2_addRain_13 : decode cX2_addRain 13 = .ok (.dup, 1) := by decide +kernel
theorem dX2_addRain_14 : decode cX2_addRain 14 = .ok (.getfield 34, 3) := by decide +kernel
theorem dX2_addRain_17 : decode cX2_addRain 17 = .ok (.iconst 1, 1) := by decide +kernel
theorem dX2_addRain_18 : decode cX2_addRain 18 = .ok (.iadd, 1) := by decide +kernel
theorem dX2_addRain_19 : decode cX2_addRain 19 = .ok (.putfield 34, 3) := by decide +kernel
theorem dX2_addRain_22 : decode cX2_addRain 22 = .ok (.return_, 1) := by decide +kernel
theorem dX2_ofGap_0 : decode cX2_ofGap 0 = .ok (.iload_n 1, 1) := by decide +kernel
theorem dX2_ofGap_1 : decode cX2_ofGap 1 = .ok (.iconst 5, 1) := by decide +kernel
theorem dX2_ofGap_2 : decode cX2_ofGap 2 = .ok (.imul, 1) := by decide +kernel
theorem dX2_ofGap_3 : decode cX2_ofGap 3 = .ok (.iload_n 2, 1) := by decide +kernel
theorem dX2_ofGap_4 : decode cX2_ofGap 4 = .ok (.iadd, 1) := by decide +kernel
theorem dX2_ofGap_5 : decode cX2_ofGap 5 = .ok (.istore_n 3, 1) := by decide +kernel
theorem dX2_ofGap_6 : decode cX2_ofGap 6 = .ok (.iload_n 3, 1) := by decide +kernel
theorem dX2_ofGap_7 : decode cX2_ofGap 7 = .ok (.ifCond .lt 21, 3) := by decide +kernel
theorem dX2_ofGap_10 : decode cX2_ofGap 10 = .ok (.iload_n 3, 1) := by decide +kernel
theorem dX2_ofGap_11 : decode cX2_ofGap 11 = .ok (.aload_n 0, 1) := by decide +kernel
theorem dX2_ofGap_12 : decode cX2_ofGap 12 = .ok (.getfield 9, 3) := by decide +kernel
theorem dX2_ofGap_15 : decode cX2_ofGap 15 = .ok (.arraylength, 1) := by decide +kernel
theorem dX2_ofGap_16 : decode cX2_ofGap 16 = .ok (.if_icmp .ge 12, 3) := by decide +kernel
theorem dX2_ofGap_19 : decode cX2_ofGap 19 = .ok (.aload_n 0, 1) := by decide +kernel
theorem dX2_ofGap_20 : decode cX2_ofGap 20 = .ok (.getfield 9, 3) := by decide +kernel
theorem dX2_ofGap_23 : decode cX2_ofGap 23 = .ok (.iload_n 3, 1) := by decide +kernel
theorem dX2_ofGap_24 : decode cX2_ofGap 24 = .ok (.iaload, 1) := by decide +kernel
theorem dX2_ofGap_25 : decode cX2_ofGap 25 = .ok (.goto 4, 3) := by decide +kernel
theorem dX2_ofGap_28 : decode cX2_ofGap 28 = .ok (.iconst 0, 1) := by decide +kernel
theorem dX2_ofGap_29 : decode cX2_ofGap 29 = .ok (.ireturn, 1) := by decide +kernel
theorem dX2_ofStitcher_0 : decode cX2_ofStitcher 0 = .ok (.iload_n 1, 1) := by decide +kernel
theorem dX2_ofStitcher_1 : decode cX2_ofStitcher 1 = .ok (.iconst 3, 1) := by decide +kernel
theorem dX2_ofStitcher_2 : decode cX2_ofStitcher 2 = .ok (.imul, 1) := by decide +kernel
theorem dX2_ofStitcher_3 : decode cX2_ofStitcher 3 = .ok (.iload_n 2, 1) := by decide +kernel
theorem dX2_ofStitcher_4 : decode cX2_ofStitcher 4 = .ok (.iadd, 1) := by decide +kernel
theorem dX2_ofStitcher_5 : decode cX2_ofStitcher 5 = .ok (.istore_n 3, 1) := by decide +kernel
theorem dX2_ofStitcher_6 : decode cX2_ofStitcher 6 = .ok (.iload_n 3, 1) := by decide +kernel
theorem dX2_ofStitcher_7 : decode cX2_ofStitcher 7 = .ok (.ifCond .lt 21, 3) := by decide +kernel
theorem dX2_ofStitcher_10 : decode cX2_ofStitcher 10 = .ok (.iload_n 3, 1) := by decide +kernel
theorem dX2_ofStitcher_11 : decode cX2_ofStitcher 11 = .ok (.aload_n 0, 1) := by decide +kernel
theorem dX2_ofStitcher_12 : decode cX2_ofStitcher 12 = .ok (.getfield 15, 3) := by decide +kernel
theorem dX2_ofStitcher_15 : decode cX2_ofStitcher 15 = .ok (.arraylength, 1) := by decide +kernel
theorem dX2_ofStitcher_16 : decode cX2_ofStitcher 16 = .ok (.if_icmp .ge 12, 3) := by decide +kernel
theorem dX2_ofStitcher_19 : decode cX2_ofStitcher 19 = .ok (.aload_n 0, 1) := by decide +kernel
theorem dX2_ofStitcher_20 : decode cX2_ofStitcher 20 = .ok (.getfield 15, 3) := by decide +kernel
theorem dX2_ofStitcher_23 : decode cX2_ofStitcher 23 = .ok (.iload_n 3, 1) := by decide +kernel
theorem dX2_ofStitcher_24 : decode cX2_ofStitcher 24 = .ok (.iaload, 1) := by decide +kernel
theorem dX2_ofStitcher_25 : decode cX2_ofStitcher 25 = .ok (.goto 4, 3) := by decide +kernel
theorem dX2_ofStitcher_28 : decode cX2_ofStitcher 28 = .ok (.iconst 0, 1) := by decide +kernel
theorem dX2_ofStitcher_29 : decode cX2_ofStitcher 29 = .ok (.ireturn, 1) := by decide +kernel
theorem dX2_isLight_0 : decode cX2_isLight 0 = .ok (.iload_n 1, 1) := by decide +kernel
theorem dX2_isLight_1 : decode cX2_isLight 1 = .ok (.bipush 24, 2) := by decide +kernel
theorem dX2_isLight_3 : decode cX2_isLight 3 = .ok (.irem, 1) := by decide +kernel
theorem dX2_isLight_4 : decode cX2_isLight 4 = .ok (.aload_n 0, 1) := by decide +kernel
theorem dX2_isLight_5 : decode cX2_isLight 5 = .ok (.getfield 31, 3) := by decide +kernel
theorem dX2_isLight_8 : decode cX2_isLight 8 = .ok (.if_icmp .ge 7, 3) := by decide +kernel
theorem dX2_isLight_11 : decode cX2_isLight 11 = .ok (.iconst 1, 1) := by decide +kernel
theorem dX2_isLight_12 : decode cX2_isLight 12 = .ok (.goto 4, 3) := by decide +kernel
theorem dX2_isLight_15 : decode cX2_isLight 15 = .ok (.iconst 0, 1) := by decide +kernel
theorem dX2_isLight_16 : decode cX2_isLight 16 = .ok (.ireturn, 1) := by decide +kernel
theorem dX2_lightLeft_0 : decode cX2_lightLeft 0 = .ok (.aload_n 0, 1) := by decide +kernel
theorem dX2_lightLeft_1 : decode cX2_lightLeft 1 = .ok (.getfield 31, 3) := by decide +kernel
theorem dX2_lightLeft_4 : decode cX2_lightLeft 4 = .ok (.bipush 24, 2) := by decide +kernel
theorem dX2_lightLeft_6 : decode cX2_lightLeft 6 = .ok (.if_icmp .lt 8, 3) := by decide +kernel
theorem dX2_lightLeft_9 : decode cX2_lightLeft 9 = .ok (.bipush 24, 2) := by decide +kernel
theorem dX2_lightLeft_11 : decode cX2_lightLeft 11 = .ok (.goto 16, 3) := by decide +kernel
theorem dX2_lightLeft_14 : decode cX2_lightLeft 14 = .ok (.iconst 0, 1) := by decide +kernel
theorem dX2_lightLeft_15 : decode cX2_lightLeft 15 = .ok (.aload_n 0, 1) := by decide +kernel
theorem dX2_lightLeft_16 : decode cX2_lightLeft 16 = .ok (.getfield 31, 3) := by decide +kernel
theorem dX2_lightLeft_19 : decode cX2_lightLeft 19 = .ok (.iload_n 1, 1) := by decide +kernel
theorem dX2_lightLeft_20 : decode cX2_lightLeft 20 = .ok (.bipush 24, 2) := by decide +kernel
theorem dX2_lightLeft_22 : decode cX2_lightLeft 22 = .ok (.irem, 1) := by decide +kernel
theorem dX2_lightLeft_23 : decode cX2_lightLeft 23 = .ok (.isub, 1) := by decide +kernel
theorem dX2_lightLeft_24 : decode cX2_lightLeft 24 = .ok (.invokestatic 45, 3) := by decide +kernel
theorem dX2_lightLeft_27 : decode cX2_lightLeft 27 = .ok (.ireturn, 1) := by decide +kernel
theorem dX2_rainsIn_0 : decode cX2_rainsIn 0 = .ok (.aload_n 0, 1) := by decide +kernel
theorem dX2_rainsIn_1 : decode cX2_rainsIn 1 = .ok (.getfield 34, 3) := by decide +kernel
theorem dX2_rainsIn_4 : decode cX2_rainsIn 4 = .ok (.ifCond .le 24, 3) := by decide +kernel
theorem dX2_rainsIn_7 : decode cX2_rainsIn 7 = .ok (.aload_n 0, 1) := by decide +kernel
theorem dX2_rainsIn_8 : decode cX2_rainsIn 8 = .ok (.getfield 18, 3) := by decide +kernel
theorem dX2_rainsIn_11 : decode cX2_rainsIn 11 = .ok (.iload_n 1, 1) := by decide +kernel
theorem dX2_rainsIn_12 : decode cX2_rainsIn 12 = .ok (.aload_n 0, 1) := by decide +kernel
theorem dX2_rainsIn_13 : decode cX2_rainsIn 13 = .ok (.getfield 34, 3) := by decide +kernel
theorem dX2_rainsIn_16 : decode cX2_rainsIn 16 = .ok (.irem, 1) := by decide +kernel
theorem dX2_rainsIn_17 : decode cX2_rainsIn 17 = .ok (.invokestatic 37, 3) := by decide +kernel
theorem dX2_rainsIn_20 : decode cX2_rainsIn 20 = .ok (.iconst 1, 1) := by decide +kernel
theorem dX2_rainsIn_21 : decode cX2_rainsIn 21 = .ok (.if_icmp .ne 7, 3) := by decide +kernel
theorem dX2_rainsIn_24 : decode cX2_rainsIn 24 = .ok (.iconst 1, 1) := by decide +kernel
theorem dX2_rainsIn_25 : decode cX2_rainsIn 25 = .ok (.goto 4, 3) := by decide +kernel
theorem dX2_rainsIn_28 : decode cX2_rainsIn 28 = .ok (.iconst 0, 1) := by decide +kernel
theorem dX2_rainsIn_29 : decode cX2_rainsIn 29 = .ok (.ireturn, 1) := by decide +kernel
theorem dX2_sewnInHour_0 : decode cX2_sewnInHour 0 = .ok (.aload_n 0, 1) := by decide +kernel
theorem dX2_sewnInHour_1 : decode cX2_sewnInHour 1 = .ok (.iload_n 1, 1) := by decide +kernel
theorem dX2_sewnInHour_2 : decode cX2_sewnInHour 2 = .ok (.iconst 0, 1) := by decide +kernel
theorem dX2_sewnInHour_3 : decode cX2_sewnInHour 3 = .ok (.invokevirtual 51, 3) := by decide +kernel
theorem dX2_sewnInHour_6 : decode cX2_sewnInHour 6 = .ok (.istore_n 3, 1) := by decide +kernel
theorem dX2_sewnInHour_7 : decode cX2_sewnInHour 7 = .ok (.aload_n 0, 1) := by decide +kernel
theorem dX2_sewnInHour_8 : decode cX2_sewnInHour 8 = .ok (.iload_n 2, 1) := by decide +kernel
theorem dX2_sewnInHour_9 : decode cX2_sewnInHour 9 = .ok (.iconst 0, 1) := by decide +kernel
theorem dX2_sewnInHour_10 : decode cX2_sewnInHour 10 = .ok (.invokevirtual 54, 3) := by decide +kernel
theorem dX2_sewnInHour_13 : decode cX2_sewnInHour 13 = .ok (.istore 4, 2) := by decide +kernel
theorem dX2_sewnInHour_15 : decode cX2_sewnInHour 15 = .ok (.iload 4, 2) := by decide +kernel
theorem dX2_sewnInHour_17 : decode cX2_sewnInHour 17 = .ok (.iconst 1, 1) := by decide +kernel
theorem dX2_sewnInHour_18 : decode cX2_sewnInHour 18 = .ok (.if_icmp .ne 14, 3) := by decide +kernel
theorem dX2_sewnInHour_21 : decode cX2_sewnInHour 21 = .ok (.iload_n 3, 1) := by decide +kernel
theorem dX2_sewnInHour_22 : decode cX2_sewnInHour 22 = .ok (.iconst 1, 1) := by decide +kernel
theorem dX2_sewnInHour_23 : decode cX2_sewnInHour 23 = .ok (.if_icmp .ne 7, 3) := by decide +kernel
theorem dX2_sewnInHour_26 : decode cX2_sewnInHour 26 = .ok (.iconst 4, 1) := by decide +kernel
theorem dX2_sewnInHour_27 : decode cX2_sewnInHour 27 = .ok (.goto 4, 3) := by decide +kernel
theorem dX2_sewnInHour_30 : decode cX2_sewnInHour 30 = .ok (.iconst 0, 1) := by decide +kernel
theorem dX2_sewnInHour_31 : decode cX2_sewnInHour 31 = .ok (.ireturn, 1) := by decide +kernel
theorem dX2_sewnInHour_32 : decode cX2_sewnInHour 32 = .ok (.iload_n 3, 1) := by decide +kernel
theorem dX2_sewnInHour_33 : decode cX2_sewnInHour 33 = .ok (.tableswitch 43 0 2 #[27, 29, 31], 27) := by decide +kernel
theorem dX2_sewnInHour_60 : decode cX2_sewnInHour 60 = .ok (.iconst 2, 1) := by decide +kernel
theorem dX2_sewnInHour_61 : decode cX2_sewnInHour 61 = .ok (.ireturn, 1) := by decide +kernel
theorem dX2_sewnInHour_62 : decode cX2_sewnInHour 62 = .ok (.iconst 1, 1) := by decide +kernel
theorem dX2_sewnInHour_63 : decode cX2_sewnInHour 63 = .ok (.ireturn, 1) := by decide +kernel
theorem dX2_sewnInHour_64 : decode cX2_sewnInHour 64 = .ok (.iload 4, 2) := by decide +kernel
theorem dX2_sewnInHour_66 : decode cX2_sewnInHour 66 = .ok (.iconst 3, 1) := by decide +kernel
theorem dX2_sewnInHour_67 : decode cX2_sewnInHour 67 = .ok (.if_icmp .ne 7, 3) := by decide +kernel
theorem dX2_sewnInHour_70 : decode cX2_sewnInHour 70 = .ok (.iconst 0, 1) := by decide +kernel
theorem dX2_sewnInHour_71 : decode cX2_sewnInHour 71 = .ok (.goto 4, 3) := by decide +kernel
theorem dX2_sewnInHour_74 : decode cX2_sewnInHour 74 = .ok (.iconst 4, 1) := by decide +kernel
theorem dX2_sewnInHour_75 : decode cX2_sewnInHour 75 = .ok (.ireturn, 1) := by decide +kernel
theorem dX2_sewnInHour_76 : decode cX2_sewnInHour 76 = .ok (.aload_n 0, 1) := by decide +kernel
theorem dX2_sewnInHour_77 : decode cX2_sewnInHour 77 = .ok (.iload_n 2, 1) := by decide +kernel
theorem dX2_sewnInHour_78 : decode cX2_sewnInHour 78 = .ok (.iconst 4, 1) := by decide +kernel
theorem dX2_sewnInHour_79 : decode cX2_sewnInHour 79 = .ok (.invokevirtual 54, 3) := by decide +kernel
theorem dX2_sewnInHour_82 : decode cX2_sewnInHour 82 = .ok (.bipush 6, 2) := by decide +kernel
theorem dX2_sewnInHour_84 : decode cX2_sewnInHour 84 = .ok (.if_icmp .le 7, 3) := by decide +kernel
theorem dX2_sewnInHour_87 : decode cX2_sewnInHour 87 = .ok (.iconst 0, 1) := by decide +kernel
theorem dX2_sewnInHour_88 : decode cX2_sewnInHour 88 = .ok (.goto 4, 3) := by decide +kernel
theorem dX2_sewnInHour_91 : decode cX2_sewnInHour 91 = .ok (.iconst 1, 1) := by decide +kernel
theorem dX2_sewnInHour_92 : decode cX2_sewnInHour 92 = .ok (.ireturn, 1) := by decide +kernel
theorem dX2_oneSeamOn_0 : decode cX2_oneSeamOn 0 = .ok (.iload_n 1, 1) := by decide +kernel
theorem dX2_oneSeamOn_1 : decode cX2_oneSeamOn 1 = .ok (.istore_n 3, 1) := by decide +kernel
theorem dX2_oneSeamOn_2 : decode cX2_oneSeamOn 2 = .ok (.iconst 0, 1) := by decide +kernel
theorem dX2_oneSeamOn_3 : decode cX2_oneSeamOn 3 = .ok (.istore 4, 2) := by decide +kernel
theorem dX2_oneSeamOn_5 : decode cX2_oneSeamOn 5 = .ok (.iload 4, 2) := by decide +kernel
theorem dX2_oneSeamOn_7 : decode cX2_oneSeamOn 7 = .ok (.aload_n 0, 1) := by decide +kernel
theorem dX2_oneSeamOn_8 : decode cX2_oneSeamOn 8 = .ok (.getfield 25, 3) := by decide +kernel
theorem dX2_oneSeamOn_11 : decode cX2_oneSeamOn 11 = .ok (.if_icmp .ge 51, 3) := by decide +kernel
theorem dX2_oneSeamOn_14 : decode cX2_oneSeamOn 14 = .ok (.iconst 1, 1) := by decide +kernel
theorem dX2_oneSeamOn_15 : decode cX2_oneSeamOn 15 = .ok (.aload_n 0, 1) := by decide +kernel
theorem dX2_oneSeamOn_16 : decode cX2_oneSeamOn 16 = .ok (.iload 4, 2) := by decide +kernel
theorem dX2_oneSeamOn_18 : decode cX2_oneSeamOn 18 = .ok (.iconst 1, 1) := by decide +kernel
theorem dX2_oneSeamOn_19 : decode cX2_oneSeamOn 19 = .ok (.invokevirtual 54, 3) := by decide +kernel
theorem dX2_oneSeamOn_22 : decode cX2_oneSeamOn 22 = .ok (.ishl, 1) := by decide +kernel
theorem dX2_oneSeamOn_23 : decode cX2_oneSeamOn 23 = .ok (.iconst 1, 1) := by decide +kernel
theorem dX2_oneSeamOn_24 : decode cX2_oneSeamOn 24 = .ok (.aload_n 0, 1) := by decide +kernel
theorem dX2_oneSeamOn_25 : decode cX2_oneSeamOn 25 = .ok (.iload 4, 2) := by decide +kernel
theorem dX2_oneSeamOn_27 : decode cX2_oneSeamOn 27 = .ok (.iconst 2, 1) := by decide +kernel
theorem dX2_oneSeamOn_28 : decode cX2_oneSeamOn 28 = .ok (.invokevirtual 54, 3) := by decide +kernel
theorem dX2_oneSeamOn_31 : decode cX2_oneSeamOn 31 = .ok (.ishl, 1) := by decide +kernel
theorem dX2_oneSeamOn_32 : decode cX2_oneSeamOn 32 = .ok (.ior, 1) := by decide +kernel
theorem dX2_oneSeamOn_33 : decode cX2_oneSeamOn 33 = .ok (.istore 5, 2) := by decide +kernel
theorem dX2_oneSeamOn_35 : decode cX2_oneSeamOn 35 = .ok (.iload_n 2, 1) := by decide +kernel
theorem dX2_oneSeamOn_36 : decode cX2_oneSeamOn 36 = .ok (.iload 4, 2) := by decide +kernel
theorem dX2_oneSeamOn_38 : decode cX2_oneSeamOn 38 = .ok (.invokestatic 57, 3) := by decide +kernel
theorem dX2_oneSeamOn_41 : decode cX2_oneSeamOn 41 = .ok (.ifCond .eq 15, 3) := by decide +kernel
theorem dX2_oneSeamOn_44 : decode cX2_oneSeamOn 44 = .ok (.iload_n 1, 1) := by decide +kernel
theorem dX2_oneSeamOn_45 : decode cX2_oneSeamOn 45 = .ok (.iload 5, 2) := by decide +kernel
theorem dX2_oneSeamOn_47 : decode cX2_oneSeamOn 47 = .ok (.iand, 1) := by decide +kernel
theorem dX2_oneSeamOn_48 : decode cX2_oneSeamOn 48 = .ok (.ifCond .eq 8, 3) := by decide +kernel
theorem dX2_oneSeamOn_51 : decode cX2_oneSeamOn 51 = .ok (.iload_n 3, 1) := by decide +kernel
theorem dX2_oneSeamOn_52 : decode cX2_oneSeamOn 52 = .ok (.iload 5, 2) := by decide +kernel
theorem dX2_oneSeamOn_54 : decode cX2_oneSeamOn 54 = .ok (.ior, 1) := by decide +kernel
theorem dX2_oneSeamOn_55 : decode cX2_oneSeamOn 55 = .ok (.istore_n 3, 1) := by decide +kernel
theorem dX2_oneSeamOn_56 : decode cX2_oneSeamOn 56 = .ok (.iinc 4 1, 3) := by decide +kernel
theorem dX2_oneSeamOn_59 : decode cX2_oneSeamOn 59 = .ok (.goto (-54), 3) := by decide +kernel
theorem dX2_oneSeamOn_62 : decode cX2_oneSeamOn 62 = .ok (.iload_n 3, 1) := by decide +kernel
theorem dX2_oneSeamOn_63 : decode cX2_oneSeamOn 63 = .ok (.ireturn, 1) := by decide +kernel
theorem dX3_init_0 : decode cX3_init 0 = .ok (.aload_n 0, 1) := by decide +kernel
theorem dX3_init_1 : decode cX3_init 1 = .ok (.invokespecial 3, 3) := by decide +kernel
theorem dX3_init_4 : decode cX3_init 4 = .ok (.aload_n 0, 1) := by decide +kernel
theorem dX3_init_5 : decode cX3_init 5 = .ok (.iconst 5, 1) := by decide +kernel
theorem dX3_init_6 : decode cX3_init 6 = .ok (.newarray .int, 2) := by decide +kernel
theorem dX3_init_8 : decode cX3_init 8 = .ok (.putfield 9, 3) := by decide +kernel
theorem dX3_init_11 : decode cX3_init 11 = .ok (.aload_n 0, 1) := by decide +kernel
theorem dX3_init_12 : decode cX3_init 12 = .ok (.iconst 0, 1) := by decide +kernel
theorem dX3_init_13 : decode cX3_init 13 = .ok (.putfield 15, 3) := by decide +kernel
theorem dX3_init_16 : decode cX3_init 16 = .ok (.aload_n 0, 1) := by decide +kernel
theorem dX3_init_17 : decode cX3_init 17 = .ok (.iconst 1, 1) := by decide +kernel
theorem dX3_init_18 : decode cX3_init 18 = .ok (.putfield 19, 3) := by decide +kernel
theorem dX3_init_21 : decode cX3_init 21 = .ok (.return_, 1) := by decide +kernel
theorem dX3_read_0 : decode cX3_read 0 = .ok (.aload_n 3, 1) := by decide +kernel
theorem dX3_read_1 : decode cX3_read 1 = .ok (.invokevirtual 23, 3) := by decide +kernel
theorem dX3_read_4 : decode cX3_read 4 = .ok (.aload_n 0, 1) := by decide +kernel
theorem dX3_read_5 : decode cX3_read 5 = .ok (.iconst 1, 1) := by decide +kernel
theorem dX3_read_6 : decode cX3_read 6 = .ok (.putfield 19, 3) := by decide +kernel
theorem dX3_read_9 : decode cX3_read 9 = .ok (.iconst 0, 1) := by decide +kernel
theorem dX3_read_10 : decode cX3_read 10 = .ok (.istore 4, 2) := by decide +kernel
theorem dX3_read_12 : decode cX3_read 12 = .ok (.iload 4, 2) := by decide +kernel
theorem dX3_read_14 : decode cX3_read 14 = .ok (.iload_n 2, 1) := by decide +kernel
theorem dX3_read_15 : decode cX3_read 15 = .ok (.if_icmp .ge 44, 3) := by decide +kernel
theorem dX3_read_18 : decode cX3_read 18 = .ok (.aload_n 0, 1) := by decide +kernel
theorem dX3_read_19 : decode cX3_read 19 = .ok (.aload_n 1, 1) := by decide +kernel
theorem dX3_read_20 : decode cX3_read 20 = .ok (.iload_n 2, 1) := by decide +kernel
theorem dX3_read_21 : decode cX3_read 21 = .ok (.iload 4, 2) := by decide +kernel
theorem dX3_read_23 : decode cX3_read 23 = .ok (.invokevirtual 28, 3) := by decide +kernel
theorem dX3_read_26 : decode cX3_read 26 = .ok (.istore 5, 2) := by decide +kernel
theorem dX3_read_28 : decode cX3_read 28 = .ok (.iload 5, 2) := by decide +kernel
theorem dX3_read_30 : decode cX3_read 30 = .ok (.iload 4, 2) := by decide +kernel
theorem dX3_read_32 : decode cX3_read 32 = .ok (.if_icmp .le 17, 3) := by decide +kernel
theorem dX3_read_35 : decode cX3_read 35 = .ok (.aload_n 0, 1) := by decide +kernel
theorem dX3_read_36 : decode cX3_read 36 = .ok (.aload_n 1, 1) := by decide +kernel
theorem dX3_read_37 : decode cX3_read 37 = .ok (.iload 4, 2) := by decide +kernel
theorem dX3_read_39 : decode cX3_read 39 = .ok (.invokestatic 32, 3) := by decide +kernel
theorem dX3_read_42 : decode cX3_read 42 = .ok (.aload_n 3, 1) := by decide +kernel
theorem dX3_read_43 : decode cX3_read 43 = .ok (.invokevirtual 36, 3) := by decide +kernel
theorem dX3_read_46 : decode cX3_read 46 = .ok (.ifCond .ne 6, 3) := by decide +kernel
theorem dX3_read_49 : decode cX3_read 49 = .ok (.iload 4, 2) := by decide +kernel
theorem dX3_read_51 : decode cX3_read 51 = .ok (.ireturn, 1) := by decide +kernel
theorem dX3_read_52 : decode cX3_read 52 = .ok (.iload 5, 2) := by decide +kernel
theorem dX3_read_54 : decode cX3_read 54 = .ok (.istore 4, 2) := by decide +kernel
theorem dX3_read_56 : decode cX3_read 56 = .ok (.goto (-44), 3) := by decide +kernel
theorem dX3_read_59 : decode cX3_read 59 = .ok (.bipush (-4), 2) := by decide +kernel
theorem dX3_read_61 : decode cX3_read 61 = .ok (.ireturn, 1) := by decide +kernel
theorem dX3_readNumbers_0 : decode cX3_readNumbers 0 = .ok (.iload_n 3, 1) := by decide +kernel
theorem dX3_readNumbers_1 : decode cX3_readNumbers 1 = .ok (.iconst 1, 1) := by decide +kernel
theorem dX3_readNumbers_2 : decode cX3_readNumbers 2 = .ok (.iadd, 1) := by decide +kernel
theorem dX3_readNumbers_3 : decode cX3_readNumbers 3 = .ok (.istore 4, 2) := by decide +kernel
theorem dX3_readNumbers_5 : decode cX3_readNumbers 5 = .ok (.iconst 0, 1) := by decide +kernel
theorem dX3_readNumbers_6 : decode cX3_readNumbers 6 = .ok (.istore 5, 2) := by decide +kernel
theorem dX3_readNumbers_8 : decode cX3_readNumbers 8 = .ok (.iload 5, 2) := by decide +kernel
theorem dX3_readNumbers_10 : decode cX3_readNumbers 10 = .ok (.iconst 5, 1) := by decide +kernel
theorem dX3_readNumbers_11 : decode cX3_readNumbers 11 = .ok (.if_icmp .ge 143, 3) := by decide +kernel
theorem dX3_readNumbers_14 : decode cX3_readNumbers 14 = .ok (.iload 4, 2) := by decide +kernel
theorem dX3_readNumbers_16 : decode cX3_readNumbers 16 = .ok (.istore 6, 2) := by decide +kernel
theorem dX3_readNumbers_18 : decode cX3_readNumbers 18 = .ok (.iconst 0, 1) := by decide +kernel
theorem dX3_readNumbers_19 : decode cX3_readNumbers 19 = .ok (.istore 7, 2) := by decide +kernel
theorem dX3_readNumbers_21 : decode cX3_readNumbers 21 = .ok (.iload 4, 2) := by decide +kernel
theorem dX3_readNumbers_23 : decode cX3_readNumbers 23 = .ok (.iload_n 2, 1) := by decide +kernel
theorem dX3_readNumbers_24 : decode cX3_readNumbers 24 = .ok (.if_icmp .ge 51, 3) := by decide +kernel
theorem dX3_readNumbers_27 : decode cX3_readNumbers 27 = .ok (.iload 4, 2) := by decide +kernel
theorem dX3_readNumbers_29 : decode cX3_readNumbers 29 = .ok (.iload 6, 2) := by decide +kernel
theorem dX3_readNumbers_31 : decode cX3_readNumbers 31 = .ok (.iconst 2, 1) := by decide +kernel
theorem dX3_readNumbers_32 : decode cX3_readNumbers 32 = .ok (.iadd, 1) := by decide +kernel
theorem dX3_readNumbers_33 : decode cX3_readNumbers 33 = .ok (.if_icmp .ge 42, 3) := by decide +kernel
theorem dX3_readNumbers_36 : decode cX3_readNumbers 36 = .ok (.aload_n 1, 1) := by decide +kernel
theorem dX3_readNumbers_37 : decode cX3_readNumbers 37 = .ok (.iload 4, 2) := by decide +kernel
theorem dX3_readNumbers_39 : decode cX3_readNumbers 39 = .ok (.invokestatic 32, 3) := by decide +kernel
theorem dX3_readNumbers_42 : decode cX3_readNumbers 42 = .ok (.bipush 48, 2) := by decide +kernel
theorem dX3_readNumbers_44 : decode cX3_readNumbers 44 = .ok (.bipush 57, 2) := by decide +kernel
theorem dX3_readNumbers_46 : decode cX3_readNumbers 46 = .ok (.invokestatic 40, 3) := by decide +kernel
theorem dX3_readNumbers_49 : decode cX3_readNumbers 49 = .ok (.ifCond .eq 26, 3) := by decide +kernel
theorem dX3_readNumbers_52 : decode cX3_readNumbers 52 = .ok (.iload 7, 2) := by decide +kernel
theorem dX3_readNumbers_54 : decode cX3_readNumbers 54 = .ok (.bipush 10, 2) := by decide +kernel
theorem dX3_readNumbers_56 : decode cX3_readNumbers 56 = .ok (.imul, 1) := by decide +kernel
theorem dX3_readNumbers_57 : decode cX3_readNumbers 57 = .ok (.aload_n 1, 1) := by decide +kernel
theorem dX3_readNumbers_58 : decode cX3_readNumbers 58 = .ok (.iload 4, 2) := by decide +kernel
theorem dX3_readNumbers_60 : decode cX3_readNumbers 60 = .ok (.invokestatic 32, 3) := by decide +kernel
theorem dX3_readNumbers_63 : decode cX3_readNumbers 63 = .ok (.iadd, 1) := by decide +kernel
theorem dX3_readNumbers_64 : decode cX3_readNumbers 64 = .ok (.bipush 48, 2) := by decide +kernel
theorem dX3_readNumbers_66 : decode cX3_readNumbers 66 = .ok (.isub, 1) := by decide +kernel
theorem dX3_readNumbers_67 : decode cX3_readNumbers 67 = .ok (.istore 7, 2) := by decide +kernel
theorem dX3_readNumbers_69 : decode cX3_readNumbers 69 = .ok (.iinc 4 1, 3) := by decide +kernel
theorem dX3_readNumbers_72 : decode cX3_readNumbers 72 = .ok (.goto (-51), 3) := by decide +kernel
theorem dX3_readNumbers_75 : decode cX3_readNumbers 75 = .ok (.iload 4, 2) := by decide +kernel
theorem dX3_readNumbers_77 : decode cX3_readNumbers 77 = .ok (.iload_n 2, 1) := by decide +kernel
theorem dX3_readNumbers_78 : decode cX3_readNumbers 78 = .ok (.if_icmp .ge 12, 3) := by decide +kernel
theorem dX3_readNumbers_81 : decode cX3_readNumbers 81 = .ok (.aload_n 1, 1) := by decide +kernel
theorem dX3_readNumbers_82 : decode cX3_readNumbers 82 = .ok (.iload 4, 2) := by decide +kernel
theorem dX3_readNumbers_84 : decode cX3_readNumbers 84 = .ok (.invokestatic 32, 3) := by decide +kernel
theorem dX3_readNumbers_87 : decode cX3_readNumbers 87 = .ok (.goto 4, 3) := by decide +kernel
theorem dX3_readNumbers_90 : decode cX3_readNumbers 90 = .ok (.iconst 0, 1) := by decide +kernel
theorem dX3_readNumbers_91 : decode cX3_readNumbers 91 = .ok (.istore 8, 2) := by decide +kernel
theorem dX3_readNumbers_93 : decode cX3_readNumbers 93 = .ok (.iload 4, 2) := by decide +kernel
theorem dX3_readNumbers_95 : decode cX3_readNumbers 95 = .ok (.iload 6, 2) := by decide +kernel
theorem dX3_readNumbers_97 : decode cX3_readNumbers 97 = .ok (.if_icmp .eq 17, 3) := by decide +kernel
theorem dX3_readNumbers_100 : decode cX3_readNumbers 100 = .ok (.iload 8, 2) := by decide +kernel
theorem dX3_readNumbers_102 : decode cX3_readNumbers 102 = .ok (.bipush 44, 2) := by decide +kernel
theorem dX3_readNumbers_104 : decode cX3_readNumbers 104 = .ok (.if_icmp .eq 12, 3) := by decide +kernel
theorem dX3_readNumbers_107 : decode cX3_readNumbers 107 = .ok (.iload 8, 2) := by decide +kernel
theorem dX3_readNumbers_109 : decode cX3_readNumbers 109 = .ok (.bipush 59, 2) := by decide +kernel
theorem dX3_readNumbers_111 : decode cX3_readNumbers 111 = .ok (.if_icmp .eq 5, 3) := by decide +kernel
theorem dX3_readNumbers_114 : decode cX3_readNumbers 114 = .ok (.iload_n 3, 1) := by decide +kernel
theorem dX3_readNumbers_115 : decode cX3_readNumbers 115 = .ok (.ireturn, 1) := by decide +kernel
theorem dX3_readNumbers_116 : decode cX3_readNumbers 116 = .ok (.aload_n 0, 1) := by decide +kernel
theorem dX3_readNumbers_117 : decode cX3_readNumbers 117 = .ok (.getfield 9, 3) := by decide +kernel
theorem dX3_readNumbers_120 : decode cX3_readNumbers 120 = .ok (.iload 5, 2) := by decide +kernel
theorem dX3_readNumbers_122 : decode cX3_readNumbers 122 = .ok (.iload 7, 2) := by decide +kernel
theorem dX3_readNumbers_124 : decode cX3_readNumbers 124 = .ok (.invokestatic 44, 3) := by decide +kernel
theorem dX3_readNumbers_127 : decode cX3_readNumbers 127 = .ok (.aload_n 0, 1) := by decide +kernel
theorem dX3_readNumbers_128 : decode cX3_readNumbers 128 = .ok (.iload 5, 2) := by decide +kernel
theorem dX3_readNumbers_130 : decode cX3_readNumbers 130 = .ok (.iconst 1, 1) := by decide +kernel
theorem dX3_readNumbers_131 : decode cX3_readNumbers 131 = .ok (.iadd, 1) := by decide +kernel
theorem dX3_readNumbers_132 : decode cX3_readNumbers 132 = .ok (.putfield 15, 3) := by decide +kernel
theorem dX3_readNumbers_135 : decode cX3_readNumbers 135 = .ok (.iinc 4 1, 3) := by decide +kernel
theorem dX3_readNumbers_138 : decode cX3_readNumbers 138 = .ok (.iload 8, 2) := by decide +kernel
theorem dX3_readNumbers_140 : decode cX3_readNumbers 140 = .ok (.bipush 59, 2) := by decide +kernel
theorem dX3_readNumbers_142 : decode cX3_readNumbers 142 = .ok (.if_icmp .ne 6, 3) := by decide +kernel
theorem dX3_readNumbers_145 : decode cX3_readNumbers 145 = .ok (.iload 4, 2) := by decide +kernel
theorem dX3_readNumbers_147 : decode cX3_readNumbers 147 = .ok (.ireturn, 1) := by decide +kernel
theorem dX3_readNumbers_148 : decode cX3_readNumbers 148 = .ok (.iinc 5 1, 3) := by decide +kernel
theorem dX3_readNumbers_151 : decode cX3_readNumbers 151 = .ok (.goto (-143), 3) := by decide +kernel
theorem dX3_readNumbers_154 : decode cX3_readNumbers 154 = .ok (.iload_n 3, 1) := by decide +kernel
theorem dX3_readNumbers_155 : decode cX3_readNumbers 155 = .ok (.ireturn, 1) := by decide +kernel
theorem dX3_takeItem_0 : decode cX3_takeItem 0 = .ok (.iload_n 1, 1) := by decide +kernel
theorem dX3_takeItem_1 : decode cX3_takeItem 1 = .ok (.bipush 112, 2) := by decide +kernel
theorem dX3_takeItem_3 : decode cX3_takeItem 3 = .ok (.if_icmp .ne 9, 3) := by decide +kernel
theorem dX3_takeItem_6 : decode cX3_takeItem 6 = .ok (.aload_n 0, 1) := by decide +kernel
theorem dX3_takeItem_7 : decode cX3_takeItem 7 = .ok (.aload_n 2, 1) := by decide +kernel
theorem dX3_takeItem_8 : decode cX3_takeItem 8 = .ok (.invokevirtual 48, 3) := by decide +kernel
theorem dX3_takeItem_11 : decode cX3_takeItem 11 = .ok (.ireturn, 1) := by decide +kernel
theorem dX3_takeItem_12 : decode cX3_takeItem 12 = .ok (.aload_n 0, 1) := by decide +kernel
theorem dX3_takeItem_13 : decode cX3_takeItem 13 = .ok (.iconst 0, 1) := by decide +kernel
theorem dX3_takeItem_14 : decode cX3_takeItem 14 = .ok (.putfield 19, 3) := by decide +kernel
theorem dX3_takeItem_17 : decode cX3_takeItem 17 = .ok (.iload_n 1, 1) := by decide +kernel
theorem dX3_takeItem_18 : decode cX3_takeItem 18 = .ok (.lookupswitch 66 #[(100, 48), (103, 42), (108, 54), (114, 60)], 42) := by decide +kernel
theorem dX3_takeItem_60 : decode cX3_takeItem 60 = .ok (.aload_n 0, 1) := by decide +kernel
theorem dX3_takeItem_61 : decode cX3_takeItem 61 = .ok (.aload_n 2, 1) := by decide +kernel
theorem dX3_takeItem_62 : decode cX3_takeItem 62 = .ok (.invokevirtual 52, 3) := by decide +kernel
theorem dX3_takeItem_65 : decode cX3_takeItem 65 = .ok (.ireturn, 1) := by decide +kernel
theorem dX3_takeItem_66 : decode cX3_takeItem 66 = .ok (.aload_n 0, 1) := by decide +kernel
theorem dX3_takeItem_67 : decode cX3_takeItem 67 = .ok (.aload_n 2, 1) := by decide +kernel
theorem dX3_takeItem_68 : decode cX3_takeItem 68 = .ok (.invokevirtual 55, 3) := by decide +kernel
theorem dX3_takeItem_71 : decode cX3_takeItem 71 = .ok (.ireturn, 1) := by decide +kernel
theorem dX3_takeItem_72 : decode cX3_takeItem 72 = .ok (.aload_n 0, 1) := by decide +kernel
theorem dX3_takeItem_73 : decode cX3_takeItem 73 = .ok (.aload_n 2, 1) := by decide +kernel
theorem dX3_takeItem_74 : decode cX3_takeItem 74 = .ok (.invokevirtual 58, 3) := by decide +kernel
theorem dX3_takeItem_77 : decode cX3_takeItem 77 = .ok (.ireturn, 1) := by decide +kernel
theorem dX3_takeItem_78 : decode cX3_takeItem 78 = .ok (.aload_n 0, 1) := by decide +kernel
theorem dX3_takeItem_79 : decode cX3_takeItem 79 = .ok (.aload_n 2, 1) := by decide +kernel
theorem dX3_takeItem_80 : decode cX3_takeItem 80 = .ok (.invokevirtual 61, 3) := by decide +kernel
theorem dX3_takeItem_83 : decode cX3_takeItem 83 = .ok (.ireturn, 1) := by decide +kernel
theorem dX3_takeItem_84 : decode cX3_takeItem 84 = .ok (.iconst 0, 1) := by decide +kernel
theorem dX3_takeItem_85 : decode cX3_takeItem 85 = .ok (.ireturn, 1) := by decide +kernel
theorem dX3_takePieces_0 : decode cX3_takePieces 0 = .ok (.aload_n 0, 1) := by decide +kernel
theorem dX3_takePieces_1 : decode cX3_takePieces 1 = .ok (.getfield 19, 3) := by decide +kernel
theorem dX3_takePieces_4 : decode cX3_takePieces 4 = .ok (.ifCond .eq 22, 3) := by decide +kernel
theorem dX3_takePieces_7 : decode cX3_takePieces 7 = .ok (.aload_n 0, 1) := by decide +kernel
theorem dX3_takePieces_8 : decode cX3_takePieces 8 = .ok (.getfield 15, 3) := by decide +kernel
theorem dX3_takePieces_11 : decode cX3_takePieces 11 = .ok (.iconst 1, 1) := by decide +kernel
theorem dX3_takePieces_12 : decode cX3_takePieces 12 = .ok (.if_icmp .ne 14, 3) := by decide +kernel
theorem dX3_takePieces_15 : decode cX3_takePieces 15 = .ok (.aload_n 0, 1) := by decide +kernel
theorem dX3_takePieces_16 : decode cX3_takePieces 16 = .ok (.iconst 0, 1) := by decide +kernel
theorem dX3_takePieces_17 : decode cX3_takePieces 17 = .ok (.iconst 1, 1) := by decide +kernel
theorem dX3_takePieces_18 : decode cX3_takePieces 18 = .ok (.bipush 8, 2) := by decide +kernel
theorem dX3_takePieces_20 : decode cX3_takePieces 20 = .ok (.invokevirtual 64, 3) := by decide +kernel
theorem dX3_takePieces_23 : decode cX3_takePieces 23 = .ok (.ifCond .ne 5, 3) := by decide +kernel
theorem dX3_takePieces_26 : decode cX3_takePieces 26 = .ok (.iconst 0, 1) := by decide +kernel
theorem dX3_takePieces_27 : decode cX3_takePieces 27 = .ok (.ireturn, 1) := by decide +kernel
theorem dX3_takePieces_28 : decode cX3_takePieces 28 = .ok (.aload_n 1, 1) := by decide +kernel
theorem dX3_takePieces_29 : decode cX3_takePieces 29 = .ok (.aload_n 0, 1) := by decide +kernel
theorem dX3_takePieces_30 : decode cX3_takePieces 30 = .ok (.getfield 9, 3) := by decide +kernel
theorem dX3_takePieces_33 : decode cX3_takePieces 33 = .ok (.iconst 0, 1) := by decide +kernel
theorem dX3_takePieces_34 : decode cX3_takePieces 34 = .ok (.invokestatic 32, 3) := by decide +kernel
theorem dX3_takePieces_37 : decode cX3_takePieces 37 = .ok (.putfield 67, 3) := by decide +kernel
theorem dX3_takePieces_40 : decode cX3_takePieces 40 = .ok (.iconst 1, 1) := by decide +kernel
theorem dX3_takePieces_41 : decode cX3_takePieces 41 = .ok (.ireturn, 1) := by decide +kernel
theorem dX3_takeGap_0 : decode cX3_takeGap 0 = .ok (.aload_n 0, 1) := by decide +kernel
theorem dX3_takeGap_1 : decode cX3_takeGap 1 = .ok (.getfield 15, 3) := by decide +kernel
theorem dX3_takeGap_4 : decode cX3_takeGap 4 = .ok (.iconst 5, 1) := by decide +kernel
theorem dX3_takeGap_5 : decode cX3_takeGap 5 = .ok (.if_icmp .ne 93, 3) := by decide +kernel
theorem dX3_takeGap_8 : decode cX3_takeGap 8 = .ok (.aload_n 1, 1) := by decide +kernel
theorem dX3_takeGap_9 : decode cX3_takeGap 9 = .ok (.getfield 70, 3) := by decide +kernel
theorem dX3_takeGap_12 : decode cX3_takeGap 12 = .ok (.bipush 8, 2) := by decide +kernel
theorem dX3_takeGap_14 : decode cX3_takeGap 14 = .ok (.if_icmp .ge 84, 3) := by decide +kernel
theorem dX3_takeGap_17 : decode cX3_takeGap 17 = .ok (.aload_n 0, 1) := by decide +kernel
theorem dX3_takeGap_18 : decode cX3_takeGap 18 = .ok (.iconst 0, 1) := by decide +kernel
theorem dX3_takeGap_19 : decode cX3_takeGap 19 = .ok (.iconst 0, 1) := by decide +kernel
theorem dX3_takeGap_20 : decode cX3_takeGap 20 = .ok (.iconst 3, 1) := by decide +kernel
theorem dX3_takeGap_21 : decode cX3_takeGap 21 = .ok (.invokevirtual 64, 3) := by decide +kernel
theorem dX3_takeGap_24 : decode cX3_takeGap 24 = .ok (.ifCond .eq 74, 3) := by decide +kernel
theorem dX3_takeGap_27 : decode cX3_takeGap 27 = .ok (.aload_n 0, 1) := by decide +kernel
theorem dX3_takeGap_28 : decode cX3_takeGap 28 = .ok (.iconst 1, 1) := by decide +kernel
theorem dX3_takeGap_29 : decode cX3_takeGap 29 = .ok (.iconst 0, 1) := by decide +kernel
theorem dX3_takeGap_30 : decode cX3_takeGap 30 = .ok (.aload_n 1, 1) := by decide +kernel
theorem dX3_takeGap_31 : decode cX3_takeGap 31 = .ok (.getfield 67, 3) := by decide +kernel
theorem dX3_takeGap_34 : decode cX3_takeGap 34 = .ok (.iconst 1, 1) := by decide +kernel
theorem dX3_takeGap_35 : decode cX3_takeGap 35 = .ok (.isub, 1) := by decide +kernel
theorem dX3_takeGap_36 : decode cX3_takeGap 36 = .ok (.invokevirtual 64, 3) := by decide +kernel
theorem dX3_takeGap_39 : decode cX3_takeGap 39 = .ok (.ifCond .eq 59, 3) := by decide +kernel
theorem dX3_takeGap_42 : decode cX3_takeGap 42 = .ok (.aload_n 0, 1) := by decide +kernel
theorem dX3_takeGap_43 : decode cX3_takeGap 43 = .ok (.iconst 2, 1) := by decide +kernel
theorem dX3_takeGap_44 : decode cX3_takeGap 44 = .ok (.iconst 0, 1) := by decide +kernel
theorem dX3_takeGap_45 : decode cX3_takeGap 45 = .ok (.aload_n 1, 1) := by decide +kernel
theorem dX3_takeGap_46 : decode cX3_takeGap 46 = .ok (.getfield 67, 3) := by decide +kernel
theorem dX3_takeGap_49 : decode cX3_takeGap 49 = .ok (.iconst 1, 1) := by decide +kernel
theorem dX3_takeGap_50 : decode cX3_takeGap 50 = .ok (.isub, 1) := by decide +kernel
theorem dX3_takeGap_51 : decode cX3_takeGap 51 = .ok (.invokevirtual 64, 3) := by decide +kernel
theorem dX3_takeGap_54 : decode cX3_takeGap 54 = .ok (.ifCond .eq 44, 3) := by decide +kernel
theorem dX3_takeGap_57 : decode cX3_takeGap 57 = .ok (.aload_n 0, 1) := by decide +kernel
theorem dX3_takeGap_58 : decode cX3_takeGap 58 = .ok (.getfield 9, 3) := by decide +kernel
theorem dX3_takeGap_61 : decode cX3_takeGap 61 = .ok (.iconst 1, 1) := by decide +kernel
theorem dX3_takeGap_62 : decode cX3_takeGap 62 = .ok (.invokestatic 32, 3) := by decide +kernel
theorem dX3_takeGap_65 : decode cX3_takeGap 65 = .ok (.aload_n 0, 1) := by decide +kernel
theorem dX3_takeGap_66 : decode cX3_takeGap 66 = .ok (.getfield 9, 3) := by decide +kernel
theorem dX3_takeGap_69 : decode cX3_takeGap 69 = .ok (.iconst 2, 1) := by decide +kernel
theorem dX3_takeGap_70 : decode cX3_takeGap 70 = .ok (.invokestatic 32, 3) := by decide +kernel
theorem dX3_takeGap_73 : decode cX3_takeGap 73 = .ok (.if_icmp .eq 25, 3) := by decide +kernel
theorem dX3_takeGap_76 : decode cX3_takeGap 76 = .ok (.aload_n 0, 1) := by decide +kernel
theorem dX3_takeGap_77 : decode cX3_takeGap 77 = .ok (.iconst 3, 1) := by decide +kernel
theorem dX3_takeGap_78 : decode cX3_takeGap 78 = .ok (.iconst 0, 1) := by decide +kernel
theorem dX3_takeGap_79 : decode cX3_takeGap 79 = .ok (.bipush 40, 2) := by decide +kernel
theorem dX3_takeGap_81 : decode cX3_takeGap 81 = .ok (.invokevirtual 64, 3) := by decide +kernel
theorem dX3_takeGap_84 : decode cX3_takeGap 84 = .ok (.ifCond .eq 14, 3) := by decide +kernel
theorem dX3_takeGap_87 : decode cX3_takeGap 87 = .ok (.aload_n 0, 1) := by decide +kernel
theorem dX3_takeGap_88 : decode cX3_takeGap 88 = .ok (.iconst 4, 1) := by decide +kernel
theorem dX3_takeGap_89 : decode cX3_takeGap 89 = .ok (.iconst 1, 1) := by decide +kernel
theorem dX3_takeGap_90 : decode cX3_takeGap 90 = .ok (.bipush 20, 2) := by decide +kernel
theorem dX3_takeGap_92 : decode cX3_takeGap 92 = .ok (.invokevirtual 64, 3) := by decide +kernel
theorem dX3_takeGap_95 : decode cX3_takeGap 95 = .ok (.ifCond .ne 5, 3) := by decide +kernel
theorem dX3_takeGap_98 : decode cX3_takeGap 98 = .ok (.iconst 0, 1) := by decide +kernel
theorem dX3_takeGap_99 : decode cX3_takeGap 99 = .ok (.ireturn, 1) := by decide +kernel
theorem dX3_takeGap_100 : decode cX3_takeGap 100 = .ok (.aload_n 1, 1) := by decide +kernel
theorem dX3_takeGap_101 : decode cX3_takeGap 101 = .ok (.aload_n 0, 1) := by decide +kernel
theorem dX3_takeGap_102 : decode cX3_takeGap 102 = .ok (.getfield 9, 3) := by decide +kernel
theorem dX3_takeGap_105 : decode cX3_takeGap 105 = .ok (.invokevirtual 73, 3) := by decide +kernel
theorem dX3_takeGap_108 : decode cX3_takeGap 108 = .ok (.iconst 1, 1) := by decide +kernel
theorem dX3_takeGap_109 : decode cX3_takeGap 109 = .ok (.ireturn, 1) := by decide +kernel
theorem dX3_takeStitcher_0 : decode cX3_takeStitcher 0 = .ok (.aload_n 0, 1) := by decide +kernel
theorem dX3_takeStitcher_1 : decode cX3_takeStitcher 1 = .ok (.getfield 15, 3) := by decide +kernel
theorem dX3_takeStitcher_4 : decode cX3_takeStitcher 4 = .ok (.iconst 3, 1) := by decide +kernel
theorem dX3_takeStitcher_5 : decode cX3_takeStitcher 5 = .ok (.if_icmp .ne 43, 3) := by decide +kernel
theorem dX3_takeStitcher_8 : decode cX3_takeStitcher 8 = .ok (.aload_n 1, 1) := by decide +kernel
theorem dX3_takeStitcher_9 : decode cX3_takeStitcher 9 = .ok (.getfield 77, 3) := by decide +kernel
theorem dX3_takeStitcher_12 : decode cX3_takeStitcher 12 = .ok (.iconst 4, 1) := by decide +kernel
theorem dX3_takeStitcher_13 : decode cX3_takeStitcher 13 = .ok (.if_icmp .ge 35, 3) := by decide +kernel
theorem dX3_takeStitcher_16 : decode cX3_takeStitcher 16 = .ok (.aload_n 0, 1) := by decide +kernel
theorem dX3_takeStitcher_17 : decode cX3_takeStitcher 17 = .ok (.iconst 0, 1) := by decide +kernel
theorem dX3_takeStitcher_18 : decode cX3_takeStitcher 18 = .ok (.iconst 0, 1) := by decide +kernel
theorem dX3_takeStitcher_19 : decode cX3_takeStitcher 19 = .ok (.iconst 3, 1) := by decide +kernel
theorem dX3_takeStitcher_20 : decode cX3_takeStitcher 20 = .ok (.invokevirtual 64, 3) := by decide +kernel
theorem dX3_takeStitcher_23 : decode cX3_takeStitcher 23 = .ok (.ifCond .eq 25, 3) := by decide +kernel
theorem dX3_takeStitcher_26 : decode cX3_takeStitcher 26 = .ok (.aload_n 0, 1) := by decide +kernel
theorem dX3_takeStitcher_27 : decode cX3_takeStitcher 27 = .ok (.iconst 1, 1) := by decide +kernel
theorem dX3_takeStitcher_28 : decode cX3_takeStitcher 28 = .ok (.iconst 0, 1) := by decide +kernel
theorem dX3_takeStitcher_29 : decode cX3_takeStitcher 29 = .ok (.bipush 40, 2) := by decide +kernel
theorem dX3_takeStitcher_31 : decode cX3_takeStitcher 31 = .ok (.invokevirtual 64, 3) := by decide +kernel
theorem dX3_takeStitcher_34 : decode cX3_takeStitcher 34 = .ok (.ifCond .eq 14, 3) := by decide +kernel
theorem dX3_takeStitcher_37 : decode cX3_takeStitcher 37 = .ok (.aload_n 0, 1) := by decide +kernel
theorem dX3_takeStitcher_38 : decode cX3_takeStitcher 38 = .ok (.iconst 2, 1) := by decide +kernel
theorem dX3_takeStitcher_39 : decode cX3_takeStitcher 39 = .ok (.iconst 1, 1) := by decide +kernel
theorem dX3_takeStitcher_40 : decode cX3_takeStitcher 40 = .ok (.bipush 9, 2) := by decide +kernel
theorem dX3_takeStitcher_42 : decode cX3_takeStitcher 42 = .ok (.invokevirtual 64, 3) := by decide +kernel
theorem dX3_takeStitcher_45 : decode cX3_takeStitcher 45 = .ok (.ifCond .ne 5, 3) := by decide +kernel
theorem dX3_takeStitcher_48 : decode cX3_takeStitcher 48 = .ok (.iconst 0, 1) := by decide +kernel
theorem dX3_takeStitcher_49 : decode cX3_takeStitcher 49 = .ok (.ireturn, 1) := by decide +kernel
theorem dX3_takeStitcher_50 : decode cX3_takeStitcher 50 = .ok (.aload_n 1, 1) := by decide +kernel
theorem dX3_takeStitcher_51 : decode cX3_takeStitcher 51 = .ok (.aload_n 0, 1) := by decide +kernel
theorem dX3_takeStitcher_52 : decode cX3_takeStitcher 52 = .ok (.getfield 9, 3) := by decide +kernel
theorem dX3_takeStitcher_55 : decode cX3_takeStitcher 55 = .ok (.invokevirtual 80, 3) := by decide +kernel
theorem dX3_takeStitcher_58 : decode cX3_takeStitcher 58 = .ok (.iconst 1, 1) := by decide +kernel
theorem dX3_takeStitcher_59 : decode cX3_takeStitcher 59 = .ok (.ireturn, 1) := by decide +kernel
theorem dX3_takeLight_0 : decode cX3_takeLight 0 = .ok (.aload_n 0, 1) := by decide +kernel
theorem dX3_takeLight_1 : decode cX3_takeLight 1 = .ok (.getfield 15, 3) := by decide +kernel
theorem dX3_takeLight_4 : decode cX3_takeLight 4 = .ok (.iconst 1, 1) := by decide +kernel
theorem dX3_takeLight_5 : decode cX3_takeLight 5 = .ok (.if_icmp .ne 14, 3) := by decide +kernel
theorem dX3_takeLight_8 : decode cX3_takeLight 8 = .ok (.aload_n 0, 1) := by decide +kernel
theorem dX3_takeLight_9 : decode cX3_takeLight 9 = .ok (.iconst 0, 1) := by decide +kernel
theorem dX3_takeLight_10 : decode cX3_takeLight 10 = .ok (.iconst 1, 1) := by decide +kernel
theorem dX3_takeLight_11 : decode cX3_takeLight 11 = .ok (.bipush 24, 2) := by decide +kernel
theorem dX3_takeLight_13 : decode cX3_takeLight 13 = .ok (.invokevirtual 64, 3) := by decide +kernel
theorem dX3_takeLight_16 : decode cX3_takeLight 16 = .ok (.ifCond .ne 5, 3) := by decide +kernel
theorem dX3_takeLight_19 : decode cX3_takeLight 19 = .ok (.iconst 0, 1) := by decide +kernel
theorem dX3_takeLight_20 : decode cX3_takeLight 20 = .ok (.ireturn, 1) := by decide +kernel
theorem dX3_takeLight_21 : decode cX3_takeLight 21 = .ok (.aload_n 1, 1) := by decide +kernel
theorem dX3_takeLight_22 : decode cX3_takeLight 22 = .ok (.aload_n 0, 1) := by decide +kernel
theorem dX3_takeLight_23 : decode cX3_takeLight 23 = .ok (.getfield 9, 3) := by decide +kernel
theorem dX3_takeLight_26 : decode cX3_takeLight 26 = .ok (.iconst 0, 1) := by decide +kernel
theorem dX3_takeLight_27 : decode cX3_takeLight 27 = .ok (.invokestatic 32, 3) := by decide +kernel
theorem dX3_takeLight_30 : decode cX3_takeLight 30 = .ok (.putfield 83, 3) := by decide +kernel
theorem dX3_takeLight_33 : decode cX3_takeLight 33 = .ok (.iconst 1, 1) := by decide +kernel
theorem dX3_takeLight_34 : decode cX3_takeLight 34 = .ok (.ireturn, 1) := by decide +kernel
theorem dX3_takeRain_0 : decode cX3_takeRain 0 = .ok (.aload_n 0, 1) := by decide +kernel
theorem dX3_takeRain_1 : decode cX3_takeRain 1 = .ok (.getfield 15, 3) := by decide +kernel
theorem dX3_takeRain_4 : decode cX3_takeRain 4 = .ok (.iconst 1, 1) := by decide +kernel
theorem dX3_takeRain_5 : decode cX3_takeRain 5 = .ok (.if_icmp .ne 22, 3) := by decide +kernel
theorem dX3_takeRain_8 : decode cX3_takeRain 8 = .ok (.aload_n 1, 1) := by decide +kernel
theorem dX3_takeRain_9 : decode cX3_takeRain 9 = .ok (.getfield 86, 3) := by decide +kernel
theorem dX3_takeRain_12 : decode cX3_takeRain 12 = .ok (.bipush 12, 2) := by decide +kernel
theorem dX3_takeRain_14 : decode cX3_takeRain 14 = .ok (.if_icmp .ge 13, 3) := by decide +kernel
theorem dX3_takeRain_17 : decode cX3_takeRain 17 = .ok (.aload_n 0, 1) := by decide +kernel
theorem dX3_takeRain_18 : decode cX3_takeRain 18 = .ok (.iconst 0, 1) := by decide +kernel
theorem dX3_takeRain_19 : decode cX3_takeRain 19 = .ok (.iconst 0, 1) := by decide +kernel
theorem dX3_takeRain_20 : decode cX3_takeRain 20 = .ok (.iconst 1, 1) := by decide +kernel
theorem dX3_takeRain_21 : decode cX3_takeRain 21 = .ok (.invokevirtual 64, 3) := by decide +kernel
theorem dX3_takeRain_24 : decode cX3_takeRain 24 = .ok (.ifCond .ne 5, 3) := by decide +kernel
theorem dX3_takeRain_27 : decode cX3_takeRain 27 = .ok (.iconst 0, 1) := by decide +kernel
theorem dX3_takeRain_28 : decode cX3_takeRain 28 = .ok (.ireturn, 1) := by decide +kernel
theorem dX3_takeRain_29 : decode cX3_takeRain 29 = .ok (.aload_n 1, 1) := by decide +kernel
theorem dX3_takeRain_30 : decode cX3_takeRain 30 = .ok (.aload_n 0, 1) := by decide +kernel
theorem dX3_takeRain_31 : decode cX3_takeRain 31 = .ok (.getfield 9, 3) := by decide +kernel
theorem dX3_takeRain_34 : decode cX3_takeRain 34 = .ok (.iconst 0, 1) := by decide +kernel
theorem dX3_takeRain_35 : decode cX3_takeRain 35 = .ok (.invokestatic 32, 3) := by decide +kernel
theorem dX3_takeRain_38 : decode cX3_takeRain 38 = .ok (.invokevirtual 89, 3) := by decide +kernel
theorem dX3_takeRain_41 : decode cX3_takeRain 41 = .ok (.iconst 1, 1) := by decide +kernel
theorem dX3_takeRain_42 : decode cX3_takeRain 42 = .ok (.ireturn, 1) := by decide +kernel
theorem dX3_has_0 : decode cX3_has 0 = .ok (.aload_n 0, 1) := by decide +kernel
theorem dX3_has_1 : decode cX3_has 1 = .ok (.getfield 9, 3) := by decide +kernel
theorem dX3_has_4 : decode cX3_has 4 = .ok (.iload_n 1, 1) := by decide +kernel
theorem dX3_has_5 : decode cX3_has 5 = .ok (.invokestatic 32, 3) := by decide +kernel
theorem dX3_has_8 : decode cX3_has 8 = .ok (.iload_n 2, 1) := by decide +kernel
theorem dX3_has_9 : decode cX3_has 9 = .ok (.iload_n 3, 1) := by decide +kernel
theorem dX3_has_10 : decode cX3_has 10 = .ok (.invokestatic 40, 3) := by decide +kernel
theorem dX3_has_13 : decode cX3_has 13 = .ok (.ireturn, 1) := by decide +kernel
theorem dX4_init_0 : decode cX4_init 0 = .ok (.aload_n 0, 1) := by decide +kernel
theorem dX4_init_1 : decode cX4_init 1 = .ok (.invokespecial 3, 3) := by decide +kernel
theorem dX4_init_4 : decode cX4_init 4 = .ok (.aload_n 0, 1) := by decide +kernel
theorem dX4_init_5 : decode cX4_init 5 = .ok (.iconst 0, 1) := by decide +kernel
theorem dX4_init_6 : decode cX4_init 6 = .ok (.putfield 9, 3) := by decide +kernel
theorem dX4_init_9 : decode cX4_init 9 = .ok (.aload_n 0, 1) := by decide +kernel
theorem dX4_init_10 : decode cX4_init 10 = .ok (.iconst 0, 1) := by decide +kernel
theorem dX4_init_11 : decode cX4_init 11 = .ok (.putfield 15, 3) := by decide +kernel
theorem dX4_init_14 : decode cX4_init 14 = .ok (.aload_n 0, 1) := by decide +kernel
theorem dX4_init_15 : decode cX4_init 15 = .ok (.iconst 3, 1) := by decide +kernel
theorem dX4_init_16 : decode cX4_init 16 = .ok (.newarray .int, 2) := by decide +kernel
theorem dX4_init_18 : decode cX4_init 18 = .ok (.putfield 18, 3) := by decide +kernel
theorem dX4_init_21 : decode cX4_init 21 = .ok (.aload_n 0, 1) := by decide +kernel
theorem dX4_init_22 : decode cX4_init 22 = .ok (.iconst 3, 1) := by decide +kernel
theorem dX4_init_23 : decode cX4_init 23 = .ok (.newarray .int, 2) := by decide +kernel
theorem dX4_init_25 : decode cX4_init 25 = .ok (.putfield 22, 3) := by decide +kernel
theorem dX4_init_28 : decode cX4_init 28 = .ok (.aload_n 0, 1) := by decide +kernel
theorem dX4_init_29 : decode cX4_init 29 = .ok (.iconst 4, 1) := by decide +kernel
theorem dX4_init_30 : decode cX4_init 30 = .ok (.anewarray 25, 3) := by decide +kernel
theorem dX4_init_33 : decode cX4_init 33 = .ok (.putfield 27, 3) := by decide +kernel
theorem dX4_init_36 : decode cX4_init 36 = .ok (.aload_n 0, 1) := by decide +kernel
theorem dX4_init_37 : decode cX4_init 37 = .ok (.iconst 0, 1) := by decide +kernel
theorem dX4_init_38 : decode cX4_init 38 = .ok (.putfield 31, 3) := by decide +kernel
theorem dX4_init_41 : decode cX4_init 41 = .ok (.aload_n 0, 1) := by decide +kernel
theorem dX4_init_42 : decode cX4_init 42 = .ok (.iconst 0, 1) := by decide +kernel
theorem dX4_init_43 : decode cX4_init 43 = .ok (.putfield 34, 3) := by decide +kernel
theorem dX4_init_46 : decode cX4_init 46 = .ok (.iconst 0, 1) := by decide +kernel
theorem dX4_init_47 : decode cX4_init 47 = .ok (.istore_n 1, 1) := by decide +kernel
theorem dX4_init_48 : decode cX4_init 48 = .ok (.iload_n 1, 1) := by decide +kernel
theorem dX4_init_49 : decode cX4_init 49 = .ok (.aload_n 0, 1) := by decide +kernel
theorem dX4_init_50 : decode cX4_init 50 = .ok (.getfield 27, 3) := by decide +kernel
theorem dX4_init_53 : decode cX4_init 53 = .ok (.arraylength, 1) := by decide +kernel
theorem dX4_init_54 : decode cX4_init 54 = .ok (.if_icmp .ge 22, 3) := by decide +kernel
theorem dX4_init_57 : decode cX4_init 57 = .ok (.aload_n 0, 1) := by decide +kernel
theorem dX4_init_58 : decode cX4_init 58 = .ok (.getfield 27, 3) := by decide +kernel
theorem dX4_init_61 : decode cX4_init 61 = .ok (.iload_n 1, 1) := by decide +kernel
theorem dX4_init_62 : decode cX4_init 62 = .ok (.new 25, 3) := by decide +kernel
theorem dX4_init_65 : decode cX4_init 65 = .ok (.dup, 1) := by decide +kernel
theorem dX4_init_66 : decode cX4_init 66 = .ok (.invokespecial 37, 3) := by decide +kernel
theorem dX4_init_69 : decode cX4_init 69 = .ok (.aastore, 1) := by decide +kernel
theorem dX4_init_70 : decode cX4_init 70 = .ok (.iinc 1 1, 3) := by decide +kernel
theorem dX4_init_73 : decode cX4_init 73 = .ok (.goto (-25), 3) := by decide +kernel
theorem dX4_init_76 : decode cX4_init 76 = .ok (.return_, 1) := by decide +kernel
theorem dX4_start_0 : decode cX4_start 0 = .ok (.aload_n 0, 1) := by decide +kernel
theorem dX4_start_1 : decode cX4_start 1 = .ok (.iload_n 2, 1) := by decide +kernel
theorem dX4_start_2 : decode cX4_start 2 = .ok (.putfield 31, 3) := by decide +kernel
theorem dX4_start_5 : decode cX4_start 5 = .ok (.aload_n 0, 1) := by decide +kernel
theorem dX4_start_6 : decode cX4_start 6 = .ok (.iload_n 3, 1) := by decide +kernel
theorem dX4_start_7 : decode cX4_start 7 = .ok (.putfield 34, 3) := by decide +kernel
theorem dX4_start_10 : decode cX4_start 10 = .ok (.aload_n 0, 1) := by decide +kernel
theorem dX4_start_11 : decode cX4_start 11 = .ok (.iconst 0, 1) := by decide +kernel
theorem dX4_start_12 : decode cX4_start 12 = .ok (.putfield 9, 3) := by decide +kernel
theorem dX4_start_15 : decode cX4_start 15 = .ok (.aload_n 0, 1) := by decide +kernel
theorem dX4_start_16 : decode cX4_start 16 = .ok (.iconst 0, 1) := by decide +kernel
theorem dX4_start_17 : decode cX4_start 17 = .ok (.putfield 15, 3) := by decide +kernel
theorem dX4_start_20 : decode cX4_start 20 = .ok (.aload_n 0, 1) := by decide +kernel
theorem dX4_start_21 : decode cX4_start 21 = .ok (.iconst 0, 1) := by decide +kernel
theorem dX4_start_22 : decode cX4_start 22 = .ok (.invokevirtual 38, 3) := by decide +kernel
theorem dX4_start_25 : decode cX4_start 25 = .ok (.astore 4, 2) := by decide +kernel
theorem dX4_start_27 : decode cX4_start 27 = .ok (.aload 4, 2) := by decide +kernel
theorem dX4_start_29 : decode cX4_start 29 = .ok (.ifnull 14, 3) := by decide +kernel
theorem dX4_start_32 : decode cX4_start 32 = .ok (.aload 4, 2) := by decide +kernel
theorem dX4_start_34 : decode cX4_start 34 = .ok (.aload_n 1, 1) := by decide +kernel
theorem dX4_start_35 : decode cX4_start 35 = .ok (.invokevirtual 42, 3) := by decide +kernel
theorem dX4_start_38 : decode cX4_start 38 = .ok (.aload 4, 2) := by decide +kernel
theorem dX4_start_40 : decode cX4_start 40 = .ok (.invokevirtual 46, 3) := by decide +kernel
theorem dX4_start_43 : decode cX4_start 43 = .ok (.return_, 1) := by decide +kernel
theorem dX4_lengthen_0 : decode cX4_lengthen 0 = .ok (.aload_n 0, 1) := by decide +kernel
theorem dX4_lengthen_1 : decode cX4_lengthen 1 = .ok (.iload_n 2, 1) := by decide +kernel
theorem dX4_lengthen_2 : decode cX4_lengthen 2 = .ok (.invokevirtual 38, 3) := by decide +kernel
theorem dX4_lengthen_5 : decode cX4_lengthen 5 = .ok (.astore 4, 2) := by decide +kernel
theorem dX4_lengthen_7 : decode cX4_lengthen 7 = .ok (.iload_n 2, 1) := by decide +kernel
theorem dX4_lengthen_8 : decode cX4_lengthen 8 = .ok (.iconst 3, 1) := by decide +kernel
theorem dX4_lengthen_9 : decode cX4_lengthen 9 = .ok (.if_icmp .ge 8, 3) := by decide +kernel
theorem dX4_lengthen_12 : decode cX4_lengthen 12 = .ok (.aload 4, 2) := by decide +kernel
theorem dX4_lengthen_14 : decode cX4_lengthen 14 = .ok (.ifnonnull 4, 3) := by decide +kernel
theorem dX4_lengthen_17 : decode cX4_lengthen 17 = .ok (.return_, 1) := by decide +kernel
theorem dX4_lengthen_18 : decode cX4_lengthen 18 = .ok (.iconst 0, 1) := by decide +kernel
theorem dX4_lengthen_19 : decode cX4_lengthen 19 = .ok (.istore 5, 2) := by decide +kernel
theorem dX4_lengthen_21 : decode cX4_lengthen 21 = .ok (.iload 5, 2) := by decide +kernel
theorem dX4_lengthen_23 : decode cX4_lengthen 23 = .ok (.aload_n 1, 1) := by decide +kernel
theorem dX4_lengthen_24 : decode cX4_lengthen 24 = .ok (.getfield 49, 3) := by decide +kernel
theorem dX4_lengthen_27 : decode cX4_lengthen 27 = .ok (.if_icmp .ge 31, 3) := by decide +kernel
theorem dX4_lengthen_30 : decode cX4_lengthen 30 = .ok (.aload 4, 2) := by decide +kernel
theorem dX4_lengthen_32 : decode cX4_lengthen 32 = .ok (.aload_n 1, 1) := by decide +kernel
theorem dX4_lengthen_33 : decode cX4_lengthen 33 = .ok (.iload 5, 2) := by decide +kernel
theorem dX4_lengthen_35 : decode cX4_lengthen 35 = .ok (.invokevirtual 54, 3) := by decide +kernel
theorem dX4_lengthen_38 : decode cX4_lengthen 38 = .ok (.ifCond .ne 14, 3) := by decide +kernel
theorem dX4_lengthen_41 : decode cX4_lengthen 41 = .ok (.aload_n 0, 1) := by decide +kernel
theorem dX4_lengthen_42 : decode cX4_lengthen 42 = .ok (.aload_n 1, 1) := by decide +kernel
theorem dX4_lengthen_43 : decode cX4_lengthen 43 = .ok (.aload 4, 2) := by decide +kernel
theorem dX4_lengthen_45 : decode cX4_lengthen 45 = .ok (.iload 5, 2) := by decide +kernel
theorem dX4_lengthen_47 : decode cX4_lengthen 47 = .ok (.iload_n 2, 1) := by decide +kernel
theorem dX4_lengthen_48 : decode cX4_lengthen 48 = .ok (.iload_n 3, 1) := by decide +kernel
theorem dX4_lengthen_49 : decode cX4_lengthen 49 = .ok (.invokevirtual 58, 3) := by decide +kernel
theorem dX4_lengthen_52 : decode cX4_lengthen 52 = .ok (.iinc 5 1, 3) := by decide +kernel
theorem dX4_lengthen_55 : decode cX4_lengthen 55 = .ok (.goto (-34), 3) := by decide +kernel
theorem dX4_lengthen_58 : decode cX4_lengthen 58 = .ok (.return_, 1) := by decide +kernel
theorem dX4_tryNext_0 : decode cX4_tryNext 0 = .ok (.aload_n 0, 1) := by decide +kernel
theorem dX4_tryNext_1 : decode cX4_tryNext 1 = .ok (.iload 4, 2) := by decide +kernel
theorem dX4_tryNext_3 : decode cX4_tryNext 3 = .ok (.iconst 1, 1) := by decide +kernel
theorem dX4_tryNext_4 : decode cX4_tryNext 4 = .ok (.iadd, 1) := by decide +kernel
theorem dX4_tryNext_5 : decode cX4_tryNext 5 = .ok (.invokevirtual 38, 3) := by decide +kernel
theorem dX4_tryNext_8 : decode cX4_tryNext 8 = .ok (.astore 6, 2) := by decide +kernel
theorem dX4_tryNext_10 : decode cX4_tryNext 10 = .ok (.aload 6, 2) := by decide +kernel
theorem dX4_tryNext_12 : decode cX4_tryNext 12 = .ok (.ifnonnull 4, 3) := by decide +kernel
theorem dX4_tryNext_15 : decode cX4_tryNext 15 = .ok (.return_, 1) := by decide +kernel
theorem dX4_tryNext_16 : decode cX4_tryNext 16 = .ok (.aload 6, 2) := by decide +kernel
theorem dX4_tryNext_18 : decode cX4_tryNext 18 = .ok (.aload_n 2, 1) := by decide +kernel
theorem dX4_tryNext_19 : decode cX4_tryNext 19 = .ok (.invokevirtual 42, 3) := by decide +kernel
theorem dX4_tryNext_22 : decode cX4_tryNext 22 = .ok (.aload 6, 2) := by decide +kernel
theorem dX4_tryNext_24 : decode cX4_tryNext 24 = .ok (.aload_n 0, 1) := by decide +kernel
theorem dX4_tryNext_25 : decode cX4_tryNext 25 = .ok (.getfield 31, 3) := by decide +kernel
theorem dX4_tryNext_28 : decode cX4_tryNext 28 = .ok (.iload_n 3, 1) := by decide +kernel
theorem dX4_tryNext_29 : decode cX4_tryNext 29 = .ok (.invokevirtual 62, 3) := by decide +kernel
theorem dX4_tryNext_32 : decode cX4_tryNext 32 = .ok (.aload 6, 2) := by decide +kernel
theorem dX4_tryNext_34 : decode cX4_tryNext 34 = .ok (.aload_n 1, 1) := by decide +kernel
theorem dX4_tryNext_35 : decode cX4_tryNext 35 = .ok (.iload_n 3, 1) := by decide +kernel
theorem dX4_tryNext_36 : decode cX4_tryNext 36 = .ok (.aload_n 0, 1) := by decide +kernel
theorem dX4_tryNext_37 : decode cX4_tryNext 37 = .ok (.getfield 34, 3) := by decide +kernel
theorem dX4_tryNext_40 : decode cX4_tryNext 40 = .ok (.iload 5, 2) := by decide +kernel
theorem dX4_tryNext_42 : decode cX4_tryNext 42 = .ok (.isub, 1) := by decide +kernel
theorem dX4_tryNext_43 : decode cX4_tryNext 43 = .ok (.invokevirtual 66, 3) := by decide +kernel
theorem dX4_tryNext_46 : decode cX4_tryNext 46 = .ok (.istore 7, 2) := by decide +kernel
theorem dX4_tryNext_48 : decode cX4_tryNext 48 = .ok (.iload 7, 2) := by decide +kernel
theorem dX4_tryNext_50 : decode cX4_tryNext 50 = .ok (.bipush (-4), 2) := by decide +kernel
theorem dX4_tryNext_52 : decode cX4_tryNext 52 = .ok (.if_icmp .eq 40, 3) := by decide +kernel
theorem dX4_tryNext_55 : decode cX4_tryNext 55 = .ok (.aload_n 0, 1) := by decide +kernel
theorem dX4_tryNext_56 : decode cX4_tryNext 56 = .ok (.getfield 22, 3) := by decide +kernel
theorem dX4_tryNext_59 : decode cX4_tryNext 59 = .ok (.iload 4, 2) := by decide +kernel
theorem dX4_tryNext_61 : decode cX4_tryNext 61 = .ok (.iload_n 3, 1) := by decide +kernel
theorem dX4_tryNext_62 : decode cX4_tryNext 62 = .ok (.invokestatic 70, 3) := by decide +kernel
theorem dX4_tryNext_65 : decode cX4_tryNext 65 = .ok (.aload_n 0, 1) := by decide +kernel
theorem dX4_tryNext_66 : decode cX4_tryNext 66 = .ok (.iload 4, 2) := by decide +kernel
theorem dX4_tryNext_68 : decode cX4_tryNext 68 = .ok (.iconst 1, 1) := by decide +kernel
theorem dX4_tryNext_69 : decode cX4_tryNext 69 = .ok (.iadd, 1) := by decide +kernel
theorem dX4_tryNext_70 : decode cX4_tryNext 70 = .ok (.iload 5, 2) := by decide +kernel
theorem dX4_tryNext_72 : decode cX4_tryNext 72 = .ok (.iload 7, 2) := by decide +kernel
theorem dX4_tryNext_74 : decode cX4_tryNext 74 = .ok (.iadd, 1) := by decide +kernel
theorem dX4_tryNext_75 : decode cX4_tryNext 75 = .ok (.invokevirtual 74, 3) := by decide +kernel
theorem dX4_tryNext_78 : decode cX4_tryNext 78 = .ok (.aload_n 0, 1) := by decide +kernel
theorem dX4_tryNext_79 : decode cX4_tryNext 79 = .ok (.aload_n 1, 1) := by decide +kernel
theorem dX4_tryNext_80 : decode cX4_tryNext 80 = .ok (.iload 4, 2) := by decide +kernel
theorem dX4_tryNext_82 : decode cX4_tryNext 82 = .ok (.iconst 1, 1) := by decide +kernel
theorem dX4_tryNext_83 : decode cX4_tryNext 83 = .ok (.iadd, 1) := by decide +kernel
theorem dX4_tryNext_84 : decode cX4_tryNext 84 = .ok (.iload 5, 2) := by decide +kernel
theorem dX4_tryNext_86 : decode cX4_tryNext 86 = .ok (.iload 7, 2) := by decide +kernel
theorem dX4_tryNext_88 : decode cX4_tryNext 88 = .ok (.iadd, 1) := by decide +kernel
theorem dX4_tryNext_89 : decode cX4_tryNext 89 = .ok (.invokevirtual 77, 3) := by decide +kernel
theorem dX4_tryNext_92 : decode cX4_tryNext 92 = .ok (.return_, 1) := by decide +kernel
theorem dX4_noteIfBetter_0 : decode cX4_noteIfBetter 0 = .ok (.iload_n 1, 1) := by decide +kernel
theorem dX4_noteIfBetter_1 : decode cX4_noteIfBetter 1 = .ok (.aload_n 0, 1) := by decide +kernel
theorem dX4_noteIfBetter_2 : decode cX4_noteIfBetter 2 = .ok (.getfield 9, 3) := by decide +kernel
theorem dX4_noteIfBetter_5 : decode cX4_noteIfBetter 5 = .ok (.if_icmp .lt 19, 3) := by decide +kernel
theorem dX4_noteIfBetter_8 : decode cX4_noteIfBetter 8 = .ok (.iload_n 1, 1) := by decide +kernel
theorem dX4_noteIfBetter_9 : decode cX4_noteIfBetter 9 = .ok (.aload_n 0, 1) := by decide +kernel
theorem dX4_noteIfBetter_10 : decode cX4_noteIfBetter 10 = .ok (.getfield 9, 3) := by decide +kernel
theorem dX4_noteIfBetter_13 : decode cX4_noteIfBetter 13 = .ok (.if_icmp .ne 12, 3) := by decide +kernel
theorem dX4_noteIfBetter_16 : decode cX4_noteIfBetter 16 = .ok (.iload_n 2, 1) := by decide +kernel
theorem dX4_noteIfBetter_17 : decode cX4_noteIfBetter 17 = .ok (.aload_n 0, 1) := by decide +kernel
theorem dX4_noteIfBetter_18 : decode cX4_noteIfBetter 18 = .ok (.getfield 15, 3) := by decide +kernel
theorem dX4_noteIfBetter_21 : decode cX4_noteIfBetter 21 = .ok (.if_icmp .lt 4, 3) := by decide +kernel
theorem dX4_noteIfBetter_24 : decode cX4_noteIfBetter 24 = .ok (.return_, 1) := by decide +kernel
theorem dX4_noteIfBetter_25 : decode cX4_noteIfBetter 25 = .ok (.aload_n 0, 1) := by decide +kernel
theorem dX4_noteIfBetter_26 : decode cX4_noteIfBetter 26 = .ok (.iload_n 1, 1) := by decide +kernel
theorem dX4_noteIfBetter_27 : decode cX4_noteIfBetter 27 = .ok (.putfield 9, 3) := by decide +kernel
theorem dX4_noteIfBetter_30 : decode cX4_noteIfBetter 30 = .ok (.aload_n 0, 1) := by decide +kernel
theorem dX4_noteIfBetter_31 : decode cX4_noteIfBetter 31 = .ok (.iload_n 2, 1) := by decide +kernel
theorem dX4_noteIfBetter_32 : decode cX4_noteIfBetter 32 = .ok (.putfield 15, 3) := by decide +kernel
theorem dX4_noteIfBetter_35 : decode cX4_noteIfBetter 35 = .ok (.iconst 0, 1) := by decide +kernel
theorem dX4_noteIfBetter_36 : decode cX4_noteIfBetter 36 = .ok (.istore_n 3, 1) := by decide +kernel
theorem dX4_noteIfBetter_37 : decode cX4_noteIfBetter 37 = .ok (.iload_n 3, 1) := by decide +kernel
theorem dX4_noteIfBetter_38 : decode cX4_noteIfBetter 38 = .ok (.iload_n 1, 1) := by decide +kernel
theorem dX4_noteIfBetter_39 : decode cX4_noteIfBetter 39 = .ok (.if_icmp .ge 25, 3) := by decide +kernel
theorem dX4_noteIfBetter_42 : decode cX4_noteIfBetter 42 = .ok (.aload_n 0, 1) := by decide +kernel
theorem dX4_noteIfBetter_43 : decode cX4_noteIfBetter 43 = .ok (.getfield 18, 3) := by decide +kernel
theorem dX4_noteIfBetter_46 : decode cX4_noteIfBetter 46 = .ok (.iload_n 3, 1) := by decide +kernel
theorem dX4_noteIfBetter_47 : decode cX4_noteIfBetter 47 = .ok (.aload_n 0, 1) := by decide +kernel
theorem dX4_noteIfBetter_48 : decode cX4_noteIfBetter 48 = .ok (.getfield 22, 3) := by decide +kernel
theorem dX4_noteIfBetter_51 : decode cX4_noteIfBetter 51 = .ok (.iload_n 3, 1) := by decide +kernel
theorem dX4_noteIfBetter_52 : decode cX4_noteIfBetter 52 = .ok (.invokestatic 81, 3) := by decide +kernel
theorem dX4_noteIfBetter_55 : decode cX4_noteIfBetter 55 = .ok (.invokestatic 70, 3) := by decide +kernel
theorem dX4_noteIfBetter_58 : decode cX4_noteIfBetter 58 = .ok (.iinc 3 1, 3) := by decide +kernel
theorem dX4_noteIfBetter_61 : decode cX4_noteIfBetter 61 = .ok (.goto (-24), 3) := by decide +kernel
theorem dX4_noteIfBetter_64 : decode cX4_noteIfBetter 64 = .ok (.return_, 1) := by decide +kernel
theorem dX4_standingBehind_0 : decode cX4_standingBehind 0 = .ok (.iload_n 1, 1) := by decide +kernel
theorem dX4_standingBehind_1 : decode cX4_standingBehind 1 = .ok (.ifCond .lt 21, 3) := by decide +kernel
theorem dX4_standingBehind_4 : decode cX4_standingBehind 4 = .ok (.iload_n 1, 1) := by decide +kernel
theorem dX4_standingBehind_5 : decode cX4_standingBehind 5 = .ok (.aload_n 0, 1) := by decide +kernel
theorem dX4_standingBehind_6 : decode cX4_standingBehind 6 = .ok (.getfield 27, 3) := by decide +kernel
theorem dX4_standingBehind_9 : decode cX4_standingBehind 9 = .ok (.arraylength, 1) := by decide +kernel
theorem dX4_standingBehind_10 : decode cX4_standingBehind 10 = .ok (.if_icmp .ge 12, 3) := by decide +kernel
theorem dX4_standingBehind_13 : decode cX4_standingBehind 13 = .ok (.aload_n 0, 1) := by decide +kernel
theorem dX4_standingBehind_14 : decode cX4_standingBehind 14 = .ok (.getfield 27, 3) := by decide +kernel
theorem dX4_standingBehind_17 : decode cX4_standingBehind 17 = .ok (.iload_n 1, 1) := by decide +kernel
theorem dX4_standingBehind_18 : decode cX4_standingBehind 18 = .ok (.aaload, 1) := by decide +kernel
theorem dX4_standingBehind_19 : decode cX4_standingBehind 19 = .ok (.goto 4, 3) := by decide +kernel
theorem dX4_standingBehind_22 : decode cX4_standingBehind 22 = .ok (.aconst_null, 1) := by decide +kernel
theorem dX4_standingBehind_23 : decode cX4_standingBehind 23 = .ok (.areturn, 1) := by decide +kernel
theorem dX5_init_0 : decode cX5_init 0 = .ok (.aload_n 0, 1) := by decide +kernel
theorem dX5_init_1 : decode cX5_init 1 = .ok (.invokespecial 3, 3) := by decide +kernel
theorem dX5_init_4 : decode cX5_init 4 = .ok (.aload_n 0, 1) := by decide +kernel
theorem dX5_init_5 : decode cX5_init 5 = .ok (.iconst 0, 1) := by decide +kernel
theorem dX5_init_6 : decode cX5_init 6 = .ok (.putfield 9, 3) := by decide +kernel
theorem dX5_init_9 : decode cX5_init 9 = .ok (.aload_n 0, 1) := by decide +kernel
theorem dX5_init_10 : decode cX5_init 10 = .ok (.iconst 0, 1) := by decide +kernel
theorem dX5_init_11 : decode cX5_init 11 = .ok (.putfield 15, 3) := by decide +kernel
theorem dX5_init_14 : decode cX5_init 14 = .ok (.aload_n 0, 1) := by decide +kernel
theorem dX5_init_15 : decode cX5_init 15 = .ok (.bipush (-4), 2) := by decide +kernel
theorem dX5_init_17 : decode cX5_init 17 = .ok (.putfield 18, 3) := by decide +kernel
theorem dX5_init_20 : decode cX5_init 20 = .ok (.aload_n 0, 1) := by decide +kernel
theorem dX5_init_21 : decode cX5_init 21 = .ok (.bipush (-4), 2) := by decide +kernel
theorem dX5_init_23 : decode cX5_init 23 = .ok (.putfield 21, 3) := by decide +kernel
theorem dX5_init_26 : decode cX5_init 26 = .ok (.aload_n 0, 1) := by decide +kernel
theorem dX5_init_27 : decode cX5_init 27 = .ok (.bipush (-4), 2) := by decide +kernel
theorem dX5_init_29 : decode cX5_init 29 = .ok (.putfield 24, 3) := by decide +kernel
theorem dX5_init_32 : decode cX5_init 32 = .ok (.aload_n 0, 1) := by decide +kernel
theorem dX5_init_33 : decode cX5_init 33 = .ok (.bipush 8, 2) := by decide +kernel
theorem dX5_init_35 : decode cX5_init 35 = .ok (.newarray .int, 2) := by decide +kernel
theorem dX5_init_37 : decode cX5_init 37 = .ok (.putfield 27, 3) := by decide +kernel
theorem dX5_init_40 : decode cX5_init 40 = .ok (.aload_n 0, 1) := by decide +kernel
theorem dX5_init_41 : decode cX5_init 41 = .ok (.bipush 8, 2) := by decide +kernel
theorem dX5_init_43 : decode cX5_init 43 = .ok (.newarray .int, 2) := by decide +kernel
theorem dX5_init_45 : decode cX5_init 45 = .ok (.putfield 31, 3) := by decide +kernel
theorem dX5_init_48 : decode cX5_init 48 = .ok (.aload_n 0, 1) := by decide +kernel
theorem dX5_init_49 : decode cX5_init 49 = .ok (.bipush 8, 2) := by decide +kernel
theorem dX5_init_51 : decode cX5_init 51 = .ok (.newarray .int, 2) := by decide +kernel
theorem dX5_init_53 : decode cX5_init 53 = .ok (.putfield 34, 3) := by decide +kernel
theorem dX5_init_56 : decode cX5_init 56 = .ok (.aload_n 0, 1) := by decide +kernel
theorem dX5_init_57 : decode cX5_init 57 = .ok (.bipush 64, 2) := by decide +kernel
theorem dX5_init_59 : decode cX5_init 59 = .ok (.newarray .int, 2) := by decide +kernel
theorem dX5_init_61 : decode cX5_init 61 = .ok (.putfield 37, 3) := by decide +kernel
theorem dX5_init_64 : decode cX5_init 64 = .ok (.return_, 1) := by decide +kernel
theorem dX5_clear_0 : decode cX5_clear 0 = .ok (.aload_n 0, 1) := by decide +kernel
theorem dX5_clear_1 : decode cX5_clear 1 = .ok (.iconst 0, 1) := by decide +kernel
theorem dX5_clear_2 : decode cX5_clear 2 = .ok (.putfield 9, 3) := by decide +kernel
theorem dX5_clear_5 : decode cX5_clear 5 = .ok (.return_, 1) := by decide +kernel
theorem dX5_add_0 : decode cX5_add 0 = .ok (.aload_n 0, 1) := by decide +kernel
theorem dX5_add_1 : decode cX5_add 1 = .ok (.getfield 27, 3) := by decide +kernel
theorem dX5_add_4 : decode cX5_add 4 = .ok (.aload_n 0, 1) := by decide +kernel
theorem dX5_add_5 : decode cX5_add 5 = .ok (.getfield 9, 3) := by decide +kernel
theorem dX5_add_8 : decode cX5_add 8 = .ok (.iload_n 1, 1) := by decide +kernel
theorem dX5_add_9 : decode cX5_add 9 = .ok (.invokestatic 40, 3) := by decide +kernel
theorem dX5_add_12 : decode cX5_add 12 = .ok (.aload_n 0, 1) := by decide +kernel
theorem dX5_add_13 : decode cX5_add 13 = .ok (.getfield 31, 3) := by decide +kernel
theorem dX5_add_16 : decode cX5_add 16 = .ok (.aload_n 0, 1) := by decide +kernel
theorem dX5_add_17 : decode cX5_add 17 = .ok (.getfield 9, 3) := by decide +kernel
theorem dX5_add_20 : decode cX5_add 20 = .ok (.iload_n 2, 1) := by decide +kernel
theorem dX5_add_21 : decode cX5_add 21 = .ok (.invokestatic 40, 3) := by decide +kernel
theorem dX5_add_24 : decode cX5_add 24 = .ok (.aload_n 0, 1) := by decide +kernel
theorem dX5_add_25 : decode cX5_add 25 = .ok (.getfield 34, 3) := by decide +kernel
theorem dX5_add_28 : decode cX5_add 28 = .ok (.aload_n 0, 1) := by decide +kernel
theorem dX5_add_29 : decode cX5_add 29 = .ok (.getfield 9, 3) := by decide +kernel
theorem dX5_add_32 : decode cX5_add 32 = .ok (.iload_n 3, 1) := by decide +kernel
theorem dX5_add_33 : decode cX5_add 33 = .ok (.invokestatic 40, 3) := by decide +kernel
theorem dX5_add_36 : decode cX5_add 36 = .ok (.aload_n 0, 1) := by decide +kernel
theorem dX5_add_37 : decode cX5_add 37 = .ok (.dup, 1) := by decide +kernel
theorem dX5_add_38 : decode cX5_add 38 = .ok (.getfield 9, 3) := by decide +kernel
theorem dX5_add_41 : decode cX5_add 41 = .ok (.iconst 1, 1) := by decide +kernel
theorem dX5_add_42 : decode cX5_add 42 = .ok (.iadd, 1) := by decide +kernel
theorem dX5_add_43 : decode cX5_add 43 = .ok (.putfield 9, 3) := by decide +kernel
theorem dX5_add_46 : decode cX5_add 46 = .ok (.return_, 1) := by decide +kernel
theorem dX5_weigh_0 : decode cX5_weigh 0 = .ok (.aload_n 0, 1) := by decide +kernel
theorem dX5_weigh_1 : decode cX5_weigh 1 = .ok (.invokevirtual 44, 3) := by decide +kernel
theorem dX5_weigh_4 : decode cX5_weigh 4 = .ok (.iconst 1, 1) := by decide +kernel
theorem dX5_weigh_5 : decode cX5_weigh 5 = .ok (.aload_n 1, 1) := by decide +kernel
theorem dX5_weigh_6 : decode cX5_weigh 6 = .ok (.getfield 47, 3) := by decide +kernel
theorem dX5_weigh_9 : decode cX5_weigh 9 = .ok (.ishl, 1) := by decide +kernel
theorem dX5_weigh_10 : decode cX5_weigh 10 = .ok (.istore_n 3, 1) := by decide +kernel
theorem dX5_weigh_11 : decode cX5_weigh 11 = .ok (.iconst 0, 1) := by decide +kernel
theorem dX5_weigh_12 : decode cX5_weigh 12 = .ok (.istore 4, 2) := by decide +kernel
theorem dX5_weigh_14 : decode cX5_weigh 14 = .ok (.iload 4, 2) := by decide +kernel
theorem dX5_weigh_16 : decode cX5_weigh 16 = .ok (.iload_n 3, 1) := by decide +kernel
theorem dX5_weigh_17 : decode cX5_weigh 17 = .ok (.if_icmp .ge 53, 3) := by decide +kernel
theorem dX5_weigh_20 : decode cX5_weigh 20 = .ok (.aload_n 2, 1) := by decide +kernel
theorem dX5_weigh_21 : decode cX5_weigh 21 = .ok (.aload_n 1, 1) := by decide +kernel
theorem dX5_weigh_22 : decode cX5_weigh 22 = .ok (.iload 4, 2) := by decide +kernel
theorem dX5_weigh_24 : decode cX5_weigh 24 = .ok (.invokevirtual 52, 3) := by decide +kernel
theorem dX5_weigh_27 : decode cX5_weigh 27 = .ok (.aload_n 0, 1) := by decide +kernel
theorem dX5_weigh_28 : decode cX5_weigh 28 = .ok (.aload_n 2, 1) := by decide +kernel
theorem dX5_weigh_29 : decode cX5_weigh 29 = .ok (.invokevirtual 58, 3) := by decide +kernel
theorem dX5_weigh_32 : decode cX5_weigh 32 = .ok (.ifCond .eq 32, 3) := by decide +kernel
theorem dX5_weigh_35 : decode cX5_weigh 35 = .ok (.aload_n 0, 1) := by decide +kernel
theorem dX5_weigh_36 : decode cX5_weigh 36 = .ok (.getfield 15, 3) := by decide +kernel
theorem dX5_weigh_39 : decode cX5_weigh 39 = .ok (.ifCond .ne 9, 3) := by decide +kernel
theorem dX5_weigh_42 : decode cX5_weigh 42 = .ok (.aload_n 0, 1) := by decide +kernel
theorem dX5_weigh_43 : decode cX5_weigh 43 = .ok (.iload 4, 2) := by decide +kernel
theorem dX5_weigh_45 : decode cX5_weigh 45 = .ok (.putfield 18, 3) := by decide +kernel
theorem dX5_weigh_48 : decode cX5_weigh 48 = .ok (.aload_n 0, 1) := by decide +kernel
theorem dX5_weigh_49 : decode cX5_weigh 49 = .ok (.dup, 1) := by decide +kernel
theorem dX5_weigh_50 : decode cX5_weigh 50 = .ok (.getfield 15, 3) := by decide +kernel
theorem dX5_weigh_53 : decode cX5_weigh 53 = .ok (.iconst 1, 1) := by decide +kernel
theorem dX5_weigh_54 : decode cX5_weigh 54 = .ok (.iadd, 1) := by decide +kernel
theorem dX5_weigh_55 : decode cX5_weigh 55 = .ok (.putfield 15, 3) := by decide +kernel
theorem dX5_weigh_58 : decode cX5_weigh 58 = .ok (.aload_n 0, 1) := by decide +kernel
theorem dX5_weigh_59 : decode cX5_weigh 59 = .ok (.aload_n 1, 1) := by decide +kernel
theorem dX5_weigh_60 : decode cX5_weigh 60 = .ok (.aload_n 2, 1) := by decide +kernel
theorem dX5_weigh_61 : decode cX5_weigh 61 = .ok (.invokevirtual 62, 3) := by decide +kernel
theorem dX5_weigh_64 : decode cX5_weigh 64 = .ok (.iinc 4 1, 3) := by decide +kernel
theorem dX5_weigh_67 : decode cX5_weigh 67 = .ok (.goto (-53), 3) := by decide +kernel
theorem dX5_weigh_70 : decode cX5_weigh 70 = .ok (.return_, 1) := by decide +kernel
theorem dX5_clearWeights_0 : decode cX5_clearWeights 0 = .ok (.aload_n 0, 1) := by decide +kernel
theorem dX5_clearWeights_1 : decode cX5_clearWeights 1 = .ok (.iconst 0, 1) := by decide +kernel
theorem dX5_clearWeights_2 : decode cX5_clearWeights 2 = .ok (.putfield 15, 3) := by decide +kernel
theorem dX5_clearWeights_5 : decode cX5_clearWeights 5 = .ok (.aload_n 0, 1) := by decide +kernel
theorem dX5_clearWeights_6 : decode cX5_clearWeights 6 = .ok (.bipush (-4), 2) := by decide +kernel
theorem dX5_clearWeights_8 : decode cX5_clearWeights 8 = .ok (.putfield 18, 3) := by decide +kernel
theorem dX5_clearWeights_11 : decode cX5_clearWeights 11 = .ok (.iconst 0, 1) := by decide +kernel
theorem dX5_clearWeights_12 : decode cX5_clearWeights 12 = .ok (.istore_n 1, 1) := by decide +kernel
theorem dX5_clearWeights_13 : decode cX5_clearWeights 13 = .ok (.iload_n 1, 1) := by decide +kernel
theorem dX5_clearWeights_14 : decode cX5_clearWeights 14 = .ok (.aload_n 0, 1) := by decide +kernel
theorem dX5_clearWeights_15 : decode cX5_clearWeights 15 = .ok (.getfield 37, 3) := by decide +kernel
theorem dX5_clearWeights_18 : decode cX5_clearWeights 18 = .ok (.arraylength, 1) := by decide +kernel
theorem dX5_clearWeights_19 : decode cX5_clearWeights 19 = .ok (.if_icmp .ge 16, 3) := by decide +kernel
theorem dX5_clearWeights_22 : decode cX5_clearWeights 22 = .ok (.aload_n 0, 1) := by decide +kernel
theorem dX5_clearWeights_23 : decode cX5_clearWeights 23 = .ok (.getfield 37, 3) := by decide +kernel
theorem dX5_clearWeights_26 : decode cX5_clearWeights 26 = .ok (.iload_n 1, 1) := by decide +kernel
theorem dX5_clearWeights_27 : decode cX5_clearWeights 27 = .ok (.iconst 0, 1) := by decide +kernel
theorem dX5_clearWeights_28 : decode cX5_clearWeights 28 = .ok (.iastore, 1) := by decide +kernel
theorem dX5_clearWeights_29 : decode cX5_clearWeights 29 = .ok (.iinc 1 1, 3) := by decide +kernel
theorem dX5_clearWeights_32 : decode cX5_clearWeights 32 = .ok (.goto (-19), 3) := by decide +kernel
theorem dX5_clearWeights_35 : decode cX5_clearWeights 35 = .ok (.return_, 1) := by decide +kernel
