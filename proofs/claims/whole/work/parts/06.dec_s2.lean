theorem dX4_mostSize_21 : decode cX4_mostSize 21 = .ok (.iconst 0, 1) := by decide +kernel
theorem dX4_mostSize_22 : decode cX4_mostSize 22 = .ok (.ireturn, 1) := by decide +kernel
theorem dX4_choose_0 : decode cX4_choose 0 = .ok (.aload_n 0, 1) := by decide +kernel
theorem dX4_choose_1 : decode cX4_choose 1 = .ok (.getfield 28, 3) := by decide +kernel
theorem dX4_choose_4 : decode cX4_choose 4 = .ok (.iload_n 1, 1) := by decide +kernel
theorem dX4_choose_5 : decode cX4_choose 5 = .ok (.iload_n 2, 1) := by decide +kernel
theorem dX4_choose_6 : decode cX4_choose 6 = .ok (.iastore, 1) := by decide +kernel
theorem dX4_choose_7 : decode cX4_choose 7 = .ok (.aload_n 0, 1) := by decide +kernel
theorem dX4_choose_8 : decode cX4_choose 8 = .ok (.getfield 31, 3) := by decide +kernel
theorem dX4_choose_11 : decode cX4_choose 11 = .ok (.iload_n 1, 1) := by decide +kernel
theorem dX4_choose_12 : decode cX4_choose 12 = .ok (.iload_n 3, 1) := by decide +kernel
theorem dX4_choose_13 : decode cX4_choose 13 = .ok (.iastore, 1) := by decide +kernel
theorem dX4_choose_14 : decode cX4_choose 14 = .ok (.aload_n 0, 1) := by decide +kernel
theorem dX4_choose_15 : decode cX4_choose 15 = .ok (.getfield 24, 3) := by decide +kernel
theorem dX4_choose_18 : decode cX4_choose 18 = .ok (.iload_n 1, 1) := by decide +kernel
theorem dX4_choose_19 : decode cX4_choose 19 = .ok (.iconst 1, 1) := by decide +kernel
theorem dX4_choose_20 : decode cX4_choose 20 = .ok (.iadd, 1) := by decide +kernel
theorem dX4_choose_21 : decode cX4_choose 21 = .ok (.aaload, 1) := by decide +kernel
theorem dX4_choose_22 : decode cX4_choose 22 = .ok (.aload_n 0, 1) := by decide +kernel
theorem dX4_choose_23 : decode cX4_choose 23 = .ok (.getfield 24, 3) := by decide +kernel
theorem dX4_choose_26 : decode cX4_choose 26 = .ok (.iload_n 1, 1) := by decide +kernel
theorem dX4_choose_27 : decode cX4_choose 27 = .ok (.aaload, 1) := by decide +kernel
theorem dX4_choose_28 : decode cX4_choose 28 = .ok (.invokevirtual 94, 3) := by decide +kernel
theorem dX4_choose_31 : decode cX4_choose 31 = .ok (.aload_n 0, 1) := by decide +kernel
theorem dX4_choose_32 : decode cX4_choose 32 = .ok (.getfield 24, 3) := by decide +kernel
theorem dX4_choose_35 : decode cX4_choose 35 = .ok (.iload_n 1, 1) := by decide +kernel
theorem dX4_choose_36 : decode cX4_choose 36 = .ok (.iconst 1, 1) := by decide +kernel
theorem dX4_choose_37 : decode cX4_choose 37 = .ok (.iadd, 1) := by decide +kernel
theorem dX4_choose_38 : decode cX4_choose 38 = .ok (.aaload, 1) := by decide +kernel
theorem dX4_choose_39 : decode cX4_choose 39 = .ok (.bipush (-10), 2) := by decide +kernel
theorem dX4_choose_41 : decode cX4_choose 41 = .ok (.iload_n 3, 1) := by decide +kernel
theorem dX4_choose_42 : decode cX4_choose 42 = .ok (.imul, 1) := by decide +kernel
theorem dX4_choose_43 : decode cX4_choose 43 = .ok (.iload_n 2, 1) := by decide +kernel
theorem dX4_choose_44 : decode cX4_choose 44 = .ok (.invokevirtual 98, 3) := by decide +kernel
theorem dX4_choose_47 : decode cX4_choose 47 = .ok (.return_, 1) := by decide +kernel
theorem dX4_keepIfBetter_0 : decode cX4_keepIfBetter 0 = .ok (.aload_n 0, 1) := by decide +kernel
theorem dX4_keepIfBetter_1 : decode cX4_keepIfBetter 1 = .ok (.getfield 24, 3) := by decide +kernel
theorem dX4_keepIfBetter_4 : decode cX4_keepIfBetter 4 = .ok (.aload_n 0, 1) := by decide +kernel
theorem dX4_keepIfBetter_5 : decode cX4_keepIfBetter 5 = .ok (.getfield 74, 3) := by decide +kernel
theorem dX4_keepIfBetter_8 : decode cX4_keepIfBetter 8 = .ok (.aaload, 1) := by decide +kernel
theorem dX4_keepIfBetter_9 : decode cX4_keepIfBetter 9 = .ok (.invokestatic 102, 3) := by decide +kernel
theorem dX4_keepIfBetter_12 : decode cX4_keepIfBetter 12 = .ok (.lstore_n 1, 1) := by decide +kernel
theorem dX4_keepIfBetter_13 : decode cX4_keepIfBetter 13 = .ok (.aload_n 0, 1) := by decide +kernel
theorem dX4_keepIfBetter_14 : decode cX4_keepIfBetter 14 = .ok (.getfield 24, 3) := by decide +kernel
theorem dX4_keepIfBetter_17 : decode cX4_keepIfBetter 17 = .ok (.aload_n 0, 1) := by decide +kernel
theorem dX4_keepIfBetter_18 : decode cX4_keepIfBetter 18 = .ok (.getfield 74, 3) := by decide +kernel
theorem dX4_keepIfBetter_21 : decode cX4_keepIfBetter 21 = .ok (.aaload, 1) := by decide +kernel
theorem dX4_keepIfBetter_22 : decode cX4_keepIfBetter 22 = .ok (.invokestatic 106, 3) := by decide +kernel
theorem dX4_keepIfBetter_25 : decode cX4_keepIfBetter 25 = .ok (.lstore_n 3, 1) := by decide +kernel
theorem dX4_keepIfBetter_26 : decode cX4_keepIfBetter 26 = .ok (.aload_n 0, 1) := by decide +kernel
theorem dX4_keepIfBetter_27 : decode cX4_keepIfBetter 27 = .ok (.getfield 71, 3) := by decide +kernel
theorem dX4_keepIfBetter_30 : decode cX4_keepIfBetter 30 = .ok (.iconst (-1), 1) := by decide +kernel
theorem dX4_keepIfBetter_31 : decode cX4_keepIfBetter 31 = .ok (.if_icmp .eq 26, 3) := by decide +kernel
theorem dX4_keepIfBetter_34 : decode cX4_keepIfBetter 34 = .ok (.aload_n 0, 1) := by decide +kernel
theorem dX4_keepIfBetter_35 : decode cX4_keepIfBetter 35 = .ok (.getfield 12, 3) := by decide +kernel
theorem dX4_keepIfBetter_38 : decode cX4_keepIfBetter 38 = .ok (.lload_n 1, 1) := by decide +kernel
theorem dX4_keepIfBetter_39 : decode cX4_keepIfBetter 39 = .ok (.aload_n 0, 1) := by decide +kernel
theorem dX4_keepIfBetter_40 : decode cX4_keepIfBetter 40 = .ok (.getfield 109, 3) := by decide +kernel
theorem dX4_keepIfBetter_43 : decode cX4_keepIfBetter 43 = .ok (.lsub, 1) := by decide +kernel
theorem dX4_keepIfBetter_44 : decode cX4_keepIfBetter 44 = .ok (.lload_n 3, 1) := by decide +kernel
theorem dX4_keepIfBetter_45 : decode cX4_keepIfBetter 45 = .ok (.aload_n 0, 1) := by decide +kernel
theorem dX4_keepIfBetter_46 : decode cX4_keepIfBetter 46 = .ok (.getfield 113, 3) := by decide +kernel
theorem dX4_keepIfBetter_49 : decode cX4_keepIfBetter 49 = .ok (.lsub, 1) := by decide +kernel
theorem dX4_keepIfBetter_50 : decode cX4_keepIfBetter 50 = .ok (.invokevirtual 116, 3) := by decide +kernel
theorem dX4_keepIfBetter_53 : decode cX4_keepIfBetter 53 = .ok (.ifCond .lt 4, 3) := by decide +kernel
theorem dX4_keepIfBetter_56 : decode cX4_keepIfBetter 56 = .ok (.return_, 1) := by decide +kernel
theorem dX4_keepIfBetter_57 : decode cX4_keepIfBetter 57 = .ok (.aload_n 0, 1) := by decide +kernel
theorem dX4_keepIfBetter_58 : decode cX4_keepIfBetter 58 = .ok (.aload_n 0, 1) := by decide +kernel
theorem dX4_keepIfBetter_59 : decode cX4_keepIfBetter 59 = .ok (.getfield 74, 3) := by decide +kernel
theorem dX4_keepIfBetter_62 : decode cX4_keepIfBetter 62 = .ok (.putfield 71, 3) := by decide +kernel
theorem dX4_keepIfBetter_65 : decode cX4_keepIfBetter 65 = .ok (.aload_n 0, 1) := by decide +kernel
theorem dX4_keepIfBetter_66 : decode cX4_keepIfBetter 66 = .ok (.lload_n 1, 1) := by decide +kernel
theorem dX4_keepIfBetter_67 : decode cX4_keepIfBetter 67 = .ok (.putfield 109, 3) := by decide +kernel
theorem dX4_keepIfBetter_70 : decode cX4_keepIfBetter 70 = .ok (.aload_n 0, 1) := by decide +kernel
theorem dX4_keepIfBetter_71 : decode cX4_keepIfBetter 71 = .ok (.lload_n 3, 1) := by decide +kernel
theorem dX4_keepIfBetter_72 : decode cX4_keepIfBetter 72 = .ok (.putfield 113, 3) := by decide +kernel
theorem dX4_keepIfBetter_75 : decode cX4_keepIfBetter 75 = .ok (.iconst 0, 1) := by decide +kernel
theorem dX4_keepIfBetter_76 : decode cX4_keepIfBetter 76 = .ok (.istore 5, 2) := by decide +kernel
theorem dX4_keepIfBetter_78 : decode cX4_keepIfBetter 78 = .ok (.iload 5, 2) := by decide +kernel
theorem dX4_keepIfBetter_80 : decode cX4_keepIfBetter 80 = .ok (.aload_n 0, 1) := by decide +kernel
theorem dX4_keepIfBetter_81 : decode cX4_keepIfBetter 81 = .ok (.getfield 74, 3) := by decide +kernel
theorem dX4_keepIfBetter_84 : decode cX4_keepIfBetter 84 = .ok (.if_icmp .ge 37, 3) := by decide +kernel
theorem dX4_keepIfBetter_87 : decode cX4_keepIfBetter 87 = .ok (.aload_n 0, 1) := by decide +kernel
theorem dX4_keepIfBetter_88 : decode cX4_keepIfBetter 88 = .ok (.getfield 34, 3) := by decide +kernel
theorem dX4_keepIfBetter_91 : decode cX4_keepIfBetter 91 = .ok (.iload 5, 2) := by decide +kernel
theorem dX4_keepIfBetter_93 : decode cX4_keepIfBetter 93 = .ok (.aload_n 0, 1) := by decide +kernel
theorem dX4_keepIfBetter_94 : decode cX4_keepIfBetter 94 = .ok (.getfield 28, 3) := by decide +kernel
theorem dX4_keepIfBetter_97 : decode cX4_keepIfBetter 97 = .ok (.iload 5, 2) := by decide +kernel
theorem dX4_keepIfBetter_99 : decode cX4_keepIfBetter 99 = .ok (.iaload, 1) := by decide +kernel
theorem dX4_keepIfBetter_100 : decode cX4_keepIfBetter 100 = .ok (.iastore, 1) := by decide +kernel
theorem dX4_keepIfBetter_101 : decode cX4_keepIfBetter 101 = .ok (.aload_n 0, 1) := by decide +kernel
theorem dX4_keepIfBetter_102 : decode cX4_keepIfBetter 102 = .ok (.getfield 37, 3) := by decide +kernel
theorem dX4_keepIfBetter_105 : decode cX4_keepIfBetter 105 = .ok (.iload 5, 2) := by decide +kernel
theorem dX4_keepIfBetter_107 : decode cX4_keepIfBetter 107 = .ok (.aload_n 0, 1) := by decide +kernel
theorem dX4_keepIfBetter_108 : decode cX4_keepIfBetter 108 = .ok (.getfield 31, 3) := by decide +kernel
theorem dX4_keepIfBetter_111 : decode cX4_keepIfBetter 111 = .ok (.iload 5, 2) := by decide +kernel
theorem dX4_keepIfBetter_113 : decode cX4_keepIfBetter 113 = .ok (.iaload, 1) := by decide +kernel
theorem dX4_keepIfBetter_114 : decode cX4_keepIfBetter 114 = .ok (.iastore, 1) := by decide +kernel
theorem dX4_keepIfBetter_115 : decode cX4_keepIfBetter 115 = .ok (.iinc 5 1, 3) := by decide +kernel
theorem dX4_keepIfBetter_118 : decode cX4_keepIfBetter 118 = .ok (.goto (-40), 3) := by decide +kernel
theorem dX4_keepIfBetter_121 : decode cX4_keepIfBetter 121 = .ok (.return_, 1) := by decide +kernel
theorem dX4_isWithin_0 : decode cX4_isWithin 0 = .ok (.bipush 20, 2) := by decide +kernel
theorem dX4_isWithin_2 : decode cX4_isWithin 2 = .ok (.iload_n 2, 1) := by decide +kernel
theorem dX4_isWithin_3 : decode cX4_isWithin 3 = .ok (.imul, 1) := by decide +kernel
theorem dX4_isWithin_4 : decode cX4_isWithin 4 = .ok (.i2l, 1) := by decide +kernel
theorem dX4_isWithin_5 : decode cX4_isWithin 5 = .ok (.lstore_n 3, 1) := by decide +kernel
theorem dX4_isWithin_6 : decode cX4_isWithin 6 = .ok (.aload_n 0, 1) := by decide +kernel
theorem dX4_isWithin_7 : decode cX4_isWithin 7 = .ok (.getfield 12, 3) := by decide +kernel
theorem dX4_isWithin_10 : decode cX4_isWithin 10 = .ok (.aload_n 1, 1) := by decide +kernel
theorem dX4_isWithin_11 : decode cX4_isWithin 11 = .ok (.invokestatic 102, 3) := by decide +kernel
theorem dX4_isWithin_14 : decode cX4_isWithin 14 = .ok (.lload_n 3, 1) := by decide +kernel
theorem dX4_isWithin_15 : decode cX4_isWithin 15 = .ok (.lload_n 3, 1) := by decide +kernel
theorem dX4_isWithin_16 : decode cX4_isWithin 16 = .ok (.lmul, 1) := by decide +kernel
theorem dX4_isWithin_17 : decode cX4_isWithin 17 = .ok (.lsub, 1) := by decide +kernel
theorem dX4_isWithin_18 : decode cX4_isWithin 18 = .ok (.aload_n 1, 1) := by decide +kernel
theorem dX4_isWithin_19 : decode cX4_isWithin 19 = .ok (.invokestatic 106, 3) := by decide +kernel
theorem dX4_isWithin_22 : decode cX4_isWithin 22 = .ok (.invokevirtual 116, 3) := by decide +kernel
theorem dX4_isWithin_25 : decode cX4_isWithin 25 = .ok (.ifCond .gt 7, 3) := by decide +kernel
theorem dX4_isWithin_28 : decode cX4_isWithin 28 = .ok (.iconst 1, 1) := by decide +kernel
theorem dX4_isWithin_29 : decode cX4_isWithin 29 = .ok (.goto 4, 3) := by decide +kernel
theorem dX4_isWithin_32 : decode cX4_isWithin 32 = .ok (.iconst 0, 1) := by decide +kernel
theorem dX4_isWithin_33 : decode cX4_isWithin 33 = .ok (.ireturn, 1) := by decide +kernel
theorem dX4_squareWhole_0 : decode cX4_squareWhole 0 = .ok (.aload_n 0, 1) := by decide +kernel
theorem dX4_squareWhole_1 : decode cX4_squareWhole 1 = .ok (.getfield 120, 3) := by decide +kernel
theorem dX4_squareWhole_4 : decode cX4_squareWhole 4 = .ok (.aload_n 0, 1) := by decide +kernel
theorem dX4_squareWhole_5 : decode cX4_squareWhole 5 = .ok (.getfield 120, 3) := by decide +kernel
theorem dX4_squareWhole_8 : decode cX4_squareWhole 8 = .ok (.lmul, 1) := by decide +kernel
theorem dX4_squareWhole_9 : decode cX4_squareWhole 9 = .ok (.ldc2_w 123, 3) := by decide +kernel
theorem dX4_squareWhole_12 : decode cX4_squareWhole 12 = .ok (.aload_n 0, 1) := by decide +kernel
theorem dX4_squareWhole_13 : decode cX4_squareWhole 13 = .ok (.getfield 125, 3) := by decide +kernel
theorem dX4_squareWhole_16 : decode cX4_squareWhole 16 = .ok (.lmul, 1) := by decide +kernel
theorem dX4_squareWhole_17 : decode cX4_squareWhole 17 = .ok (.aload_n 0, 1) := by decide +kernel
theorem dX4_squareWhole_18 : decode cX4_squareWhole 18 = .ok (.getfield 125, 3) := by decide +kernel
theorem dX4_squareWhole_21 : decode cX4_squareWhole 21 = .ok (.lmul, 1) := by decide +kernel
theorem dX4_squareWhole_22 : decode cX4_squareWhole 22 = .ok (.ladd, 1) := by decide +kernel
theorem dX4_squareWhole_23 : decode cX4_squareWhole 23 = .ok (.aload_n 0, 1) := by decide +kernel
theorem dX4_squareWhole_24 : decode cX4_squareWhole 24 = .ok (.getfield 128, 3) := by decide +kernel
theorem dX4_squareWhole_27 : decode cX4_squareWhole 27 = .ok (.aload_n 0, 1) := by decide +kernel
theorem dX4_squareWhole_28 : decode cX4_squareWhole 28 = .ok (.getfield 128, 3) := by decide +kernel
theorem dX4_squareWhole_31 : decode cX4_squareWhole 31 = .ok (.lmul, 1) := by decide +kernel
theorem dX4_squareWhole_32 : decode cX4_squareWhole 32 = .ok (.ladd, 1) := by decide +kernel
theorem dX4_squareWhole_33 : decode cX4_squareWhole 33 = .ok (.ldc2_w 123, 3) := by decide +kernel
theorem dX4_squareWhole_36 : decode cX4_squareWhole 36 = .ok (.aload_n 0, 1) := by decide +kernel
theorem dX4_squareWhole_37 : decode cX4_squareWhole 37 = .ok (.getfield 131, 3) := by decide +kernel
theorem dX4_squareWhole_40 : decode cX4_squareWhole 40 = .ok (.lmul, 1) := by decide +kernel
theorem dX4_squareWhole_41 : decode cX4_squareWhole 41 = .ok (.aload_n 0, 1) := by decide +kernel
theorem dX4_squareWhole_42 : decode cX4_squareWhole 42 = .ok (.getfield 131, 3) := by decide +kernel
theorem dX4_squareWhole_45 : decode cX4_squareWhole 45 = .ok (.lmul, 1) := by decide +kernel
theorem dX4_squareWhole_46 : decode cX4_squareWhole 46 = .ok (.ladd, 1) := by decide +kernel
theorem dX4_squareWhole_47 : decode cX4_squareWhole 47 = .ok (.lreturn, 1) := by decide +kernel
theorem dX4_squareRoots_0 : decode cX4_squareRoots 0 = .ok (.ldc2_w 134, 3) := by decide +kernel
theorem dX4_squareRoots_3 : decode cX4_squareRoots 3 = .ok (.aload_n 0, 1) := by decide +kernel
theorem dX4_squareRoots_4 : decode cX4_squareRoots 4 = .ok (.getfield 120, 3) := by decide +kernel
theorem dX4_squareRoots_7 : decode cX4_squareRoots 7 = .ok (.aload_n 0, 1) := by decide +kernel
theorem dX4_squareRoots_8 : decode cX4_squareRoots 8 = .ok (.getfield 125, 3) := by decide +kernel
theorem dX4_squareRoots_11 : decode cX4_squareRoots 11 = .ok (.lmul, 1) := by decide +kernel
theorem dX4_squareRoots_12 : decode cX4_squareRoots 12 = .ok (.aload_n 0, 1) := by decide +kernel
theorem dX4_squareRoots_13 : decode cX4_squareRoots 13 = .ok (.getfield 128, 3) := by decide +kernel
theorem dX4_squareRoots_16 : decode cX4_squareRoots 16 = .ok (.aload_n 0, 1) := by decide +kernel
theorem dX4_squareRoots_17 : decode cX4_squareRoots 17 = .ok (.getfield 131, 3) := by decide +kernel
theorem dX4_squareRoots_20 : decode cX4_squareRoots 20 = .ok (.lmul, 1) := by decide +kernel
theorem dX4_squareRoots_21 : decode cX4_squareRoots 21 = .ok (.ladd, 1) := by decide +kernel
theorem dX4_squareRoots_22 : decode cX4_squareRoots 22 = .ok (.lmul, 1) := by decide +kernel
theorem dX4_squareRoots_23 : decode cX4_squareRoots 23 = .ok (.lreturn, 1) := by decide +kernel
theorem dX5_init_0 : decode cX5_init 0 = .ok (.aload_n 0, 1) := by decide +kernel
theorem dX5_init_1 : decode cX5_init 1 = .ok (.invokespecial 3, 3) := by decide +kernel
theorem dX5_init_4 : decode cX5_init 4 = .ok (.aload_n 0, 1) := by decide +kernel
theorem dX5_init_5 : decode cX5_init 5 = .ok (.iconst 4, 1) := by decide +kernel
theorem dX5_init_6 : decode cX5_init 6 = .ok (.bipush 40, 2) := by decide +kernel
theorem dX5_init_8 : decode cX5_init 8 = .ok (.multianewarray 9 2, 4) := by decide +kernel
theorem dX5_init_12 : decode cX5_init 12 = .ok (.putfield 11, 3) := by decide +kernel
theorem dX5_init_15 : decode cX5_init 15 = .ok (.aload_n 0, 1) := by decide +kernel
theorem dX5_init_16 : decode cX5_init 16 = .ok (.iconst 4, 1) := by decide +kernel
theorem dX5_init_17 : decode cX5_init 17 = .ok (.newarray .int, 2) := by decide +kernel
theorem dX5_init_19 : decode cX5_init 19 = .ok (.putfield 16, 3) := by decide +kernel
theorem dX5_init_22 : decode cX5_init 22 = .ok (.aload_n 0, 1) := by decide +kernel
theorem dX5_init_23 : decode cX5_init 23 = .ok (.iconst 0, 1) := by decide +kernel
theorem dX5_init_24 : decode cX5_init 24 = .ok (.putfield 20, 3) := by decide +kernel
theorem dX5_init_27 : decode cX5_init 27 = .ok (.iconst 0, 1) := by decide +kernel
theorem dX5_init_28 : decode cX5_init 28 = .ok (.istore_n 1, 1) := by decide +kernel
theorem dX5_init_29 : decode cX5_init 29 = .ok (.iload_n 1, 1) := by decide +kernel
theorem dX5_init_30 : decode cX5_init 30 = .ok (.iconst 4, 1) := by decide +kernel
theorem dX5_init_31 : decode cX5_init 31 = .ok (.if_icmp .ge 16, 3) := by decide +kernel
theorem dX5_init_34 : decode cX5_init 34 = .ok (.aload_n 0, 1) := by decide +kernel
theorem dX5_init_35 : decode cX5_init 35 = .ok (.getfield 16, 3) := by decide +kernel
theorem dX5_init_38 : decode cX5_init 38 = .ok (.iload_n 1, 1) := by decide +kernel
theorem dX5_init_39 : decode cX5_init 39 = .ok (.iconst (-1), 1) := by decide +kernel
theorem dX5_init_40 : decode cX5_init 40 = .ok (.iastore, 1) := by decide +kernel
theorem dX5_init_41 : decode cX5_init 41 = .ok (.iinc 1 1, 3) := by decide +kernel
theorem dX5_init_44 : decode cX5_init 44 = .ok (.goto (-15), 3) := by decide +kernel
theorem dX5_init_47 : decode cX5_init 47 = .ok (.return_, 1) := by decide +kernel
theorem dX5_find_0 : decode cX5_find 0 = .ok (.aload_n 0, 1) := by decide +kernel
theorem dX5_find_1 : decode cX5_find 1 = .ok (.iload_n 1, 1) := by decide +kernel
theorem dX5_find_2 : decode cX5_find 2 = .ok (.putfield 20, 3) := by decide +kernel
theorem dX5_find_5 : decode cX5_find 5 = .ok (.bipush (-10), 2) := by decide +kernel
theorem dX5_find_7 : decode cX5_find 7 = .ok (.iload_n 1, 1) := by decide +kernel
theorem dX5_find_8 : decode cX5_find 8 = .ok (.isub, 1) := by decide +kernel
theorem dX5_find_9 : decode cX5_find 9 = .ok (.ireturn, 1) := by decide +kernel
theorem dX5_latestFinding_0 : decode cX5_latestFinding 0 = .ok (.aload_n 0, 1) := by decide +kernel
theorem dX5_latestFinding_1 : decode cX5_latestFinding 1 = .ok (.getfield 20, 3) := by decide +kernel
theorem dX5_latestFinding_4 : decode cX5_latestFinding 4 = .ok (.ireturn, 1) := by decide +kernel
theorem dX5_isLost_0 : decode cX5_isLost 0 = .ok (.aload_n 0, 1) := by decide +kernel
theorem dX5_isLost_1 : decode cX5_isLost 1 = .ok (.getfield 16, 3) := by decide +kernel
theorem dX5_isLost_4 : decode cX5_isLost 4 = .ok (.iload_n 1, 1) := by decide +kernel
theorem dX5_isLost_5 : decode cX5_isLost 5 = .ok (.iaload, 1) := by decide +kernel
theorem dX5_isLost_6 : decode cX5_isLost 6 = .ok (.iconst (-1), 1) := by decide +kernel
theorem dX5_isLost_7 : decode cX5_isLost 7 = .ok (.if_icmp .ne 7, 3) := by decide +kernel
theorem dX5_isLost_10 : decode cX5_isLost 10 = .ok (.iconst 1, 1) := by decide +kernel
theorem dX5_isLost_11 : decode cX5_isLost 11 = .ok (.goto 4, 3) := by decide +kernel
theorem dX5_isLost_14 : decode cX5_isLost 14 = .ok (.iconst 0, 1) := by decide +kernel
theorem dX5_isLost_15 : decode cX5_isLost 15 = .ok (.ireturn, 1) := by decide +kernel
theorem dX5_lacks_0 : decode cX5_lacks 0 = .ok (.iload_n 2, 1) := by decide +kernel
theorem dX5_lacks_1 : decode cX5_lacks 1 = .ok (.ifCond .lt 15, 3) := by decide +kernel
theorem dX5_lacks_4 : decode cX5_lacks 4 = .ok (.iload_n 2, 1) := by decide +kernel
theorem dX5_lacks_5 : decode cX5_lacks 5 = .ok (.aload_n 0, 1) := by decide +kernel
theorem dX5_lacks_6 : decode cX5_lacks 6 = .ok (.getfield 16, 3) := by decide +kernel
theorem dX5_lacks_9 : decode cX5_lacks 9 = .ok (.iload_n 1, 1) := by decide +kernel
theorem dX5_lacks_10 : decode cX5_lacks 10 = .ok (.iaload, 1) := by decide +kernel
theorem dX5_lacks_11 : decode cX5_lacks 11 = .ok (.iload_n 3, 1) := by decide +kernel
theorem dX5_lacks_12 : decode cX5_lacks 12 = .ok (.isub, 1) := by decide +kernel
theorem dX5_lacks_13 : decode cX5_lacks 13 = .ok (.if_icmp .le 7, 3) := by decide +kernel
theorem dX5_lacks_16 : decode cX5_lacks 16 = .ok (.iconst 1, 1) := by decide +kernel
theorem dX5_lacks_17 : decode cX5_lacks 17 = .ok (.goto 4, 3) := by decide +kernel
theorem dX5_lacks_20 : decode cX5_lacks 20 = .ok (.iconst 0, 1) := by decide +kernel
theorem dX5_lacks_21 : decode cX5_lacks 21 = .ok (.ireturn, 1) := by decide +kernel
theorem dX5_items_0 : decode cX5_items 0 = .ok (.aload_n 0, 1) := by decide +kernel
theorem dX5_items_1 : decode cX5_items 1 = .ok (.getfield 16, 3) := by decide +kernel
theorem dX5_items_4 : decode cX5_items 4 = .ok (.iload_n 1, 1) := by decide +kernel
theorem dX5_items_5 : decode cX5_items 5 = .ok (.iaload, 1) := by decide +kernel
theorem dX5_items_6 : decode cX5_items 6 = .ok (.ireturn, 1) := by decide +kernel
theorem dX5_renew_0 : decode cX5_renew 0 = .ok (.aload_n 0, 1) := by decide +kernel
theorem dX5_renew_1 : decode cX5_renew 1 = .ok (.getfield 16, 3) := by decide +kernel
theorem dX5_renew_4 : decode cX5_renew 4 = .ok (.iload_n 1, 1) := by decide +kernel
theorem dX5_renew_5 : decode cX5_renew 5 = .ok (.iload_n 2, 1) := by decide +kernel
theorem dX5_renew_6 : decode cX5_renew 6 = .ok (.iastore, 1) := by decide +kernel
theorem dX5_renew_7 : decode cX5_renew 7 = .ok (.iconst 0, 1) := by decide +kernel
theorem dX5_renew_8 : decode cX5_renew 8 = .ok (.istore_n 3, 1) := by decide +kernel
theorem dX5_renew_9 : decode cX5_renew 9 = .ok (.iload_n 3, 1) := by decide +kernel
theorem dX5_renew_10 : decode cX5_renew 10 = .ok (.iload_n 2, 1) := by decide +kernel
theorem dX5_renew_11 : decode cX5_renew 11 = .ok (.if_icmp .ge 18, 3) := by decide +kernel
theorem dX5_renew_14 : decode cX5_renew 14 = .ok (.aload_n 0, 1) := by decide +kernel
theorem dX5_renew_15 : decode cX5_renew 15 = .ok (.getfield 11, 3) := by decide +kernel
theorem dX5_renew_18 : decode cX5_renew 18 = .ok (.iload_n 1, 1) := by decide +kernel
theorem dX5_renew_19 : decode cX5_renew 19 = .ok (.aaload, 1) := by decide +kernel
theorem dX5_renew_20 : decode cX5_renew 20 = .ok (.iload_n 3, 1) := by decide +kernel
theorem dX5_renew_21 : decode cX5_renew 21 = .ok (.lconst 0, 1) := by decide +kernel
theorem dX5_renew_22 : decode cX5_renew 22 = .ok (.lastore, 1) := by decide +kernel
theorem dX5_renew_23 : decode cX5_renew 23 = .ok (.iinc 3 1, 3) := by decide +kernel
theorem dX5_renew_26 : decode cX5_renew 26 = .ok (.goto (-17), 3) := by decide +kernel
theorem dX5_renew_29 : decode cX5_renew 29 = .ok (.return_, 1) := by decide +kernel
theorem dX5_drop_0 : decode cX5_drop 0 = .ok (.aload_n 0, 1) := by decide +kernel
theorem dX5_drop_1 : decode cX5_drop 1 = .ok (.getfield 16, 3) := by decide +kernel
theorem dX5_drop_4 : decode cX5_drop 4 = .ok (.iload_n 1, 1) := by decide +kernel
theorem dX5_drop_5 : decode cX5_drop 5 = .ok (.iconst (-1), 1) := by decide +kernel
theorem dX5_drop_6 : decode cX5_drop 6 = .ok (.iastore, 1) := by decide +kernel
theorem dX5_drop_7 : decode cX5_drop 7 = .ok (.return_, 1) := by decide +kernel
theorem dX5_item_0 : decode cX5_item 0 = .ok (.aload_n 0, 1) := by decide +kernel
theorem dX5_item_1 : decode cX5_item 1 = .ok (.getfield 11, 3) := by decide +kernel
theorem dX5_item_4 : decode cX5_item 4 = .ok (.iload_n 1, 1) := by decide +kernel
theorem dX5_item_5 : decode cX5_item 5 = .ok (.aaload, 1) := by decide +kernel
theorem dX5_item_6 : decode cX5_item 6 = .ok (.iload_n 2, 1) := by decide +kernel
theorem dX5_item_7 : decode cX5_item 7 = .ok (.laload, 1) := by decide +kernel
theorem dX5_item_8 : decode cX5_item 8 = .ok (.lreturn, 1) := by decide +kernel
theorem dX5_store_0 : decode cX5_store 0 = .ok (.aload_n 0, 1) := by decide +kernel
theorem dX5_store_1 : decode cX5_store 1 = .ok (.getfield 11, 3) := by decide +kernel
theorem dX5_store_4 : decode cX5_store 4 = .ok (.iload_n 1, 1) := by decide +kernel
theorem dX5_store_5 : decode cX5_store 5 = .ok (.aaload, 1) := by decide +kernel
theorem dX5_store_6 : decode cX5_store 6 = .ok (.iload_n 2, 1) := by decide +kernel
theorem dX5_store_7 : decode cX5_store 7 = .ok (.lload_n 3, 1) := by decide +kernel
theorem dX5_store_8 : decode cX5_store 8 = .ok (.lastore, 1) := by decide +kernel
theorem dX5_store_9 : decode cX5_store 9 = .ok (.return_, 1) := by decide +kernel
theorem dX5_move_0 : decode cX5_move 0 = .ok (.aload_n 0, 1) := by decide +kernel
theorem dX5_move_1 : decode cX5_move 1 = .ok (.getfield 11, 3) := by decide +kernel
theorem dX5_move_4 : decode cX5_move 4 = .ok (.iload_n 1, 1) := by decide +kernel
theorem dX5_move_5 : decode cX5_move 5 = .ok (.aaload, 1) := by decide +kernel
theorem dX5_move_6 : decode cX5_move 6 = .ok (.iload_n 2, 1) := by decide +kernel
theorem dX5_move_7 : decode cX5_move 7 = .ok (.aload_n 0, 1) := by decide +kernel
theorem dX5_move_8 : decode cX5_move 8 = .ok (.getfield 11, 3) := by decide +kernel
theorem dX5_move_11 : decode cX5_move 11 = .ok (.iload_n 3, 1) := by decide +kernel
theorem dX5_move_12 : decode cX5_move 12 = .ok (.aaload, 1) := by decide +kernel
theorem dX5_move_13 : decode cX5_move 13 = .ok (.iload 4, 2) := by decide +kernel
theorem dX5_move_15 : decode cX5_move 15 = .ok (.iload 5, 2) := by decide +kernel
theorem dX5_move_17 : decode cX5_move 17 = .ok (.invokestatic 24, 3) := by decide +kernel
theorem dX5_move_20 : decode cX5_move 20 = .ok (.return_, 1) := by decide +kernel
theorem dX6_init_0 : decode cX6_init 0 = .ok (.aload_n 0, 1) := by decide +kernel
theorem dX6_init_1 : decode cX6_init 1 = .ok (.invokespecial 3, 3) := by decide +kernel
theorem dX6_init_4 : decode cX6_init 4 = .ok (.aload_n 0, 1) := by decide +kernel
theorem dX6_init_5 : decode cX6_init 5 = .ok (.new 9, 3) := by decide +kernel
theorem dX6_init_8 : decode cX6_init 8 = .ok (.dup, 1) := by decide +kernel
theorem dX6_init_9 : decode cX6_init 9 = .ok (.invokespecial 11, 3) := by decide +kernel
theorem dX6_init_12 : decode cX6_init 12 = .ok (.putfield 12, 3) := by decide +kernel
theorem dX6_init_15 : decode cX6_init 15 = .ok (.aload_n 0, 1) := by decide +kernel
theorem dX6_init_16 : decode cX6_init 16 = .ok (.new 9, 3) := by decide +kernel
theorem dX6_init_19 : decode cX6_init 19 = .ok (.dup, 1) := by decide +kernel
theorem dX6_init_20 : decode cX6_init 20 = .ok (.invokespecial 11, 3) := by decide +kernel
theorem dX6_init_23 : decode cX6_init 23 = .ok (.putfield 18, 3) := by decide +kernel
theorem dX6_init_26 : decode cX6_init 26 = .ok (.return_, 1) := by decide +kernel
theorem dX6_share_0 : decode cX6_share 0 = .ok (.iload_n 1, 1) := by decide +kernel
theorem dX6_share_1 : decode cX6_share 1 = .ok (.iload_n 2, 1) := by decide +kernel
theorem dX6_share_2 : decode cX6_share 2 = .ok (.ishr, 1) := by decide +kernel
theorem dX6_share_3 : decode cX6_share 3 = .ok (.iconst 1, 1) := by decide +kernel
theorem dX6_share_4 : decode cX6_share 4 = .ok (.iand, 1) := by decide +kernel
theorem dX6_share_5 : decode cX6_share 5 = .ok (.ifCond .eq 40, 3) := by decide +kernel
theorem dX6_share_8 : decode cX6_share 8 = .ok (.aload_n 0, 1) := by decide +kernel
theorem dX6_share_9 : decode cX6_share 9 = .ok (.iload_n 2, 1) := by decide +kernel
theorem dX6_share_10 : decode cX6_share 10 = .ok (.putfield 21, 3) := by decide +kernel
theorem dX6_share_13 : decode cX6_share 13 = .ok (.aload_n 0, 1) := by decide +kernel
theorem dX6_share_14 : decode cX6_share 14 = .ok (.iconst (-1), 1) := by decide +kernel
theorem dX6_share_15 : decode cX6_share 15 = .ok (.putfield 25, 3) := by decide +kernel
theorem dX6_share_18 : decode cX6_share 18 = .ok (.aload_n 0, 1) := by decide +kernel
theorem dX6_share_19 : decode cX6_share 19 = .ok (.getfield 12, 3) := by decide +kernel
theorem dX6_share_22 : decode cX6_share 22 = .ok (.iload_n 3, 1) := by decide +kernel
theorem dX6_share_23 : decode cX6_share 23 = .ok (.i2l, 1) := by decide +kernel
theorem dX6_share_24 : decode cX6_share 24 = .ok (.lconst 0, 1) := by decide +kernel
theorem dX6_share_25 : decode cX6_share 25 = .ok (.lconst 0, 1) := by decide +kernel
theorem dX6_share_26 : decode cX6_share 26 = .ok (.lconst 0, 1) := by decide +kernel
theorem dX6_share_27 : decode cX6_share 27 = .ok (.lconst 1, 1) := by decide +kernel
theorem dX6_share_28 : decode cX6_share 28 = .ok (.invokevirtual 28, 3) := by decide +kernel
theorem dX6_share_31 : decode cX6_share 31 = .ok (.aload_n 0, 1) := by decide +kernel
theorem dX6_share_32 : decode cX6_share 32 = .ok (.getfield 18, 3) := by decide +kernel
theorem dX6_share_35 : decode cX6_share 35 = .ok (.lconst 0, 1) := by decide +kernel
theorem dX6_share_36 : decode cX6_share 36 = .ok (.lconst 0, 1) := by decide +kernel
theorem dX6_share_37 : decode cX6_share 37 = .ok (.lconst 0, 1) := by decide +kernel
theorem dX6_share_38 : decode cX6_share 38 = .ok (.lconst 0, 1) := by decide +kernel
theorem dX6_share_39 : decode cX6_share 39 = .ok (.lconst 1, 1) := by decide +kernel
theorem dX6_share_40 : decode cX6_share 40 = .ok (.invokevirtual 28, 3) := by decide +kernel
theorem dX6_share_43 : decode cX6_share 43 = .ok (.iconst 1, 1) := by decide +kernel
theorem dX6_share_44 : decode cX6_share 44 = .ok (.ireturn, 1) := by decide +kernel
theorem dX6_share_45 : decode cX6_share 45 = .ok (.iload_n 1, 1) := by decide +kernel
theorem dX6_share_46 : decode cX6_share 46 = .ok (.iload_n 2, 1) := by decide +kernel
theorem dX6_share_47 : decode cX6_share 47 = .ok (.bipush 11, 2) := by decide +kernel
theorem dX6_share_49 : decode cX6_share 49 = .ok (.invokestatic 32, 3) := by decide +kernel
theorem dX6_share_52 : decode cX6_share 52 = .ok (.istore 4, 2) := by decide +kernel
theorem dX6_share_54 : decode cX6_share 54 = .ok (.iload_n 1, 1) := by decide +kernel
theorem dX6_share_55 : decode cX6_share 55 = .ok (.iload_n 2, 1) := by decide +kernel
theorem dX6_share_56 : decode cX6_share 56 = .ok (.iconst 1, 1) := by decide +kernel
theorem dX6_share_57 : decode cX6_share 57 = .ok (.invokestatic 32, 3) := by decide +kernel
theorem dX6_share_60 : decode cX6_share 60 = .ok (.istore 5, 2) := by decide +kernel
theorem dX6_share_62 : decode cX6_share 62 = .ok (.iload 4, 2) := by decide +kernel
theorem dX6_share_64 : decode cX6_share 64 = .ok (.iload 5, 2) := by decide +kernel
theorem dX6_share_66 : decode cX6_share 66 = .ok (.iadd, 1) := by decide +kernel
theorem dX6_share_67 : decode cX6_share 67 = .ok (.bipush 6, 2) := by decide +kernel
theorem dX6_share_69 : decode cX6_share 69 = .ok (.if_icmp .lt 5, 3) := by decide +kernel
theorem dX6_share_72 : decode cX6_share 72 = .ok (.iconst 0, 1) := by decide +kernel
theorem dX6_share_73 : decode cX6_share 73 = .ok (.ireturn, 1) := by decide +kernel
theorem dX6_share_74 : decode cX6_share 74 = .ok (.aload_n 0, 1) := by decide +kernel
theorem dX6_share_75 : decode cX6_share 75 = .ok (.iload_n 2, 1) := by decide +kernel
theorem dX6_share_76 : decode cX6_share 76 = .ok (.bipush 12, 2) := by decide +kernel
theorem dX6_share_78 : decode cX6_share 78 = .ok (.iadd, 1) := by decide +kernel
theorem dX6_share_79 : decode cX6_share 79 = .ok (.iload 4, 2) := by decide +kernel
theorem dX6_share_81 : decode cX6_share 81 = .ok (.isub, 1) := by decide +kernel
theorem dX6_share_82 : decode cX6_share 82 = .ok (.bipush 12, 2) := by decide +kernel
theorem dX6_share_84 : decode cX6_share 84 = .ok (.irem, 1) := by decide +kernel
theorem dX6_share_85 : decode cX6_share 85 = .ok (.putfield 21, 3) := by decide +kernel
theorem dX6_share_88 : decode cX6_share 88 = .ok (.aload_n 0, 1) := by decide +kernel
theorem dX6_share_89 : decode cX6_share 89 = .ok (.iload_n 2, 1) := by decide +kernel
theorem dX6_share_90 : decode cX6_share 90 = .ok (.iload 5, 2) := by decide +kernel
theorem dX6_share_92 : decode cX6_share 92 = .ok (.iadd, 1) := by decide +kernel
theorem dX6_share_93 : decode cX6_share 93 = .ok (.bipush 12, 2) := by decide +kernel
theorem dX6_share_95 : decode cX6_share 95 = .ok (.irem, 1) := by decide +kernel
theorem dX6_share_96 : decode cX6_share 96 = .ok (.putfield 25, 3) := by decide +kernel
theorem dX6_share_99 : decode cX6_share 99 = .ok (.iload_n 3, 1) := by decide +kernel
theorem dX6_share_100 : decode cX6_share 100 = .ok (.iload 5, 2) := by decide +kernel
theorem dX6_share_102 : decode cX6_share 102 = .ok (.iload 4, 2) := by decide +kernel
theorem dX6_share_104 : decode cX6_share 104 = .ok (.iload 5, 2) := by decide +kernel
theorem dX6_share_106 : decode cX6_share 106 = .ok (.iadd, 1) := by decide +kernel
theorem dX6_share_107 : decode cX6_share 107 = .ok (.aload_n 0, 1) := by decide +kernel
theorem dX6_share_108 : decode cX6_share 108 = .ok (.getfield 12, 3) := by decide +kernel
theorem dX6_share_111 : decode cX6_share 111 = .ok (.invokestatic 36, 3) := by decide +kernel
theorem dX6_share_114 : decode cX6_share 114 = .ok (.iload_n 3, 1) := by decide +kernel
theorem dX6_share_115 : decode cX6_share 115 = .ok (.iload 4, 2) := by decide +kernel
theorem dX6_share_117 : decode cX6_share 117 = .ok (.iload 4, 2) := by decide +kernel
theorem dX6_share_119 : decode cX6_share 119 = .ok (.iload 5, 2) := by decide +kernel
theorem dX6_share_121 : decode cX6_share 121 = .ok (.iadd, 1) := by decide +kernel
theorem dX6_share_122 : decode cX6_share 122 = .ok (.aload_n 0, 1) := by decide +kernel
theorem dX6_share_123 : decode cX6_share 123 = .ok (.getfield 18, 3) := by decide +kernel
theorem dX6_share_126 : decode cX6_share 126 = .ok (.invokestatic 36, 3) := by decide +kernel
theorem dX6_share_129 : decode cX6_share 129 = .ok (.iconst 1, 1) := by decide +kernel
theorem dX6_share_130 : decode cX6_share 130 = .ok (.ireturn, 1) := by decide +kernel
theorem dX6_told_0 : decode cX6_told 0 = .ok (.iload_n 1, 1) := by decide +kernel
theorem dX6_told_1 : decode cX6_told 1 = .ok (.tableswitch 103 0 6 #[43, 48, 58, 68, 78, 83, 93], 43) := by decide +kernel
theorem dX6_told_44 : decode cX6_told 44 = .ok (.aload_n 0, 1) := by decide +kernel
theorem dX6_told_45 : decode cX6_told 45 = .ok (.getfield 21, 3) := by decide +kernel
theorem dX6_told_48 : decode cX6_told 48 = .ok (.ireturn, 1) := by decide +kernel
theorem dX6_told_49 : decode cX6_told 49 = .ok (.aload_n 0, 1) := by decide +kernel
theorem dX6_told_50 : decode cX6_told 50 = .ok (.getfield 12, 3) := by decide +kernel
theorem dX6_told_53 : decode cX6_told 53 = .ok (.iconst 0, 1) := by decide +kernel
theorem dX6_told_54 : decode cX6_told 54 = .ok (.invokevirtual 40, 3) := by decide +kernel
theorem dX6_told_57 : decode cX6_told 57 = .ok (.l2i, 1) := by decide +kernel
theorem dX6_told_58 : decode cX6_told 58 = .ok (.ireturn, 1) := by decide +kernel
theorem dX6_told_59 : decode cX6_told 59 = .ok (.aload_n 0, 1) := by decide +kernel
theorem dX6_told_60 : decode cX6_told 60 = .ok (.getfield 12, 3) := by decide +kernel
theorem dX6_told_63 : decode cX6_told 63 = .ok (.iconst 1, 1) := by decide +kernel
theorem dX6_told_64 : decode cX6_told 64 = .ok (.invokevirtual 40, 3) := by decide +kernel
theorem dX6_told_67 : decode cX6_told 67 = .ok (.l2i, 1) := by decide +kernel
theorem dX6_told_68 : decode cX6_told 68 = .ok (.ireturn, 1) := by decide +kernel
theorem dX6_told_69 : decode cX6_told 69 = .ok (.aload_n 0, 1) := by decide +kernel
theorem dX6_told_70 : decode cX6_told 70 = .ok (.getfield 12, 3) := by decide +kernel
theorem dX6_told_73 : decode cX6_told 73 = .ok (.iconst 4, 1) := by decide +kernel
theorem dX6_told_74 : decode cX6_told 74 = .ok (.invokevirtual 40, 3) := by decide +kernel
theorem dX6_told_77 : decode cX6_told 77 = .ok (.l2i, 1) := by decide +kernel
theorem dX6_told_78 : decode cX6_told 78 = .ok (.ireturn, 1) := by decide +kernel
theorem dX6_told_79 : decode cX6_told 79 = .ok (.aload_n 0, 1) := by decide +kernel
theorem dX6_told_80 : decode cX6_told 80 = .ok (.getfield 25, 3) := by decide +kernel
theorem dX6_told_83 : decode cX6_told 83 = .ok (.ireturn, 1) := by decide +kernel
theorem dX6_told_84 : decode cX6_told 84 = .ok (.aload_n 0, 1) := by decide +kernel
theorem dX6_told_85 : decode cX6_told 85 = .ok (.getfield 18, 3) := by decide +kernel
theorem dX6_told_88 : decode cX6_told 88 = .ok (.iconst 0, 1) := by decide +kernel
theorem dX6_told_89 : decode cX6_told 89 = .ok (.invokevirtual 40, 3) := by decide +kernel
theorem dX6_told_92 : decode cX6_told 92 = .ok (.l2i, 1) := by decide +kernel
theorem dX6_told_93 : decode cX6_told 93 = .ok (.ireturn, 1) := by decide +kernel
theorem dX6_told_94 : decode cX6_told 94 = .ok (.aload_n 0, 1) := by decide +kernel
theorem dX6_told_95 : decode cX6_told 95 = .ok (.getfield 18, 3) := by decide +kernel
theorem dX6_told_98 : decode cX6_told 98 = .ok (.iconst 1, 1) := by decide +kernel
theorem dX6_told_99 : decode cX6_told 99 = .ok (.invokevirtual 40, 3) := by decide +kernel
theorem dX6_told_102 : decode cX6_told 102 = .ok (.l2i, 1) := by decide +kernel
theorem dX6_told_103 : decode cX6_told 103 = .ok (.ireturn, 1) := by decide +kernel
theorem dX6_told_104 : decode cX6_told 104 = .ok (.aload_n 0, 1) := by decide +kernel
theorem dX6_told_105 : decode cX6_told 105 = .ok (.getfield 18, 3) := by decide +kernel
theorem dX6_told_108 : decode cX6_told 108 = .ok (.iconst 4, 1) := by decide +kernel
theorem dX6_told_109 : decode cX6_told 109 = .ok (.invokevirtual 40, 3) := by decide +kernel
theorem dX6_told_112 : decode cX6_told 112 = .ok (.l2i, 1) := by decide +kernel
theorem dX6_told_113 : decode cX6_told 113 = .ok (.ireturn, 1) := by decide +kernel
theorem dX6_far_0 : decode cX6_far 0 = .ok (.iconst 1, 1) := by decide +kernel
theorem dX6_far_1 : decode cX6_far 1 = .ok (.istore_n 3, 1) := by decide +kernel
theorem dX6_far_2 : decode cX6_far 2 = .ok (.iload_n 3, 1) := by decide +kernel
theorem dX6_far_3 : decode cX6_far 3 = .ok (.bipush 12, 2) := by decide +kernel
theorem dX6_far_5 : decode cX6_far 5 = .ok (.if_icmp .ge 26, 3) := by decide +kernel
theorem dX6_far_8 : decode cX6_far 8 = .ok (.iload_n 0, 1) := by decide +kernel
theorem dX6_far_9 : decode cX6_far 9 = .ok (.iload_n 1, 1) := by decide +kernel
theorem dX6_far_10 : decode cX6_far 10 = .ok (.iload_n 2, 1) := by decide +kernel
theorem dX6_far_11 : decode cX6_far 11 = .ok (.iload_n 3, 1) := by decide +kernel
theorem dX6_far_12 : decode cX6_far 12 = .ok (.imul, 1) := by decide +kernel
theorem dX6_far_13 : decode cX6_far 13 = .ok (.iadd, 1) := by decide +kernel
theorem dX6_far_14 : decode cX6_far 14 = .ok (.bipush 12, 2) := by decide +kernel
theorem dX6_far_16 : decode cX6_far 16 = .ok (.irem, 1) := by decide +kernel
theorem dX6_far_17 : decode cX6_far 17 = .ok (.ishr, 1) := by decide +kernel
theorem dX6_far_18 : decode cX6_far 18 = .ok (.iconst 1, 1) := by decide +kernel
theorem dX6_far_19 : decode cX6_far 19 = .ok (.iand, 1) := by decide +kernel
theorem dX6_far_20 : decode cX6_far 20 = .ok (.ifCond .eq 5, 3) := by decide +kernel
theorem dX6_far_23 : decode cX6_far 23 = .ok (.iload_n 3, 1) := by decide +kernel
theorem dX6_far_24 : decode cX6_far 24 = .ok (.ireturn, 1) := by decide +kernel
theorem dX6_far_25 : decode cX6_far 25 = .ok (.iinc 3 1, 3) := by decide +kernel
theorem dX6_far_28 : decode cX6_far 28 = .ok (.goto (-26), 3) := by decide +kernel
theorem dX6_far_31 : decode cX6_far 31 = .ok (.bipush 12, 2) := by decide +kernel
theorem dX6_far_33 : decode cX6_far 33 = .ok (.ireturn, 1) := by decide +kernel
theorem dX6_apportion_0 : decode cX6_apportion 0 = .ok (.iload_n 0, 1) := by decide +kernel
theorem dX6_apportion_1 : decode cX6_apportion 1 = .ok (.getstatic 44, 3) := by decide +kernel
theorem dX6_apportion_4 : decode cX6_apportion 4 = .ok (.iconst 2, 1) := by decide +kernel
theorem dX6_apportion_5 : decode cX6_apportion 5 = .ok (.iload_n 1, 1) := by decide +kernel
theorem dX6_apportion_6 : decode cX6_apportion 6 = .ok (.imul, 1) := by decide +kernel
theorem dX6_apportion_7 : decode cX6_apportion 7 = .ok (.iaload, 1) := by decide +kernel
theorem dX6_apportion_8 : decode cX6_apportion 8 = .ok (.imul, 1) := by decide +kernel
theorem dX6_apportion_9 : decode cX6_apportion 9 = .ok (.istore 4, 2) := by decide +kernel
theorem dX6_apportion_11 : decode cX6_apportion 11 = .ok (.iload_n 0, 1) := by decide +kernel
theorem dX6_apportion_12 : decode cX6_apportion 12 = .ok (.getstatic 44, 3) := by decide +kernel
theorem dX6_apportion_15 : decode cX6_apportion 15 = .ok (.iconst 2, 1) := by decide +kernel
theorem dX6_apportion_16 : decode cX6_apportion 16 = .ok (.iload_n 1, 1) := by decide +kernel
theorem dX6_apportion_17 : decode cX6_apportion 17 = .ok (.imul, 1) := by decide +kernel
theorem dX6_apportion_18 : decode cX6_apportion 18 = .ok (.iconst 1, 1) := by decide +kernel
theorem dX6_apportion_19 : decode cX6_apportion 19 = .ok (.iadd, 1) := by decide +kernel
theorem dX6_apportion_20 : decode cX6_apportion 20 = .ok (.iaload, 1) := by decide +kernel
theorem dX6_apportion_21 : decode cX6_apportion 21 = .ok (.imul, 1) := by decide +kernel
theorem dX6_apportion_22 : decode cX6_apportion 22 = .ok (.istore 5, 2) := by decide +kernel
theorem dX6_apportion_24 : decode cX6_apportion 24 = .ok (.iload_n 2, 1) := by decide +kernel
theorem dX6_apportion_25 : decode cX6_apportion 25 = .ok (.iconst 5, 1) := by decide +kernel
theorem dX6_apportion_26 : decode cX6_apportion 26 = .ok (.if_icmp .ne 19, 3) := by decide +kernel
theorem dX6_apportion_29 : decode cX6_apportion 29 = .ok (.aload_n 3, 1) := by decide +kernel
theorem dX6_apportion_30 : decode cX6_apportion 30 = .ok (.iload 4, 2) := by decide +kernel
theorem dX6_apportion_32 : decode cX6_apportion 32 = .ok (.i2l, 1) := by decide +kernel
theorem dX6_apportion_33 : decode cX6_apportion 33 = .ok (.iload 5, 2) := by decide +kernel
theorem dX6_apportion_35 : decode cX6_apportion 35 = .ok (.i2l, 1) := by decide +kernel
theorem dX6_apportion_36 : decode cX6_apportion 36 = .ok (.lconst 0, 1) := by decide +kernel
theorem dX6_apportion_37 : decode cX6_apportion 37 = .ok (.lconst 0, 1) := by decide +kernel
theorem dX6_apportion_38 : decode cX6_apportion 38 = .ok (.lconst 1, 1) := by decide +kernel
theorem dX6_apportion_39 : decode cX6_apportion 39 = .ok (.invokevirtual 28, 3) := by decide +kernel
theorem dX6_apportion_42 : decode cX6_apportion 42 = .ok (.goto 43, 3) := by decide +kernel
theorem dX6_apportion_45 : decode cX6_apportion 45 = .ok (.iload_n 2, 1) := by decide +kernel
theorem dX6_apportion_46 : decode cX6_apportion 46 = .ok (.iconst 3, 1) := by decide +kernel
theorem dX6_apportion_47 : decode cX6_apportion 47 = .ok (.if_icmp .ne 21, 3) := by decide +kernel
theorem dX6_apportion_50 : decode cX6_apportion 50 = .ok (.aload_n 3, 1) := by decide +kernel
theorem dX6_apportion_51 : decode cX6_apportion 51 = .ok (.iload 4, 2) := by decide +kernel
theorem dX6_apportion_53 : decode cX6_apportion 53 = .ok (.i2l, 1) := by decide +kernel
theorem dX6_apportion_54 : decode cX6_apportion 54 = .ok (.iload 5, 2) := by decide +kernel
theorem dX6_apportion_56 : decode cX6_apportion 56 = .ok (.i2l, 1) := by decide +kernel
theorem dX6_apportion_57 : decode cX6_apportion 57 = .ok (.lconst 0, 1) := by decide +kernel
theorem dX6_apportion_58 : decode cX6_apportion 58 = .ok (.lconst 0, 1) := by decide +kernel
theorem dX6_apportion_59 : decode cX6_apportion 59 = .ok (.ldc2_w 48, 3) := by decide +kernel
theorem dX6_apportion_62 : decode cX6_apportion 62 = .ok (.invokevirtual 28, 3) := by decide +kernel
theorem dX6_apportion_65 : decode cX6_apportion 65 = .ok (.goto 20, 3) := by decide +kernel
theorem dX6_apportion_68 : decode cX6_apportion 68 = .ok (.aload_n 3, 1) := by decide +kernel
theorem dX6_apportion_69 : decode cX6_apportion 69 = .ok (.iconst 3, 1) := by decide +kernel
theorem dX6_apportion_70 : decode cX6_apportion 70 = .ok (.iload 5, 2) := by decide +kernel
theorem dX6_apportion_72 : decode cX6_apportion 72 = .ok (.imul, 1) := by decide +kernel
theorem dX6_apportion_73 : decode cX6_apportion 73 = .ok (.i2l, 1) := by decide +kernel
theorem dX6_apportion_74 : decode cX6_apportion 74 = .ok (.iload 4, 2) := by decide +kernel
theorem dX6_apportion_76 : decode cX6_apportion 76 = .ok (.i2l, 1) := by decide +kernel
theorem dX6_apportion_77 : decode cX6_apportion 77 = .ok (.lconst 0, 1) := by decide +kernel
theorem dX6_apportion_78 : decode cX6_apportion 78 = .ok (.lconst 0, 1) := by decide +kernel
theorem dX6_apportion_79 : decode cX6_apportion 79 = .ok (.ldc2_w 50, 3) := by decide +kernel
theorem dX6_apportion_82 : decode cX6_apportion 82 = .ok (.invokevirtual 28, 3) := by decide +kernel
theorem dX6_apportion_85 : decode cX6_apportion 85 = .ok (.aload_n 3, 1) := by decide +kernel
theorem dX6_apportion_86 : decode cX6_apportion 86 = .ok (.invokevirtual 52, 3) := by decide +kernel
theorem dX6_apportion_89 : decode cX6_apportion 89 = .ok (.return_, 1) := by decide +kernel
theorem dJ13_signum_95d88_0 : decode cJ13_signum_95d88 0 = .ok (.lload_n 0, 1) := by decide +kernel
theorem dJ13_signum_95d88_1 : decode cJ13_signum_95d88 1 = .ok (.bipush 63, 2) := by decide +kernel
theorem dJ13_signum_95d88_3 : decode cJ13_signum_95d88 3 = .ok (.lshr, 1) := by decide +kernel
theorem dJ13_signum_95d88_4 : decode cJ13_signum_95d88 4 = .ok (.lload_n 0, 1) := by decide +kernel
theorem dJ13_signum_95d88_5 : decode cJ13_signum_95d88 5 = .ok (.lneg, 1) := by decide +kernel
theorem dJ13_signum_95d88_6 : decode cJ13_signum_95d88 6 = .ok (.bipush 63, 2) := by decide +kernel
theorem dJ13_signum_95d88_8 : decode cJ13_signum_95d88 8 = .ok (.lushr, 1) := by decide +kernel
theorem dJ13_signum_95d88_9 : decode cJ13_signum_95d88 9 = .ok (.lor, 1) := by decide +kernel
theorem dJ13_signum_95d88_10 : decode cJ13_signum_95d88 10 = .ok (.l2i, 1) := by decide +kernel
theorem dJ13_signum_95d88_11 : decode cJ13_signum_95d88 11 = .ok (.ireturn, 1) := by decide +kernel
theorem dJ6_bitCount_0f7a4_0 : decode cJ6_bitCount_0f7a4 0 = .ok (.iload_n 0, 1) := by decide +kernel
theorem dJ6_bitCount_0f7a4_1 : decode cJ6_bitCount_0f7a4 1 = .ok (.iload_n 0, 1) := by decide +kernel
theorem dJ6_bitCount_0f7a4_2 : decode cJ6_bitCount_0f7a4 2 = .ok (.iconst 1, 1) := by decide +kernel
theorem dJ6_bitCount_0f7a4_3 : decode cJ6_bitCount_0f7a4 3 = .ok (.iushr, 1) := by decide +kernel
theorem dJ6_bitCount_0f7a4_4 : decode cJ6_bitCount_0f7a4 4 = .ok (.ldc_w 265, 3) := by decide +kernel
theorem dJ6_bitCount_0f7a4_7 : decode cJ6_bitCount_0f7a4 7 = .ok (.iand, 1) := by decide +kernel
theorem dJ6_bitCount_0f7a4_8 : decode cJ6_bitCount_0f7a4 8 = .ok (.isub, 1) := by decide +kernel
theorem dJ6_bitCount_0f7a4_9 : decode cJ6_bitCount_0f7a4 9 = .ok (.istore_n 0, 1) := by decide +kernel
theorem dJ6_bitCount_0f7a4_10 : decode cJ6_bitCount_0f7a4 10 = .ok (.iload_n 0, 1) := by decide +kernel
theorem dJ6_bitCount_0f7a4_11 : decode cJ6_bitCount_0f7a4 11 = .ok (.ldc_w 266, 3) := by decide +kernel
theorem dJ6_bitCount_0f7a4_14 : decode cJ6_bitCount_0f7a4 14 = .ok (.iand, 1) := by decide +kernel
theorem dJ6_bitCount_0f7a4_15 : decode cJ6_bitCount_0f7a4 15 = .ok (.iload_n 0, 1) := by decide +kernel
theorem dJ6_bitCount_0f7a4_16 : decode cJ6_bitCount_0f7a4 16 = .ok (.iconst 2, 1) := by decide +kernel
theorem dJ6_bitCount_0f7a4_17 : decode cJ6_bitCount_0f7a4 17 = .ok (.iushr, 1) := by decide +kernel
theorem dJ6_bitCount_0f7a4_18 : decode cJ6_bitCount_0f7a4 18 = .ok (.ldc_w 266, 3) := by decide +kernel
theorem dJ6_bitCount_0f7a4_21 : decode cJ6_bitCount_0f7a4 21 = .ok (.iand, 1) := by decide +kernel
theorem dJ6_bitCount_0f7a4_22 : decode cJ6_bitCount_0f7a4 22 = .ok (.iadd, 1) := by decide +kernel
theorem dJ6_bitCount_0f7a4_23 : decode cJ6_bitCount_0f7a4 23 = .ok (.istore_n 0, 1) := by decide +kernel
theorem dJ6_bitCount_0f7a4_24 : decode cJ6_bitCount_0f7a4 24 = .ok (.iload_n 0, 1) := by decide +kernel
theorem dJ6_bitCount_0f7a4_25 : decode cJ6_bitCount_0f7a4 25 = .ok (.iload_n 0, 1) := by decide +kernel
theorem dJ6_bitCount_0f7a4_26 : decode cJ6_bitCount_0f7a4 26 = .ok (.iconst 4, 1) := by decide +kernel
theorem dJ6_bitCount_0f7a4_27 : decode cJ6_bitCount_0f7a4 27 = .ok (.iushr, 1) := by decide +kernel
theorem dJ6_bitCount_0f7a4_28 : decode cJ6_bitCount_0f7a4 28 = .ok (.iadd, 1) := by decide +kernel
theorem dJ6_bitCount_0f7a4_29 : decode cJ6_bitCount_0f7a4 29 = .ok (.ldc_w 267, 3) := by decide +kernel
theorem dJ6_bitCount_0f7a4_32 : decode cJ6_bitCount_0f7a4 32 = .ok (.iand, 1) := by decide +kernel
theorem dJ6_bitCount_0f7a4_33 : decode cJ6_bitCount_0f7a4 33 = .ok (.istore_n 0, 1) := by decide +kernel
theorem dJ6_bitCount_0f7a4_34 : decode cJ6_bitCount_0f7a4 34 = .ok (.iload_n 0, 1) := by decide +kernel
theorem dJ6_bitCount_0f7a4_35 : decode cJ6_bitCount_0f7a4 35 = .ok (.iload_n 0, 1) := by decide +kernel
theorem dJ6_bitCount_0f7a4_36 : decode cJ6_bitCount_0f7a4 36 = .ok (.bipush 8, 2) := by decide +kernel
theorem dJ6_bitCount_0f7a4_38 : decode cJ6_bitCount_0f7a4 38 = .ok (.iushr, 1) := by decide +kernel
theorem dJ6_bitCount_0f7a4_39 : decode cJ6_bitCount_0f7a4 39 = .ok (.iadd, 1) := by decide +kernel
theorem dJ6_bitCount_0f7a4_40 : decode cJ6_bitCount_0f7a4 40 = .ok (.istore_n 0, 1) := by decide +kernel
theorem dJ6_bitCount_0f7a4_41 : decode cJ6_bitCount_0f7a4 41 = .ok (.iload_n 0, 1) := by decide +kernel
theorem dJ6_bitCount_0f7a4_42 : decode cJ6_bitCount_0f7a4 42 = .ok (.iload_n 0, 1) := by decide +kernel
theorem dJ6_bitCount_0f7a4_43 : decode cJ6_bitCount_0f7a4 43 = .ok (.bipush 16, 2) := by decide +kernel
theorem dJ6_bitCount_0f7a4_45 : decode cJ6_bitCount_0f7a4 45 = .ok (.iushr, 1) := by decide +kernel
theorem dJ6_bitCount_0f7a4_46 : decode cJ6_bitCount_0f7a4 46 = .ok (.iadd, 1) := by decide +kernel
theorem dJ6_bitCount_0f7a4_47 : decode cJ6_bitCount_0f7a4 47 = .ok (.istore_n 0, 1) := by decide +kernel
theorem dJ6_bitCount_0f7a4_48 : decode cJ6_bitCount_0f7a4 48 = .ok (.iload_n 0, 1) := by decide +kernel
theorem dJ6_bitCount_0f7a4_49 : decode cJ6_bitCount_0f7a4 49 = .ok (.bipush 63, 2) := by decide +kernel
theorem dJ6_bitCount_0f7a4_51 : decode cJ6_bitCount_0f7a4 51 = .ok (.iand, 1) := by decide +kernel
theorem dJ6_bitCount_0f7a4_52 : decode cJ6_bitCount_0f7a4 52 = .ok (.ireturn, 1) := by decide +kernel
theorem dJ9_abs_0f7a4_0 : decode cJ9_abs_0f7a4 0 = .ok (.iload_n 0, 1) := by decide +kernel
theorem dJ9_abs_0f7a4_1 : decode cJ9_abs_0f7a4 1 = .ok (.ifCond .ge 8, 3) := by decide +kernel
theorem dJ9_abs_0f7a4_4 : decode cJ9_abs_0f7a4 4 = .ok (.iload_n 0, 1) := by decide +kernel
theorem dJ9_abs_0f7a4_5 : decode cJ9_abs_0f7a4 5 = .ok (.ineg, 1) := by decide +kernel
theorem dJ9_abs_0f7a4_6 : decode cJ9_abs_0f7a4 6 = .ok (.goto 4, 3) := by decide +kernel
theorem dJ9_abs_0f7a4_9 : decode cJ9_abs_0f7a4 9 = .ok (.iload_n 0, 1) := by decide +kernel
theorem dJ9_abs_0f7a4_10 : decode cJ9_abs_0f7a4 10 = .ok (.ireturn, 1) := by decide +kernel
theorem dJ9_abs_067f4_0 : decode cJ9_abs_067f4 0 = .ok (.lload_n 0, 1) := by decide +kernel
theorem dJ9_abs_067f4_1 : decode cJ9_abs_067f4 1 = .ok (.lconst 0, 1) := by decide +kernel
theorem dJ9_abs_067f4_2 : decode cJ9_abs_067f4 2 = .ok (.lcmp, 1) := by decide +kernel
theorem dJ9_abs_067f4_3 : decode cJ9_abs_067f4 3 = .ok (.ifCond .ge 8, 3) := by decide +kernel
theorem dJ9_abs_067f4_6 : decode cJ9_abs_067f4 6 = .ok (.lload_n 0, 1) := by decide +kernel
theorem dJ9_abs_067f4_7 : decode cJ9_abs_067f4 7 = .ok (.lneg, 1) := by decide +kernel
theorem dJ9_abs_067f4_8 : decode cJ9_abs_067f4 8 = .ok (.goto 4, 3) := by decide +kernel
theorem dJ9_abs_067f4_11 : decode cJ9_abs_067f4 11 = .ok (.lload_n 0, 1) := by decide +kernel
theorem dJ9_abs_067f4_12 : decode cJ9_abs_067f4 12 = .ok (.lreturn, 1) := by decide +kernel
theorem dJ9_min_7cf53_0 : decode cJ9_min_7cf53 0 = .ok (.iload_n 0, 1) := by decide +kernel
theorem dJ9_min_7cf53_1 : decode cJ9_min_7cf53 1 = .ok (.iload_n 1, 1) := by decide +kernel
theorem dJ9_min_7cf53_2 : decode cJ9_min_7cf53 2 = .ok (.if_icmp .gt 7, 3) := by decide +kernel
theorem dJ9_min_7cf53_5 : decode cJ9_min_7cf53 5 = .ok (.iload_n 0, 1) := by decide +kernel
theorem dJ9_min_7cf53_6 : decode cJ9_min_7cf53 6 = .ok (.goto 4, 3) := by decide +kernel
theorem dJ9_min_7cf53_9 : decode cJ9_min_7cf53 9 = .ok (.iload_n 1, 1) := by decide +kernel
theorem dJ9_min_7cf53_10 : decode cJ9_min_7cf53 10 = .ok (.ireturn, 1) := by decide +kernel
