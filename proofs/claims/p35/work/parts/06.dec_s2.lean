theorem dX4_choose_15 : decode cX4_choose 15 = .ok (.getfield 24, 3) := by decide +kernel
theorem dX4_choose_18 : decode cX4_choose 18 = .ok (.iload_n 1, 1) := by decide +kernel
theorem dX4_choose_19 : decode cX4_choose 19 = .ok (.iconst 1, 1) := by decide +kernel
theorem dX4_choose_20 : decode cX4_choose 20 = .ok (.iadd, 1) := by decide +kernel
theorem dX4_choose_21 : decode cX4_choose 21 = .ok (.aaload, 1) := by decide +kernel
theorem dX4_choose_22 : decode cX4_choose 22 = .ok (.aload_n 0, 1) := by decide +kernel
theorem dX4_choose_23 : decode cX4_choose 23 = .ok (.getfield 24, 3) := by decide +kernel
theorem dX4_choose_26 : decode cX4_choose 26 = .ok (.iload_n 1, 1) := by decide +kernel
theorem dX4_choose_27 : decode cX4_choose 27 = .ok (.aaload, 1) := by decide +kernel
theorem dX4_choose_28 : decode cX4_choose 28 = .ok (.invokevirtual 94, 3) := by decide +kernel
theorem dX4_choose_31 : decode cX4_choose 31 = .ok (.aload_n 0, 1) := by decide +kernel
theorem dX4_choose_32 : decode cX4_choose 32 = .ok (.getfield 24, 3) := by decide +kernel
theorem dX4_choose_35 : decode cX4_choose 35 = .ok (.iload_n 1, 1) := by decide +kernel
theorem dX4_choose_36 : decode cX4_choose 36 = .ok (.iconst 1, 1) := by decide +kernel
theorem dX4_choose_37 : decode cX4_choose 37 = .ok (.iadd, 1) := by decide +kernel
theorem dX4_choose_38 : decode cX4_choose 38 = .ok (.aaload, 1) := by decide +kernel
theorem dX4_choose_39 : decode cX4_choose 39 = .ok (.bipush (-10), 2) := by decide +kernel
theorem dX4_choose_41 : decode cX4_choose 41 = .ok (.iload_n 3, 1) := by decide +kernel
theorem dX4_choose_42 : decode cX4_choose 42 = .ok (.imul, 1) := by decide +kernel
theorem dX4_choose_43 : decode cX4_choose 43 = .ok (.iload_n 2, 1) := by decide +kernel
theorem dX4_choose_44 : decode cX4_choose 44 = .ok (.invokevirtual 98, 3) := by decide +kernel
theorem dX4_choose_47 : decode cX4_choose 47 = .ok (.return_, 1) := by decide +kernel
theorem dX4_keepIfBetter_0 : decode cX4_keepIfBetter 0 = .ok (.aload_n 0, 1) := by decide +kernel
theorem dX4_keepIfBetter_1 : decode cX4_keepIfBetter 1 = .ok (.getfield 24, 3) := by decide +kernel
theorem dX4_keepIfBetter_4 : decode cX4_keepIfBetter 4 = .ok (.aload_n 0, 1) := by decide +kernel
theorem dX4_keepIfBetter_5 : decode cX4_keepIfBetter 5 = .ok (.getfield 74, 3) := by decide +kernel
theorem dX4_keepIfBetter_8 : decode cX4_keepIfBetter 8 = .ok (.aaload, 1) := by decide +kernel
theorem dX4_keepIfBetter_9 : decode cX4_keepIfBetter 9 = .ok (.invokestatic 102, 3) := by decide +kernel
theorem dX4_keepIfBetter_12 : decode cX4_keepIfBetter 12 = .ok (.lstore_n 1, 1) := by decide +kernel
theorem dX4_keepIfBetter_13 : decode cX4_keepIfBetter 13 = .ok (.aload_n 0, 1) := by decide +kernel
theorem dX4_keepIfBetter_14 : decode cX4_keepIfBetter 14 = .ok (.getfield 24, 3) := by decide +kernel
theorem dX4_keepIfBetter_17 : decode cX4_keepIfBetter 17 = .ok (.aload_n 0, 1) := by decide +kernel
theorem dX4_keepIfBetter_18 : decode cX4_keepIfBetter 18 = .ok (.getfield 74, 3) := by decide +kernel
theorem dX4_keepIfBetter_21 : decode cX4_keepIfBetter 21 = .ok (.aaload, 1) := by decide +kernel
theorem dX4_keepIfBetter_22 : decode cX4_keepIfBetter 22 = .ok (.invokestatic 106, 3) := by decide +kernel
theorem dX4_keepIfBetter_25 : decode cX4_keepIfBetter 25 = .ok (.lstore_n 3, 1) := by decide +kernel
theorem dX4_keepIfBetter_26 : decode cX4_keepIfBetter 26 = .ok (.aload_n 0, 1) := by decide +kernel
theorem dX4_keepIfBetter_27 : decode cX4_keepIfBetter 27 = .ok (.getfield 71, 3) := by decide +kernel
theorem dX4_keepIfBetter_30 : decode cX4_keepIfBetter 30 = .ok (.iconst (-1), 1) := by decide +kernel
theorem dX4_keepIfBetter_31 : decode cX4_keepIfBetter 31 = .ok (.if_icmp .eq 26, 3) := by decide +kernel
theorem dX4_keepIfBetter_34 : decode cX4_keepIfBetter 34 = .ok (.aload_n 0, 1) := by decide +kernel
theorem dX4_keepIfBetter_35 : decode cX4_keepIfBetter 35 = .ok (.getfield 12, 3) := by decide +kernel
theorem dX4_keepIfBetter_38 : decode cX4_keepIfBetter 38 = .ok (.lload_n 1, 1) := by decide +kernel
theorem dX4_keepIfBetter_39 : decode cX4_keepIfBetter 39 = .ok (.aload_n 0, 1) := by decide +kernel
theorem dX4_keepIfBetter_40 : decode cX4_keepIfBetter 40 = .ok (.getfield 109, 3) := by decide +kernel
theorem dX4_keepIfBetter_43 : decode cX4_keepIfBetter 43 = .ok (.lsub, 1) := by decide +kernel
theorem dX4_keepIfBetter_44 : decode cX4_keepIfBetter 44 = .ok (.lload_n 3, 1) := by decide +kernel
theorem dX4_keepIfBetter_45 : decode cX4_keepIfBetter 45 = .ok (.aload_n 0, 1) := by decide +kernel
theorem dX4_keepIfBetter_46 : decode cX4_keepIfBetter 46 = .ok (.getfield 113, 3) := by decide +kernel
theorem dX4_keepIfBetter_49 : decode cX4_keepIfBetter 49 = .ok (.lsub, 1) := by decide +kernel
theorem dX4_keepIfBetter_50 : decode cX4_keepIfBetter 50 = .ok (.invokevirtual 116, 3) := by decide +kernel
theorem dX4_keepIfBetter_53 : decode cX4_keepIfBetter 53 = .ok (.ifCond .lt 4, 3) := by decide +kernel
theorem dX4_keepIfBetter_56 : decode cX4_keepIfBetter 56 = .ok (.return_, 1) := by decide +kernel
theorem dX4_keepIfBetter_57 : decode cX4_keepIfBetter 57 = .ok (.aload_n 0, 1) := by decide +kernel
theorem dX4_keepIfBetter_58 : decode cX4_keepIfBetter 58 = .ok (.aload_n 0, 1) := by decide +kernel
theorem dX4_keepIfBetter_59 : decode cX4_keepIfBetter 59 = .ok (.getfield 74, 3) := by decide +kernel
theorem dX4_keepIfBetter_62 : decode cX4_keepIfBetter 62 = .ok (.putfield 71, 3) := by decide +kernel
theorem dX4_keepIfBetter_65 : decode cX4_keepIfBetter 65 = .ok (.aload_n 0, 1) := by decide +kernel
theorem dX4_keepIfBetter_66 : decode cX4_keepIfBetter 66 = .ok (.lload_n 1, 1) := by decide +kernel
theorem dX4_keepIfBetter_67 : decode cX4_keepIfBetter 67 = .ok (.putfield 109, 3) := by decide +kernel
theorem dX4_keepIfBetter_70 : decode cX4_keepIfBetter 70 = .ok (.aload_n 0, 1) := by decide +kernel
theorem dX4_keepIfBetter_71 : decode cX4_keepIfBetter 71 = .ok (.lload_n 3, 1) := by decide +kernel
theorem dX4_keepIfBetter_72 : decode cX4_keepIfBetter 72 = .ok (.putfield 113, 3) := by decide +kernel
theorem dX4_keepIfBetter_75 : decode cX4_keepIfBetter 75 = .ok (.iconst 0, 1) := by decide +kernel
theorem dX4_keepIfBetter_76 : decode cX4_keepIfBetter 76 = .ok (.istore 5, 2) := by decide +kernel
theorem dX4_keepIfBetter_78 : decode cX4_keepIfBetter 78 = .ok (.iload 5, 2) := by decide +kernel
theorem dX4_keepIfBetter_80 : decode cX4_keepIfBetter 80 = .ok (.aload_n 0, 1) := by decide +kernel
theorem dX4_keepIfBetter_81 : decode cX4_keepIfBetter 81 = .ok (.getfield 74, 3) := by decide +kernel
theorem dX4_keepIfBetter_84 : decode cX4_keepIfBetter 84 = .ok (.if_icmp .ge 37, 3) := by decide +kernel
theorem dX4_keepIfBetter_87 : decode cX4_keepIfBetter 87 = .ok (.aload_n 0, 1) := by decide +kernel
theorem dX4_keepIfBetter_88 : decode cX4_keepIfBetter 88 = .ok (.getfield 34, 3) := by decide +kernel
theorem dX4_keepIfBetter_91 : decode cX4_keepIfBetter 91 = .ok (.iload 5, 2) := by decide +kernel
theorem dX4_keepIfBetter_93 : decode cX4_keepIfBetter 93 = .ok (.aload_n 0, 1) := by decide +kernel
theorem dX4_keepIfBetter_94 : decode cX4_keepIfBetter 94 = .ok (.getfield 28, 3) := by decide +kernel
theorem dX4_keepIfBetter_97 : decode cX4_keepIfBetter 97 = .ok (.iload 5, 2) := by decide +kernel
theorem dX4_keepIfBetter_99 : decode cX4_keepIfBetter 99 = .ok (.iaload, 1) := by decide +kernel
theorem dX4_keepIfBetter_100 : decode cX4_keepIfBetter 100 = .ok (.iastore, 1) := by decide +kernel
theorem dX4_keepIfBetter_101 : decode cX4_keepIfBetter 101 = .ok (.aload_n 0, 1) := by decide +kernel
theorem dX4_keepIfBetter_102 : decode cX4_keepIfBetter 102 = .ok (.getfield 37, 3) := by decide +kernel
theorem dX4_keepIfBetter_105 : decode cX4_keepIfBetter 105 = .ok (.iload 5, 2) := by decide +kernel
theorem dX4_keepIfBetter_107 : decode cX4_keepIfBetter 107 = .ok (.aload_n 0, 1) := by decide +kernel
theorem dX4_keepIfBetter_108 : decode cX4_keepIfBetter 108 = .ok (.getfield 31, 3) := by decide +kernel
theorem dX4_keepIfBetter_111 : decode cX4_keepIfBetter 111 = .ok (.iload 5, 2) := by decide +kernel
theorem dX4_keepIfBetter_113 : decode cX4_keepIfBetter 113 = .ok (.iaload, 1) := by decide +kernel
theorem dX4_keepIfBetter_114 : decode cX4_keepIfBetter 114 = .ok (.iastore, 1) := by decide +kernel
theorem dX4_keepIfBetter_115 : decode cX4_keepIfBetter 115 = .ok (.iinc 5 1, 3) := by decide +kernel
theorem dX4_keepIfBetter_118 : decode cX4_keepIfBetter 118 = .ok (.goto (-40), 3) := by decide +kernel
theorem dX4_keepIfBetter_121 : decode cX4_keepIfBetter 121 = .ok (.return_, 1) := by decide +kernel
theorem dX4_isWithin_0 : decode cX4_isWithin 0 = .ok (.bipush 20, 2) := by decide +kernel
theorem dX4_isWithin_2 : decode cX4_isWithin 2 = .ok (.iload_n 2, 1) := by decide +kernel
theorem dX4_isWithin_3 : decode cX4_isWithin 3 = .ok (.imul, 1) := by decide +kernel
theorem dX4_isWithin_4 : decode cX4_isWithin 4 = .ok (.i2l, 1) := by decide +kernel
theorem dX4_isWithin_5 : decode cX4_isWithin 5 = .ok (.lstore_n 3, 1) := by decide +kernel
theorem dX4_isWithin_6 : decode cX4_isWithin 6 = .ok (.aload_n 0, 1) := by decide +kernel
theorem dX4_isWithin_7 : decode cX4_isWithin 7 = .ok (.getfield 12, 3) := by decide +kernel
theorem dX4_isWithin_10 : decode cX4_isWithin 10 = .ok (.aload_n 1, 1) := by decide +kernel
theorem dX4_isWithin_11 : decode cX4_isWithin 11 = .ok (.invokestatic 102, 3) := by decide +kernel
theorem dX4_isWithin_14 : decode cX4_isWithin 14 = .ok (.lload_n 3, 1) := by decide +kernel
theorem dX4_isWithin_15 : decode cX4_isWithin 15 = .ok (.lload_n 3, 1) := by decide +kernel
theorem dX4_isWithin_16 : decode cX4_isWithin 16 = .ok (.lmul, 1) := by decide +kernel
theorem dX4_isWithin_17 : decode cX4_isWithin 17 = .ok (.lsub, 1) := by decide +kernel
theorem dX4_isWithin_18 : decode cX4_isWithin 18 = .ok (.aload_n 1, 1) := by decide +kernel
theorem dX4_isWithin_19 : decode cX4_isWithin 19 = .ok (.invokestatic 106, 3) := by decide +kernel
theorem dX4_isWithin_22 : decode cX4_isWithin 22 = .ok (.invokevirtual 116, 3) := by decide +kernel
theorem dX4_isWithin_25 : decode cX4_isWithin 25 = .ok (.ifCond .gt 7, 3) := by decide +kernel
theorem dX4_isWithin_28 : decode cX4_isWithin 28 = .ok (.iconst 1, 1) := by decide +kernel
theorem dX4_isWithin_29 : decode cX4_isWithin 29 = .ok (.goto 4, 3) := by decide +kernel
theorem dX4_isWithin_32 : decode cX4_isWithin 32 = .ok (.iconst 0, 1) := by decide +kernel
theorem dX4_isWithin_33 : decode cX4_isWithin 33 = .ok (.ireturn, 1) := by decide +kernel
theorem dX4_squareWhole_0 : decode cX4_squareWhole 0 = .ok (.aload_n 0, 1) := by decide +kernel
theorem dX4_squareWhole_1 : decode cX4_squareWhole 1 = .ok (.getfield 120, 3) := by decide +kernel
theorem dX4_squareWhole_4 : decode cX4_squareWhole 4 = .ok (.aload_n 0, 1) := by decide +kernel
theorem dX4_squareWhole_5 : decode cX4_squareWhole 5 = .ok (.getfield 120, 3) := by decide +kernel
theorem dX4_squareWhole_8 : decode cX4_squareWhole 8 = .ok (.lmul, 1) := by decide +kernel
theorem dX4_squareWhole_9 : decode cX4_squareWhole 9 = .ok (.ldc2_w 123, 3) := by decide +kernel
theorem dX4_squareWhole_12 : decode cX4_squareWhole 12 = .ok (.aload_n 0, 1) := by decide +kernel
theorem dX4_squareWhole_13 : decode cX4_squareWhole 13 = .ok (.getfield 125, 3) := by decide +kernel
theorem dX4_squareWhole_16 : decode cX4_squareWhole 16 = .ok (.lmul, 1) := by decide +kernel
theorem dX4_squareWhole_17 : decode cX4_squareWhole 17 = .ok (.aload_n 0, 1) := by decide +kernel
theorem dX4_squareWhole_18 : decode cX4_squareWhole 18 = .ok (.getfield 125, 3) := by decide +kernel
theorem dX4_squareWhole_21 : decode cX4_squareWhole 21 = .ok (.lmul, 1) := by decide +kernel
theorem dX4_squareWhole_22 : decode cX4_squareWhole 22 = .ok (.ladd, 1) := by decide +kernel
theorem dX4_squareWhole_23 : decode cX4_squareWhole 23 = .ok (.aload_n 0, 1) := by decide +kernel
theorem dX4_squareWhole_24 : decode cX4_squareWhole 24 = .ok (.getfield 128, 3) := by decide +kernel
theorem dX4_squareWhole_27 : decode cX4_squareWhole 27 = .ok (.aload_n 0, 1) := by decide +kernel
theorem dX4_squareWhole_28 : decode cX4_squareWhole 28 = .ok (.getfield 128, 3) := by decide +kernel
theorem dX4_squareWhole_31 : decode cX4_squareWhole 31 = .ok (.lmul, 1) := by decide +kernel
theorem dX4_squareWhole_32 : decode cX4_squareWhole 32 = .ok (.ladd, 1) := by decide +kernel
theorem dX4_squareWhole_33 : decode cX4_squareWhole 33 = .ok (.ldc2_w 123, 3) := by decide +kernel
theorem dX4_squareWhole_36 : decode cX4_squareWhole 36 = .ok (.aload_n 0, 1) := by decide +kernel
theorem dX4_squareWhole_37 : decode cX4_squareWhole 37 = .ok (.getfield 131, 3) := by decide +kernel
theorem dX4_squareWhole_40 : decode cX4_squareWhole 40 = .ok (.lmul, 1) := by decide +kernel
theorem dX4_squareWhole_41 : decode cX4_squareWhole 41 = .ok (.aload_n 0, 1) := by decide +kernel
theorem dX4_squareWhole_42 : decode cX4_squareWhole 42 = .ok (.getfield 131, 3) := by decide +kernel
theorem dX4_squareWhole_45 : decode cX4_squareWhole 45 = .ok (.lmul, 1) := by decide +kernel
theorem dX4_squareWhole_46 : decode cX4_squareWhole 46 = .ok (.ladd, 1) := by decide +kernel
theorem dX4_squareWhole_47 : decode cX4_squareWhole 47 = .ok (.lreturn, 1) := by decide +kernel
theorem dX4_squareRoots_0 : decode cX4_squareRoots 0 = .ok (.ldc2_w 134, 3) := by decide +kernel
theorem dX4_squareRoots_3 : decode cX4_squareRoots 3 = .ok (.aload_n 0, 1) := by decide +kernel
theorem dX4_squareRoots_4 : decode cX4_squareRoots 4 = .ok (.getfield 120, 3) := by decide +kernel
theorem dX4_squareRoots_7 : decode cX4_squareRoots 7 = .ok (.aload_n 0, 1) := by decide +kernel
theorem dX4_squareRoots_8 : decode cX4_squareRoots 8 = .ok (.getfield 125, 3) := by decide +kernel
theorem dX4_squareRoots_11 : decode cX4_squareRoots 11 = .ok (.lmul, 1) := by decide +kernel
theorem dX4_squareRoots_12 : decode cX4_squareRoots 12 = .ok (.aload_n 0, 1) := by decide +kernel
theorem dX4_squareRoots_13 : decode cX4_squareRoots 13 = .ok (.getfield 128, 3) := by decide +kernel
theorem dX4_squareRoots_16 : decode cX4_squareRoots 16 = .ok (.aload_n 0, 1) := by decide +kernel
theorem dX4_squareRoots_17 : decode cX4_squareRoots 17 = .ok (.getfield 131, 3) := by decide +kernel
theorem dX4_squareRoots_20 : decode cX4_squareRoots 20 = .ok (.lmul, 1) := by decide +kernel
theorem dX4_squareRoots_21 : decode cX4_squareRoots 21 = .ok (.ladd, 1) := by decide +kernel
theorem dX4_squareRoots_22 : decode cX4_squareRoots 22 = .ok (.lmul, 1) := by decide +kernel
theorem dX4_squareRoots_23 : decode cX4_squareRoots 23 = .ok (.lreturn, 1) := by decide +kernel
theorem dX5_init_0 : decode cX5_init 0 = .ok (.aload_n 0, 1) := by decide +kernel
theorem dX5_init_1 : decode cX5_init 1 = .ok (.invokespecial 3, 3) := by decide +kernel
theorem dX5_init_4 : decode cX5_init 4 = .ok (.aload_n 0, 1) := by decide +kernel
theorem dX5_init_5 : decode cX5_init 5 = .ok (.iconst 4, 1) := by decide +kernel
theorem dX5_init_6 : decode cX5_init 6 = .ok (.bipush 40, 2) := by decide +kernel
theorem dX5_init_8 : decode cX5_init 8 = .ok (.multianewarray 9 2, 4) := by decide +kernel
theorem dX5_init_12 : decode cX5_init 12 = .ok (.putfield 11, 3) := by decide +kernel
theorem dX5_init_15 : decode cX5_init 15 = .ok (.aload_n 0, 1) := by decide +kernel
theorem dX5_init_16 : decode cX5_init 16 = .ok (.iconst 4, 1) := by decide +kernel
theorem dX5_init_17 : decode cX5_init 17 = .ok (.newarray .int, 2) := by decide +kernel
theorem dX5_init_19 : decode cX5_init 19 = .ok (.putfield 16, 3) := by decide +kernel
theorem dX5_init_22 : decode cX5_init 22 = .ok (.aload_n 0, 1) := by decide +kernel
theorem dX5_init_23 : decode cX5_init 23 = .ok (.iconst 0, 1) := by decide +kernel
theorem dX5_init_24 : decode cX5_init 24 = .ok (.putfield 20, 3) := by decide +kernel
theorem dX5_init_27 : decode cX5_init 27 = .ok (.iconst 0, 1) := by decide +kernel
theorem dX5_init_28 : decode cX5_init 28 = .ok (.istore_n 1, 1) := by decide +kernel
theorem dX5_init_29 : decode cX5_init 29 = .ok (.iload_n 1, 1) := by decide +kernel
theorem dX5_init_30 : decode cX5_init 30 = .ok (.iconst 4, 1) := by decide +kernel
theorem dX5_init_31 : decode cX5_init 31 = .ok (.if_icmp .ge 16, 3) := by decide +kernel
theorem dX5_init_34 : decode cX5_init 34 = .ok (.aload_n 0, 1) := by decide +kernel
theorem dX5_init_35 : decode cX5_init 35 = .ok (.getfield 16, 3) := by decide +kernel
theorem dX5_init_38 : decode cX5_init 38 = .ok (.iload_n 1, 1) := by decide +kernel
theorem dX5_init_39 : decode cX5_init 39 = .ok (.iconst (-1), 1) := by decide +kernel
theorem dX5_init_40 : decode cX5_init 40 = .ok (.iastore, 1) := by decide +kernel
theorem dX5_init_41 : decode cX5_init 41 = .ok (.iinc 1 1, 3) := by decide +kernel
theorem dX5_init_44 : decode cX5_init 44 = .ok (.goto (-15), 3) := by decide +kernel
theorem dX5_init_47 : decode cX5_init 47 = .ok (.return_, 1) := by decide +kernel
theorem dX5_latestFinding_0 : decode cX5_latestFinding 0 = .ok (.aload_n 0, 1) := by decide +kernel
theorem dX5_latestFinding_1 : decode cX5_latestFinding 1 = .ok (.getfield 20, 3) := by decide +kernel
theorem dX5_latestFinding_4 : decode cX5_latestFinding 4 = .ok (.ireturn, 1) := by decide +kernel
theorem dX6_init_0 : decode cX6_init 0 = .ok (.aload_n 0, 1) := by decide +kernel
theorem dX6_init_1 : decode cX6_init 1 = .ok (.invokespecial 3, 3) := by decide +kernel
theorem dX6_init_4 : decode cX6_init 4 = .ok (.aload_n 0, 1) := by decide +kernel
theorem dX6_init_5 : decode cX6_init 5 = .ok (.new 9, 3) := by decide +kernel
theorem dX6_init_8 : decode cX6_init 8 = .ok (.dup, 1) := by decide +kernel
theorem dX6_init_9 : decode cX6_init 9 = .ok (.invokespecial 11, 3) := by decide +kernel
theorem dX6_init_12 : decode cX6_init 12 = .ok (.putfield 12, 3) := by decide +kernel
theorem dX6_init_15 : decode cX6_init 15 = .ok (.aload_n 0, 1) := by decide +kernel
theorem dX6_init_16 : decode cX6_init 16 = .ok (.new 9, 3) := by decide +kernel
theorem dX6_init_19 : decode cX6_init 19 = .ok (.dup, 1) := by decide +kernel
theorem dX6_init_20 : decode cX6_init 20 = .ok (.invokespecial 11, 3) := by decide +kernel
theorem dX6_init_23 : decode cX6_init 23 = .ok (.putfield 18, 3) := by decide +kernel
theorem dX6_init_26 : decode cX6_init 26 = .ok (.return_, 1) := by decide +kernel
theorem dJ13_signum_95d88_0 : decode cJ13_signum_95d88 0 = .ok (.lload_n 0, 1) := by decide +kernel
theorem dJ13_signum_95d88_1 : decode cJ13_signum_95d88 1 = .ok (.bipush 63, 2) := by decide +kernel
theorem dJ13_signum_95d88_3 : decode cJ13_signum_95d88 3 = .ok (.lshr, 1) := by decide +kernel
theorem dJ13_signum_95d88_4 : decode cJ13_signum_95d88 4 = .ok (.lload_n 0, 1) := by decide +kernel
theorem dJ13_signum_95d88_5 : decode cJ13_signum_95d88 5 = .ok (.lneg, 1) := by decide +kernel
theorem dJ13_signum_95d88_6 : decode cJ13_signum_95d88 6 = .ok (.bipush 63, 2) := by decide +kernel
theorem dJ13_signum_95d88_8 : decode cJ13_signum_95d88 8 = .ok (.lushr, 1) := by decide +kernel
theorem dJ13_signum_95d88_9 : decode cJ13_signum_95d88 9 = .ok (.lor, 1) := by decide +kernel
theorem dJ13_signum_95d88_10 : decode cJ13_signum_95d88 10 = .ok (.l2i, 1) := by decide +kernel
theorem dJ13_signum_95d88_11 : decode cJ13_signum_95d88 11 = .ok (.ireturn, 1) := by decide +kernel
theorem dJ6_bitCount_0f7a4_0 : decode cJ6_bitCount_0f7a4 0 = .ok (.iload_n 0, 1) := by decide +kernel
theorem dJ6_bitCount_0f7a4_1 : decode cJ6_bitCount_0f7a4 1 = .ok (.iload_n 0, 1) := by decide +kernel
theorem dJ6_bitCount_0f7a4_2 : decode cJ6_bitCount_0f7a4 2 = .ok (.iconst 1, 1) := by decide +kernel
theorem dJ6_bitCount_0f7a4_3 : decode cJ6_bitCount_0f7a4 3 = .ok (.iushr, 1) := by decide +kernel
theorem dJ6_bitCount_0f7a4_4 : decode cJ6_bitCount_0f7a4 4 = .ok (.ldc_w 265, 3) := by decide +kernel
theorem dJ6_bitCount_0f7a4_7 : decode cJ6_bitCount_0f7a4 7 = .ok (.iand, 1) := by decide +kernel
theorem dJ6_bitCount_0f7a4_8 : decode cJ6_bitCount_0f7a4 8 = .ok (.isub, 1) := by decide +kernel
theorem dJ6_bitCount_0f7a4_9 : decode cJ6_bitCount_0f7a4 9 = .ok (.istore_n 0, 1) := by decide +kernel
theorem dJ6_bitCount_0f7a4_10 : decode cJ6_bitCount_0f7a4 10 = .ok (.iload_n 0, 1) := by decide +kernel
theorem dJ6_bitCount_0f7a4_11 : decode cJ6_bitCount_0f7a4 11 = .ok (.ldc_w 266, 3) := by decide +kernel
theorem dJ6_bitCount_0f7a4_14 : decode cJ6_bitCount_0f7a4 14 = .ok (.iand, 1) := by decide +kernel
theorem dJ6_bitCount_0f7a4_15 : decode cJ6_bitCount_0f7a4 15 = .ok (.iload_n 0, 1) := by decide +kernel
theorem dJ6_bitCount_0f7a4_16 : decode cJ6_bitCount_0f7a4 16 = .ok (.iconst 2, 1) := by decide +kernel
theorem dJ6_bitCount_0f7a4_17 : decode cJ6_bitCount_0f7a4 17 = .ok (.iushr, 1) := by decide +kernel
theorem dJ6_bitCount_0f7a4_18 : decode cJ6_bitCount_0f7a4 18 = .ok (.ldc_w 266, 3) := by decide +kernel
theorem dJ6_bitCount_0f7a4_21 : decode cJ6_bitCount_0f7a4 21 = .ok (.iand, 1) := by decide +kernel
theorem dJ6_bitCount_0f7a4_22 : decode cJ6_bitCount_0f7a4 22 = .ok (.iadd, 1) := by decide +kernel
theorem dJ6_bitCount_0f7a4_23 : decode cJ6_bitCount_0f7a4 23 = .ok (.istore_n 0, 1) := by decide +kernel
theorem dJ6_bitCount_0f7a4_24 : decode cJ6_bitCount_0f7a4 24 = .ok (.iload_n 0, 1) := by decide +kernel
theorem dJ6_bitCount_0f7a4_25 : decode cJ6_bitCount_0f7a4 25 = .ok (.iload_n 0, 1) := by decide +kernel
theorem dJ6_bitCount_0f7a4_26 : decode cJ6_bitCount_0f7a4 26 = .ok (.iconst 4, 1) := by decide +kernel
theorem dJ6_bitCount_0f7a4_27 : decode cJ6_bitCount_0f7a4 27 = .ok (.iushr, 1) := by decide +kernel
theorem dJ6_bitCount_0f7a4_28 : decode cJ6_bitCount_0f7a4 28 = .ok (.iadd, 1) := by decide +kernel
theorem dJ6_bitCount_0f7a4_29 : decode cJ6_bitCount_0f7a4 29 = .ok (.ldc_w 267, 3) := by decide +kernel
theorem dJ6_bitCount_0f7a4_32 : decode cJ6_bitCount_0f7a4 32 = .ok (.iand, 1) := by decide +kernel
theorem dJ6_bitCount_0f7a4_33 : decode cJ6_bitCount_0f7a4 33 = .ok (.istore_n 0, 1) := by decide +kernel
theorem dJ6_bitCount_0f7a4_34 : decode cJ6_bitCount_0f7a4 34 = .ok (.iload_n 0, 1) := by decide +kernel
theorem dJ6_bitCount_0f7a4_35 : decode cJ6_bitCount_0f7a4 35 = .ok (.iload_n 0, 1) := by decide +kernel
theorem dJ6_bitCount_0f7a4_36 : decode cJ6_bitCount_0f7a4 36 = .ok (.bipush 8, 2) := by decide +kernel
theorem dJ6_bitCount_0f7a4_38 : decode cJ6_bitCount_0f7a4 38 = .ok (.iushr, 1) := by decide +kernel
theorem dJ6_bitCount_0f7a4_39 : decode cJ6_bitCount_0f7a4 39 = .ok (.iadd, 1) := by decide +kernel
theorem dJ6_bitCount_0f7a4_40 : decode cJ6_bitCount_0f7a4 40 = .ok (.istore_n 0, 1) := by decide +kernel
theorem dJ6_bitCount_0f7a4_41 : decode cJ6_bitCount_0f7a4 41 = .ok (.iload_n 0, 1) := by decide +kernel
theorem dJ6_bitCount_0f7a4_42 : decode cJ6_bitCount_0f7a4 42 = .ok (.iload_n 0, 1) := by decide +kernel
theorem dJ6_bitCount_0f7a4_43 : decode cJ6_bitCount_0f7a4 43 = .ok (.bipush 16, 2) := by decide +kernel
theorem dJ6_bitCount_0f7a4_45 : decode cJ6_bitCount_0f7a4 45 = .ok (.iushr, 1) := by decide +kernel
theorem dJ6_bitCount_0f7a4_46 : decode cJ6_bitCount_0f7a4 46 = .ok (.iadd, 1) := by decide +kernel
theorem dJ6_bitCount_0f7a4_47 : decode cJ6_bitCount_0f7a4 47 = .ok (.istore_n 0, 1) := by decide +kernel
theorem dJ6_bitCount_0f7a4_48 : decode cJ6_bitCount_0f7a4 48 = .ok (.iload_n 0, 1) := by decide +kernel
theorem dJ6_bitCount_0f7a4_49 : decode cJ6_bitCount_0f7a4 49 = .ok (.bipush 63, 2) := by decide +kernel
theorem dJ6_bitCount_0f7a4_51 : decode cJ6_bitCount_0f7a4 51 = .ok (.iand, 1) := by decide +kernel
theorem dJ6_bitCount_0f7a4_52 : decode cJ6_bitCount_0f7a4 52 = .ok (.ireturn, 1) := by decide +kernel
theorem dJ9_abs_067f4_0 : decode cJ9_abs_067f4 0 = .ok (.lload_n 0, 1) := by decide +kernel
theorem dJ9_abs_067f4_1 : decode cJ9_abs_067f4 1 = .ok (.lconst 0, 1) := by decide +kernel
theorem dJ9_abs_067f4_2 : decode cJ9_abs_067f4 2 = .ok (.lcmp, 1) := by decide +kernel
theorem dJ9_abs_067f4_3 : decode cJ9_abs_067f4 3 = .ok (.ifCond .ge 8, 3) := by decide +kernel
theorem dJ9_abs_067f4_6 : decode cJ9_abs_067f4 6 = .ok (.lload_n 0, 1) := by decide +kernel
theorem dJ9_abs_067f4_7 : decode cJ9_abs_067f4 7 = .ok (.lneg, 1) := by decide +kernel
theorem dJ9_abs_067f4_8 : decode cJ9_abs_067f4 8 = .ok (.goto 4, 3) := by decide +kernel
theorem dJ9_abs_067f4_11 : decode cJ9_abs_067f4 11 = .ok (.lload_n 0, 1) := by decide +kernel
theorem dJ9_abs_067f4_12 : decode cJ9_abs_067f4 12 = .ok (.lreturn, 1) := by decide +kernel
