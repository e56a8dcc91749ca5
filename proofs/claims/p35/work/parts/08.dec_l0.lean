theorem dL_cell_0 : decode cL_cell 0 = .ok (.iload_n 1, 1) := by decide +kernel
theorem dL_cell_1 : decode cL_cell 1 = .ok (.aload_n 0, 1) := by decide +kernel
theorem dL_cell_2 : decode cL_cell 2 = .ok (.arraylength, 1) := by decide +kernel
theorem dL_cell_3 : decode cL_cell 3 = .ok (.if_icmp .ge 9, 3) := by decide +kernel
theorem dL_cell_6 : decode cL_cell 6 = .ok (.aload_n 0, 1) := by decide +kernel
theorem dL_cell_7 : decode cL_cell 7 = .ok (.iload_n 1, 1) := by decide +kernel
theorem dL_cell_8 : decode cL_cell 8 = .ok (.iaload, 1) := by decide +kernel
theorem dL_cell_9 : decode cL_cell 9 = .ok (.goto 9, 3) := by decide +kernel
theorem dL_cell_12 : decode cL_cell 12 = .ok (.ldc 7, 2) := by decide +kernel
theorem dL_cell_14 : decode cL_cell 14 = .ok (.iload_n 1, 1) := by decide +kernel
theorem dL_cell_15 : decode cL_cell 15 = .ok (.iconst 3, 1) := by decide +kernel
theorem dL_cell_16 : decode cL_cell 16 = .ok (.iadd, 1) := by decide +kernel
theorem dL_cell_17 : decode cL_cell 17 = .ok (.imul, 1) := by decide +kernel
theorem dL_cell_18 : decode cL_cell 18 = .ok (.ireturn, 1) := by decide +kernel
theorem dL_up_0 : decode cL_up 0 = .ok (.iload_n 0, 1) := by decide +kernel
theorem dL_up_1 : decode cL_up 1 = .ok (.ldc 8, 2) := by decide +kernel
theorem dL_up_3 : decode cL_up 3 = .ok (.iand, 1) := by decide +kernel
theorem dL_up_4 : decode cL_up 4 = .ok (.iload_n 1, 1) := by decide +kernel
theorem dL_up_5 : decode cL_up 5 = .ok (.irem, 1) := by decide +kernel
theorem dL_up_6 : decode cL_up 6 = .ok (.ireturn, 1) := by decide +kernel
theorem dL_way_0 : decode cL_way 0 = .ok (.iload_n 0, 1) := by decide +kernel
theorem dL_way_1 : decode cL_way 1 = .ok (.bipush 6, 2) := by decide +kernel
theorem dL_way_3 : decode cL_way 3 = .ok (.irem, 1) := by decide +kernel
theorem dL_way_4 : decode cL_way 4 = .ok (.istore_n 2, 1) := by decide +kernel
theorem dL_way_5 : decode cL_way 5 = .ok (.iload_n 2, 1) := by decide +kernel
theorem dL_way_6 : decode cL_way 6 = .ok (.ifCond .ne 7, 3) := by decide +kernel
theorem dL_way_9 : decode cL_way 9 = .ok (.iconst 2, 1) := by decide +kernel
theorem dL_way_10 : decode cL_way 10 = .ok (.goto 22, 3) := by decide +kernel
theorem dL_way_13 : decode cL_way 13 = .ok (.iload_n 2, 1) := by decide +kernel
theorem dL_way_14 : decode cL_way 14 = .ok (.iconst 2, 1) := by decide +kernel
theorem dL_way_15 : decode cL_way 15 = .ok (.if_icmp .ne 7, 3) := by decide +kernel
theorem dL_way_18 : decode cL_way 18 = .ok (.iconst 1, 1) := by decide +kernel
theorem dL_way_19 : decode cL_way 19 = .ok (.goto 13, 3) := by decide +kernel
theorem dL_way_22 : decode cL_way 22 = .ok (.iload_n 2, 1) := by decide +kernel
theorem dL_way_23 : decode cL_way 23 = .ok (.iconst 4, 1) := by decide +kernel
theorem dL_way_24 : decode cL_way 24 = .ok (.if_icmp .ne 7, 3) := by decide +kernel
theorem dL_way_27 : decode cL_way 27 = .ok (.iconst (-1), 1) := by decide +kernel
theorem dL_way_28 : decode cL_way 28 = .ok (.goto 4, 3) := by decide +kernel
theorem dL_way_31 : decode cL_way 31 = .ok (.iconst 0, 1) := by decide +kernel
theorem dL_way_32 : decode cL_way 32 = .ok (.istore_n 3, 1) := by decide +kernel
theorem dL_way_33 : decode cL_way 33 = .ok (.iload_n 2, 1) := by decide +kernel
theorem dL_way_34 : decode cL_way 34 = .ok (.iconst 1, 1) := by decide +kernel
theorem dL_way_35 : decode cL_way 35 = .ok (.if_icmp .ne 7, 3) := by decide +kernel
theorem dL_way_38 : decode cL_way 38 = .ok (.iconst 1, 1) := by decide +kernel
theorem dL_way_39 : decode cL_way 39 = .ok (.goto 13, 3) := by decide +kernel
theorem dL_way_42 : decode cL_way 42 = .ok (.iload_n 2, 1) := by decide +kernel
theorem dL_way_43 : decode cL_way 43 = .ok (.iconst 5, 1) := by decide +kernel
theorem dL_way_44 : decode cL_way 44 = .ok (.if_icmp .ne 7, 3) := by decide +kernel
theorem dL_way_47 : decode cL_way 47 = .ok (.iconst (-1), 1) := by decide +kernel
theorem dL_way_48 : decode cL_way 48 = .ok (.goto 4, 3) := by decide +kernel
theorem dL_way_51 : decode cL_way 51 = .ok (.iconst 0, 1) := by decide +kernel
theorem dL_way_52 : decode cL_way 52 = .ok (.istore 4, 2) := by decide +kernel
theorem dL_way_54 : decode cL_way 54 = .ok (.iload_n 2, 1) := by decide +kernel
theorem dL_way_55 : decode cL_way 55 = .ok (.iconst 3, 1) := by decide +kernel
theorem dL_way_56 : decode cL_way 56 = .ok (.if_icmp .ne 7, 3) := by decide +kernel
theorem dL_way_59 : decode cL_way 59 = .ok (.iconst 2, 1) := by decide +kernel
theorem dL_way_60 : decode cL_way 60 = .ok (.goto 18, 3) := by decide +kernel
theorem dL_way_63 : decode cL_way 63 = .ok (.iload_n 2, 1) := by decide +kernel
theorem dL_way_64 : decode cL_way 64 = .ok (.iconst 1, 1) := by decide +kernel
theorem dL_way_65 : decode cL_way 65 = .ok (.if_icmp .eq 8, 3) := by decide +kernel
theorem dL_way_68 : decode cL_way 68 = .ok (.iload_n 2, 1) := by decide +kernel
theorem dL_way_69 : decode cL_way 69 = .ok (.iconst 5, 1) := by decide +kernel
theorem dL_way_70 : decode cL_way 70 = .ok (.if_icmp .ne 7, 3) := by decide +kernel
theorem dL_way_73 : decode cL_way 73 = .ok (.iconst 1, 1) := by decide +kernel
theorem dL_way_74 : decode cL_way 74 = .ok (.goto 4, 3) := by decide +kernel
theorem dL_way_77 : decode cL_way 77 = .ok (.iconst 0, 1) := by decide +kernel
theorem dL_way_78 : decode cL_way 78 = .ok (.istore 5, 2) := by decide +kernel
theorem dL_way_80 : decode cL_way 80 = .ok (.iload_n 2, 1) := by decide +kernel
theorem dL_way_81 : decode cL_way 81 = .ok (.iconst 2, 1) := by decide +kernel
theorem dL_way_82 : decode cL_way 82 = .ok (.if_icmp .eq 8, 3) := by decide +kernel
theorem dL_way_85 : decode cL_way 85 = .ok (.iload_n 2, 1) := by decide +kernel
theorem dL_way_86 : decode cL_way 86 = .ok (.iconst 4, 1) := by decide +kernel
theorem dL_way_87 : decode cL_way 87 = .ok (.if_icmp .ne 7, 3) := by decide +kernel
theorem dL_way_90 : decode cL_way 90 = .ok (.iconst 1, 1) := by decide +kernel
theorem dL_way_91 : decode cL_way 91 = .ok (.goto 4, 3) := by decide +kernel
theorem dL_way_94 : decode cL_way 94 = .ok (.iconst 0, 1) := by decide +kernel
theorem dL_way_95 : decode cL_way 95 = .ok (.istore 6, 2) := by decide +kernel
theorem dL_way_97 : decode cL_way 97 = .ok (.iload_n 1, 1) := by decide +kernel
theorem dL_way_98 : decode cL_way 98 = .ok (.ifCond .ne 7, 3) := by decide +kernel
theorem dL_way_101 : decode cL_way 101 = .ok (.iload_n 3, 1) := by decide +kernel
theorem dL_way_102 : decode cL_way 102 = .ok (.goto 25, 3) := by decide +kernel
theorem dL_way_105 : decode cL_way 105 = .ok (.iload_n 1, 1) := by decide +kernel
theorem dL_way_106 : decode cL_way 106 = .ok (.iconst 1, 1) := by decide +kernel
theorem dL_way_107 : decode cL_way 107 = .ok (.if_icmp .ne 8, 3) := by decide +kernel
theorem dL_way_110 : decode cL_way 110 = .ok (.iload 4, 2) := by decide +kernel
theorem dL_way_112 : decode cL_way 112 = .ok (.goto 15, 3) := by decide +kernel
theorem dL_way_115 : decode cL_way 115 = .ok (.iload_n 1, 1) := by decide +kernel
theorem dL_way_116 : decode cL_way 116 = .ok (.iconst 2, 1) := by decide +kernel
theorem dL_way_117 : decode cL_way 117 = .ok (.if_icmp .ne 8, 3) := by decide +kernel
theorem dL_way_120 : decode cL_way 120 = .ok (.iload 5, 2) := by decide +kernel
theorem dL_way_122 : decode cL_way 122 = .ok (.goto 5, 3) := by decide +kernel
theorem dL_way_125 : decode cL_way 125 = .ok (.iload 6, 2) := by decide +kernel
theorem dL_way_127 : decode cL_way 127 = .ok (.istore 7, 2) := by decide +kernel
theorem dL_way_129 : decode cL_way 129 = .ok (.iload_n 0, 1) := by decide +kernel
theorem dL_way_130 : decode cL_way 130 = .ok (.bipush 6, 2) := by decide +kernel
theorem dL_way_132 : decode cL_way 132 = .ok (.if_icmp .ge 8, 3) := by decide +kernel
theorem dL_way_135 : decode cL_way 135 = .ok (.iload 7, 2) := by decide +kernel
theorem dL_way_137 : decode cL_way 137 = .ok (.goto 6, 3) := by decide +kernel
theorem dL_way_140 : decode cL_way 140 = .ok (.iload 7, 2) := by decide +kernel
theorem dL_way_142 : decode cL_way 142 = .ok (.ineg, 1) := by decide +kernel
theorem dL_way_143 : decode cL_way 143 = .ok (.ireturn, 1) := by decide +kernel
theorem dL_divisor_0 : decode cL_divisor 0 = .ok (.lload_n 0, 1) := by decide +kernel
theorem dL_divisor_1 : decode cL_divisor 1 = .ok (.lconst 0, 1) := by decide +kernel
theorem dL_divisor_2 : decode cL_divisor 2 = .ok (.lcmp, 1) := by decide +kernel
theorem dL_divisor_3 : decode cL_divisor 3 = .ok (.ifCond .ge 8, 3) := by decide +kernel
theorem dL_divisor_6 : decode cL_divisor 6 = .ok (.lload_n 0, 1) := by decide +kernel
theorem dL_divisor_7 : decode cL_divisor 7 = .ok (.lneg, 1) := by decide +kernel
theorem dL_divisor_8 : decode cL_divisor 8 = .ok (.goto 4, 3) := by decide +kernel
theorem dL_divisor_11 : decode cL_divisor 11 = .ok (.lload_n 0, 1) := by decide +kernel
theorem dL_divisor_12 : decode cL_divisor 12 = .ok (.lstore 4, 2) := by decide +kernel
theorem dL_divisor_14 : decode cL_divisor 14 = .ok (.lload_n 2, 1) := by decide +kernel
theorem dL_divisor_15 : decode cL_divisor 15 = .ok (.lconst 0, 1) := by decide +kernel
theorem dL_divisor_16 : decode cL_divisor 16 = .ok (.lcmp, 1) := by decide +kernel
theorem dL_divisor_17 : decode cL_divisor 17 = .ok (.ifCond .ge 8, 3) := by decide +kernel
theorem dL_divisor_20 : decode cL_divisor 20 = .ok (.lload_n 2, 1) := by decide +kernel
theorem dL_divisor_21 : decode cL_divisor 21 = .ok (.lneg, 1) := by decide +kernel
theorem dL_divisor_22 : decode cL_divisor 22 = .ok (.goto 4, 3) := by decide +kernel
theorem dL_divisor_25 : decode cL_divisor 25 = .ok (.lload_n 2, 1) := by decide +kernel
theorem dL_divisor_26 : decode cL_divisor 26 = .ok (.lstore 6, 2) := by decide +kernel
theorem dL_divisor_28 : decode cL_divisor 28 = .ok (.lload 6, 2) := by decide +kernel
theorem dL_divisor_30 : decode cL_divisor 30 = .ok (.lconst 0, 1) := by decide +kernel
theorem dL_divisor_31 : decode cL_divisor 31 = .ok (.lcmp, 1) := by decide +kernel
theorem dL_divisor_32 : decode cL_divisor 32 = .ok (.ifCond .le 21, 3) := by decide +kernel
theorem dL_divisor_35 : decode cL_divisor 35 = .ok (.lload 4, 2) := by decide +kernel
theorem dL_divisor_37 : decode cL_divisor 37 = .ok (.lload 6, 2) := by decide +kernel
theorem dL_divisor_39 : decode cL_divisor 39 = .ok (.lrem, 1) := by decide +kernel
theorem dL_divisor_40 : decode cL_divisor 40 = .ok (.lstore 8, 2) := by decide +kernel
theorem dL_divisor_42 : decode cL_divisor 42 = .ok (.lload 6, 2) := by decide +kernel
theorem dL_divisor_44 : decode cL_divisor 44 = .ok (.lstore 4, 2) := by decide +kernel
theorem dL_divisor_46 : decode cL_divisor 46 = .ok (.lload 8, 2) := by decide +kernel
theorem dL_divisor_48 : decode cL_divisor 48 = .ok (.lstore 6, 2) := by decide +kernel
theorem dL_divisor_50 : decode cL_divisor 50 = .ok (.goto (-22), 3) := by decide +kernel
theorem dL_divisor_53 : decode cL_divisor 53 = .ok (.lload 4, 2) := by decide +kernel
theorem dL_divisor_55 : decode cL_divisor 55 = .ok (.lreturn, 1) := by decide +kernel
theorem dL_is_0 : decode cL_is 0 = .ok (.lload_n 2, 1) := by decide +kernel
theorem dL_is_1 : decode cL_is 1 = .ok (.lload 4, 2) := by decide +kernel
theorem dL_is_3 : decode cL_is 3 = .ok (.invokestatic 9, 3) := by decide +kernel
theorem dL_is_6 : decode cL_is 6 = .ok (.lload 6, 2) := by decide +kernel
theorem dL_is_8 : decode cL_is 8 = .ok (.lload 8, 2) := by decide +kernel
theorem dL_is_10 : decode cL_is 10 = .ok (.invokestatic 9, 3) := by decide +kernel
theorem dL_is_13 : decode cL_is 13 = .ok (.invokestatic 9, 3) := by decide +kernel
theorem dL_is_16 : decode cL_is 16 = .ok (.lload 10, 2) := by decide +kernel
theorem dL_is_18 : decode cL_is 18 = .ok (.invokestatic 9, 3) := by decide +kernel
theorem dL_is_21 : decode cL_is 21 = .ok (.lstore 12, 2) := by decide +kernel
theorem dL_is_23 : decode cL_is 23 = .ok (.aload_n 0, 1) := by decide +kernel
theorem dL_is_24 : decode cL_is 24 = .ok (.iload_n 1, 1) := by decide +kernel
theorem dL_is_25 : decode cL_is 25 = .ok (.iconst 0, 1) := by decide +kernel
theorem dL_is_26 : decode cL_is 26 = .ok (.invokevirtual 15, 3) := by decide +kernel
theorem dL_is_29 : decode cL_is 29 = .ok (.lload_n 2, 1) := by decide +kernel
theorem dL_is_30 : decode cL_is 30 = .ok (.lload 12, 2) := by decide +kernel
theorem dL_is_32 : decode cL_is 32 = .ok (.ldiv, 1) := by decide +kernel
theorem dL_is_33 : decode cL_is 33 = .ok (.lcmp, 1) := by decide +kernel
theorem dL_is_34 : decode cL_is 34 = .ok (.ifCond .ne 67, 3) := by decide +kernel
theorem dL_is_37 : decode cL_is 37 = .ok (.aload_n 0, 1) := by decide +kernel
theorem dL_is_38 : decode cL_is 38 = .ok (.iload_n 1, 1) := by decide +kernel
theorem dL_is_39 : decode cL_is 39 = .ok (.iconst 1, 1) := by decide +kernel
theorem dL_is_40 : decode cL_is 40 = .ok (.invokevirtual 15, 3) := by decide +kernel
theorem dL_is_43 : decode cL_is 43 = .ok (.lload 4, 2) := by decide +kernel
theorem dL_is_45 : decode cL_is 45 = .ok (.lload 12, 2) := by decide +kernel
theorem dL_is_47 : decode cL_is 47 = .ok (.ldiv, 1) := by decide +kernel
theorem dL_is_48 : decode cL_is 48 = .ok (.lcmp, 1) := by decide +kernel
theorem dL_is_49 : decode cL_is 49 = .ok (.ifCond .ne 52, 3) := by decide +kernel
theorem dL_is_52 : decode cL_is 52 = .ok (.aload_n 0, 1) := by decide +kernel
theorem dL_is_53 : decode cL_is 53 = .ok (.iload_n 1, 1) := by decide +kernel
theorem dL_is_54 : decode cL_is 54 = .ok (.iconst 2, 1) := by decide +kernel
theorem dL_is_55 : decode cL_is 55 = .ok (.invokevirtual 15, 3) := by decide +kernel
theorem dL_is_58 : decode cL_is 58 = .ok (.lload 6, 2) := by decide +kernel
theorem dL_is_60 : decode cL_is 60 = .ok (.lload 12, 2) := by decide +kernel
theorem dL_is_62 : decode cL_is 62 = .ok (.ldiv, 1) := by decide +kernel
theorem dL_is_63 : decode cL_is 63 = .ok (.lcmp, 1) := by decide +kernel
theorem dL_is_64 : decode cL_is 64 = .ok (.ifCond .ne 37, 3) := by decide +kernel
theorem dL_is_67 : decode cL_is 67 = .ok (.aload_n 0, 1) := by decide +kernel
theorem dL_is_68 : decode cL_is 68 = .ok (.iload_n 1, 1) := by decide +kernel
theorem dL_is_69 : decode cL_is 69 = .ok (.iconst 3, 1) := by decide +kernel
theorem dL_is_70 : decode cL_is 70 = .ok (.invokevirtual 15, 3) := by decide +kernel
theorem dL_is_73 : decode cL_is 73 = .ok (.lload 8, 2) := by decide +kernel
theorem dL_is_75 : decode cL_is 75 = .ok (.lload 12, 2) := by decide +kernel
theorem dL_is_77 : decode cL_is 77 = .ok (.ldiv, 1) := by decide +kernel
theorem dL_is_78 : decode cL_is 78 = .ok (.lcmp, 1) := by decide +kernel
theorem dL_is_79 : decode cL_is 79 = .ok (.ifCond .ne 22, 3) := by decide +kernel
theorem dL_is_82 : decode cL_is 82 = .ok (.aload_n 0, 1) := by decide +kernel
theorem dL_is_83 : decode cL_is 83 = .ok (.iload_n 1, 1) := by decide +kernel
theorem dL_is_84 : decode cL_is 84 = .ok (.iconst 4, 1) := by decide +kernel
theorem dL_is_85 : decode cL_is 85 = .ok (.invokevirtual 15, 3) := by decide +kernel
theorem dL_is_88 : decode cL_is 88 = .ok (.lload 10, 2) := by decide +kernel
theorem dL_is_90 : decode cL_is 90 = .ok (.lload 12, 2) := by decide +kernel
theorem dL_is_92 : decode cL_is 92 = .ok (.ldiv, 1) := by decide +kernel
theorem dL_is_93 : decode cL_is 93 = .ok (.lcmp, 1) := by decide +kernel
theorem dL_is_94 : decode cL_is 94 = .ok (.ifCond .ne 7, 3) := by decide +kernel
theorem dL_is_97 : decode cL_is 97 = .ok (.iconst 1, 1) := by decide +kernel
theorem dL_is_98 : decode cL_is 98 = .ok (.goto 4, 3) := by decide +kernel
theorem dL_is_101 : decode cL_is 101 = .ok (.iconst 0, 1) := by decide +kernel
theorem dL_is_102 : decode cL_is 102 = .ok (.ireturn, 1) := by decide +kernel
theorem dL_like_0 : decode cL_like 0 = .ok (.iconst 1, 1) := by decide +kernel
theorem dL_like_1 : decode cL_like 1 = .ok (.istore_n 3, 1) := by decide +kernel
theorem dL_like_2 : decode cL_like 2 = .ok (.iconst 0, 1) := by decide +kernel
theorem dL_like_3 : decode cL_like 3 = .ok (.istore 4, 2) := by decide +kernel
theorem dL_like_5 : decode cL_like 5 = .ok (.iload 4, 2) := by decide +kernel
theorem dL_like_7 : decode cL_like 7 = .ok (.iconst 5, 1) := by decide +kernel
theorem dL_like_8 : decode cL_like 8 = .ok (.if_icmp .ge 37, 3) := by decide +kernel
theorem dL_like_11 : decode cL_like 11 = .ok (.iload_n 3, 1) := by decide +kernel
theorem dL_like_12 : decode cL_like 12 = .ok (.ifCond .eq 25, 3) := by decide +kernel
theorem dL_like_15 : decode cL_like 15 = .ok (.aload_n 0, 1) := by decide +kernel
theorem dL_like_16 : decode cL_like 16 = .ok (.iload_n 1, 1) := by decide +kernel
theorem dL_like_17 : decode cL_like 17 = .ok (.iload 4, 2) := by decide +kernel
theorem dL_like_19 : decode cL_like 19 = .ok (.invokevirtual 15, 3) := by decide +kernel
theorem dL_like_22 : decode cL_like 22 = .ok (.aload_n 0, 1) := by decide +kernel
theorem dL_like_23 : decode cL_like 23 = .ok (.iload_n 2, 1) := by decide +kernel
theorem dL_like_24 : decode cL_like 24 = .ok (.iload 4, 2) := by decide +kernel
theorem dL_like_26 : decode cL_like 26 = .ok (.invokevirtual 23, 3) := by decide +kernel
theorem dL_like_29 : decode cL_like 29 = .ok (.lcmp, 1) := by decide +kernel
theorem dL_like_30 : decode cL_like 30 = .ok (.ifCond .ne 7, 3) := by decide +kernel
theorem dL_like_33 : decode cL_like 33 = .ok (.iconst 1, 1) := by decide +kernel
theorem dL_like_34 : decode cL_like 34 = .ok (.goto 4, 3) := by decide +kernel
theorem dL_like_37 : decode cL_like 37 = .ok (.iconst 0, 1) := by decide +kernel
theorem dL_like_38 : decode cL_like 38 = .ok (.istore_n 3, 1) := by decide +kernel
theorem dL_like_39 : decode cL_like 39 = .ok (.iinc 4 1, 3) := by decide +kernel
theorem dL_like_42 : decode cL_like 42 = .ok (.goto (-37), 3) := by decide +kernel
theorem dL_like_45 : decode cL_like 45 = .ok (.iload_n 3, 1) := by decide +kernel
theorem dL_like_46 : decode cL_like 46 = .ok (.ireturn, 1) := by decide +kernel
theorem dL_same_0 : decode cL_same 0 = .ok (.iconst 1, 1) := by decide +kernel
theorem dL_same_1 : decode cL_same 1 = .ok (.istore_n 3, 1) := by decide +kernel
theorem dL_same_2 : decode cL_same 2 = .ok (.iconst 0, 1) := by decide +kernel
theorem dL_same_3 : decode cL_same 3 = .ok (.istore 4, 2) := by decide +kernel
theorem dL_same_5 : decode cL_same 5 = .ok (.iload 4, 2) := by decide +kernel
theorem dL_same_7 : decode cL_same 7 = .ok (.iconst 5, 1) := by decide +kernel
theorem dL_same_8 : decode cL_same 8 = .ok (.if_icmp .ge 37, 3) := by decide +kernel
theorem dL_same_11 : decode cL_same 11 = .ok (.iload_n 3, 1) := by decide +kernel
theorem dL_same_12 : decode cL_same 12 = .ok (.ifCond .eq 25, 3) := by decide +kernel
theorem dL_same_15 : decode cL_same 15 = .ok (.aload_n 0, 1) := by decide +kernel
theorem dL_same_16 : decode cL_same 16 = .ok (.iload_n 1, 1) := by decide +kernel
theorem dL_same_17 : decode cL_same 17 = .ok (.iload 4, 2) := by decide +kernel
theorem dL_same_19 : decode cL_same 19 = .ok (.invokevirtual 15, 3) := by decide +kernel
theorem dL_same_22 : decode cL_same 22 = .ok (.aload_n 0, 1) := by decide +kernel
theorem dL_same_23 : decode cL_same 23 = .ok (.iload_n 2, 1) := by decide +kernel
theorem dL_same_24 : decode cL_same 24 = .ok (.iload 4, 2) := by decide +kernel
theorem dL_same_26 : decode cL_same 26 = .ok (.invokevirtual 15, 3) := by decide +kernel
theorem dL_same_29 : decode cL_same 29 = .ok (.lcmp, 1) := by decide +kernel
theorem dL_same_30 : decode cL_same 30 = .ok (.ifCond .ne 7, 3) := by decide +kernel
theorem dL_same_33 : decode cL_same 33 = .ok (.iconst 1, 1) := by decide +kernel
theorem dL_same_34 : decode cL_same 34 = .ok (.goto 4, 3) := by decide +kernel
theorem dL_same_37 : decode cL_same 37 = .ok (.iconst 0, 1) := by decide +kernel
theorem dL_same_38 : decode cL_same 38 = .ok (.istore_n 3, 1) := by decide +kernel
theorem dL_same_39 : decode cL_same 39 = .ok (.iinc 4 1, 3) := by decide +kernel
theorem dL_same_42 : decode cL_same 42 = .ok (.goto (-37), 3) := by decide +kernel
theorem dL_same_45 : decode cL_same 45 = .ok (.iload_n 3, 1) := by decide +kernel
theorem dL_same_46 : decode cL_same 46 = .ok (.ireturn, 1) := by decide +kernel
theorem dL_trials_0 : decode cL_trials 0 = .ok (.iconst 4, 1) := by decide +kernel
theorem dL_trials_1 : decode cL_trials 1 = .ok (.newarray .int, 2) := by decide +kernel
theorem dL_trials_3 : decode cL_trials 3 = .ok (.astore_n 3, 1) := by decide +kernel
theorem dL_trials_4 : decode cL_trials 4 = .ok (.iconst 4, 1) := by decide +kernel
theorem dL_trials_5 : decode cL_trials 5 = .ok (.newarray .int, 2) := by decide +kernel
theorem dL_trials_7 : decode cL_trials 7 = .ok (.astore 4, 2) := by decide +kernel
theorem dL_trials_9 : decode cL_trials 9 = .ok (.iconst 0, 1) := by decide +kernel
theorem dL_trials_10 : decode cL_trials 10 = .ok (.istore 5, 2) := by decide +kernel
theorem dL_trials_12 : decode cL_trials 12 = .ok (.iload 5, 2) := by decide +kernel
theorem dL_trials_14 : decode cL_trials 14 = .ok (.iconst 4, 1) := by decide +kernel
theorem dL_trials_15 : decode cL_trials 15 = .ok (.if_icmp .ge 109, 3) := by decide +kernel
theorem dL_trials_18 : decode cL_trials 18 = .ok (.aload_n 1, 1) := by decide +kernel
theorem dL_trials_19 : decode cL_trials 19 = .ok (.iload_n 2, 1) := by decide +kernel
theorem dL_trials_20 : decode cL_trials 20 = .ok (.iload 5, 2) := by decide +kernel
theorem dL_trials_22 : decode cL_trials 22 = .ok (.iadd, 1) := by decide +kernel
theorem dL_trials_23 : decode cL_trials 23 = .ok (.invokestatic 26, 3) := by decide +kernel
theorem dL_trials_26 : decode cL_trials 26 = .ok (.istore 6, 2) := by decide +kernel
theorem dL_trials_28 : decode cL_trials 28 = .ok (.aload_n 3, 1) := by decide +kernel
theorem dL_trials_29 : decode cL_trials 29 = .ok (.iload 5, 2) := by decide +kernel
theorem dL_trials_31 : decode cL_trials 31 = .ok (.iload 6, 2) := by decide +kernel
theorem dL_trials_33 : decode cL_trials 33 = .ok (.bipush 10, 2) := by decide +kernel
theorem dL_trials_35 : decode cL_trials 35 = .ok (.invokestatic 30, 3) := by decide +kernel
theorem dL_trials_38 : decode cL_trials 38 = .ok (.iastore, 1) := by decide +kernel
theorem dL_trials_39 : decode cL_trials 39 = .ok (.aload 4, 2) := by decide +kernel
theorem dL_trials_41 : decode cL_trials 41 = .ok (.iload 5, 2) := by decide +kernel
theorem dL_trials_43 : decode cL_trials 43 = .ok (.iload 6, 2) := by decide +kernel
theorem dL_trials_45 : decode cL_trials 45 = .ok (.iconst 4, 1) := by decide +kernel
theorem dL_trials_46 : decode cL_trials 46 = .ok (.ishr, 1) := by decide +kernel
theorem dL_trials_47 : decode cL_trials 47 = .ok (.iconst 3, 1) := by decide +kernel
theorem dL_trials_48 : decode cL_trials 48 = .ok (.iand, 1) := by decide +kernel
theorem dL_trials_49 : decode cL_trials 49 = .ok (.ifCond .ne 7, 3) := by decide +kernel
theorem dL_trials_52 : decode cL_trials 52 = .ok (.iconst 0, 1) := by decide +kernel
theorem dL_trials_53 : decode cL_trials 53 = .ok (.goto 13, 3) := by decide +kernel
theorem dL_trials_56 : decode cL_trials 56 = .ok (.iload 6, 2) := by decide +kernel
theorem dL_trials_58 : decode cL_trials 58 = .ok (.bipush 6, 2) := by decide +kernel
theorem dL_trials_60 : decode cL_trials 60 = .ok (.ishr, 1) := by decide +kernel
theorem dL_trials_61 : decode cL_trials 61 = .ok (.bipush 12, 2) := by decide +kernel
theorem dL_trials_63 : decode cL_trials 63 = .ok (.invokestatic 30, 3) := by decide +kernel
theorem dL_trials_66 : decode cL_trials 66 = .ok (.iastore, 1) := by decide +kernel
theorem dL_trials_67 : decode cL_trials 67 = .ok (.aload_n 0, 1) := by decide +kernel
theorem dL_trials_68 : decode cL_trials 68 = .ok (.iload 5, 2) := by decide +kernel
theorem dL_trials_70 : decode cL_trials 70 = .ok (.iconst 2, 1) := by decide +kernel
theorem dL_trials_71 : decode cL_trials 71 = .ok (.idiv, 1) := by decide +kernel
theorem dL_trials_72 : decode cL_trials 72 = .ok (.iload 5, 2) := by decide +kernel
theorem dL_trials_74 : decode cL_trials 74 = .ok (.iconst 2, 1) := by decide +kernel
theorem dL_trials_75 : decode cL_trials 75 = .ok (.irem, 1) := by decide +kernel
theorem dL_trials_76 : decode cL_trials 76 = .ok (.iconst 0, 1) := by decide +kernel
theorem dL_trials_77 : decode cL_trials 77 = .ok (.aload_n 3, 1) := by decide +kernel
theorem dL_trials_78 : decode cL_trials 78 = .ok (.iload 5, 2) := by decide +kernel
theorem dL_trials_80 : decode cL_trials 80 = .ok (.iaload, 1) := by decide +kernel
theorem dL_trials_81 : decode cL_trials 81 = .ok (.invokevirtual 34, 3) := by decide +kernel
theorem dL_trials_84 : decode cL_trials 84 = .ok (.ifCond .lt 32, 3) := by decide +kernel
theorem dL_trials_87 : decode cL_trials 87 = .ok (.aload_n 0, 1) := by decide +kernel
theorem dL_trials_88 : decode cL_trials 88 = .ok (.iload 5, 2) := by decide +kernel
theorem dL_trials_90 : decode cL_trials 90 = .ok (.iconst 2, 1) := by decide +kernel
theorem dL_trials_91 : decode cL_trials 91 = .ok (.idiv, 1) := by decide +kernel
theorem dL_trials_92 : decode cL_trials 92 = .ok (.iload 5, 2) := by decide +kernel
theorem dL_trials_94 : decode cL_trials 94 = .ok (.iconst 2, 1) := by decide +kernel
theorem dL_trials_95 : decode cL_trials 95 = .ok (.irem, 1) := by decide +kernel
theorem dL_trials_96 : decode cL_trials 96 = .ok (.iconst 1, 1) := by decide +kernel
theorem dL_trials_97 : decode cL_trials 97 = .ok (.aload 4, 2) := by decide +kernel
theorem dL_trials_99 : decode cL_trials 99 = .ok (.iload 5, 2) := by decide +kernel
theorem dL_trials_101 : decode cL_trials 101 = .ok (.iaload, 1) := by decide +kernel
theorem dL_trials_102 : decode cL_trials 102 = .ok (.invokevirtual 34, 3) := by decide +kernel
theorem dL_trials_105 : decode cL_trials 105 = .ok (.ifCond .lt 11, 3) := by decide +kernel
theorem dL_trials_108 : decode cL_trials 108 = .ok (.aload_n 0, 1) := by decide +kernel
theorem dL_trials_109 : decode cL_trials 109 = .ok (.iconst 3, 1) := by decide +kernel
theorem dL_trials_110 : decode cL_trials 110 = .ok (.invokevirtual 38, 3) := by decide +kernel
theorem dL_trials_113 : decode cL_trials 113 = .ok (.ifCond .eq 5, 3) := by decide +kernel
theorem dL_trials_116 : decode cL_trials 116 = .ok (.iconst 0, 1) := by decide +kernel
theorem dL_trials_117 : decode cL_trials 117 = .ok (.ireturn, 1) := by decide +kernel
theorem dL_trials_118 : decode cL_trials 118 = .ok (.iinc 5 1, 3) := by decide +kernel
theorem dL_trials_121 : decode cL_trials 121 = .ok (.goto (-109), 3) := by decide +kernel
theorem dL_trials_124 : decode cL_trials 124 = .ok (.aload_n 0, 1) := by decide +kernel
theorem dL_trials_125 : decode cL_trials 125 = .ok (.iconst 0, 1) := by decide +kernel
theorem dL_trials_126 : decode cL_trials 126 = .ok (.iconst 0, 1) := by decide +kernel
theorem dL_trials_127 : decode cL_trials 127 = .ok (.invokevirtual 42, 3) := by decide +kernel
theorem dL_trials_130 : decode cL_trials 130 = .ok (.bipush (-3), 2) := by decide +kernel
theorem dL_trials_132 : decode cL_trials 132 = .ok (.if_icmp .ne 26, 3) := by decide +kernel
theorem dL_trials_135 : decode cL_trials 135 = .ok (.aload_n 0, 1) := by decide +kernel
theorem dL_trials_136 : decode cL_trials 136 = .ok (.iconst 0, 1) := by decide +kernel
theorem dL_trials_137 : decode cL_trials 137 = .ok (.iconst 0, 1) := by decide +kernel
theorem dL_trials_138 : decode cL_trials 138 = .ok (.iconst 0, 1) := by decide +kernel
theorem dL_trials_139 : decode cL_trials 139 = .ok (.invokevirtual 45, 3) := by decide +kernel
theorem dL_trials_142 : decode cL_trials 142 = .ok (.iconst 1, 1) := by decide +kernel
theorem dL_trials_143 : decode cL_trials 143 = .ok (.if_icmp .ne 15, 3) := by decide +kernel
theorem dL_trials_146 : decode cL_trials 146 = .ok (.aload_n 0, 1) := by decide +kernel
theorem dL_trials_147 : decode cL_trials 147 = .ok (.iconst 0, 1) := by decide +kernel
theorem dL_trials_148 : decode cL_trials 148 = .ok (.iconst 0, 1) := by decide +kernel
theorem dL_trials_149 : decode cL_trials 149 = .ok (.iconst 0, 1) := by decide +kernel
theorem dL_trials_150 : decode cL_trials 150 = .ok (.invokevirtual 49, 3) := by decide +kernel
theorem dL_trials_153 : decode cL_trials 153 = .ok (.bipush (-3), 2) := by decide +kernel
theorem dL_trials_155 : decode cL_trials 155 = .ok (.if_icmp .eq 5, 3) := by decide +kernel
theorem dL_trials_158 : decode cL_trials 158 = .ok (.iconst 0, 1) := by decide +kernel
theorem dL_trials_159 : decode cL_trials 159 = .ok (.ireturn, 1) := by decide +kernel
theorem dL_trials_160 : decode cL_trials 160 = .ok (.iconst 1, 1) := by decide +kernel
theorem dL_trials_161 : decode cL_trials 161 = .ok (.istore 5, 2) := by decide +kernel
theorem dL_trials_163 : decode cL_trials 163 = .ok (.iload 5, 2) := by decide +kernel
theorem dL_trials_165 : decode cL_trials 165 = .ok (.iconst 3, 1) := by decide +kernel
theorem dL_trials_166 : decode cL_trials 166 = .ok (.if_icmp .ge 55, 3) := by decide +kernel
theorem dL_trials_169 : decode cL_trials 169 = .ok (.aload_n 1, 1) := by decide +kernel
theorem dL_trials_170 : decode cL_trials 170 = .ok (.iload_n 2, 1) := by decide +kernel
theorem dL_trials_171 : decode cL_trials 171 = .ok (.iconst 3, 1) := by decide +kernel
theorem dL_trials_172 : decode cL_trials 172 = .ok (.iadd, 1) := by decide +kernel
theorem dL_trials_173 : decode cL_trials 173 = .ok (.iload 5, 2) := by decide +kernel
theorem dL_trials_175 : decode cL_trials 175 = .ok (.iadd, 1) := by decide +kernel
theorem dL_trials_176 : decode cL_trials 176 = .ok (.invokestatic 26, 3) := by decide +kernel
theorem dL_trials_179 : decode cL_trials 179 = .ok (.istore 6, 2) := by decide +kernel
theorem dL_trials_181 : decode cL_trials 181 = .ok (.aload_n 0, 1) := by decide +kernel
theorem dL_trials_182 : decode cL_trials 182 = .ok (.iload 5, 2) := by decide +kernel
theorem dL_trials_184 : decode cL_trials 184 = .ok (.iconst 1, 1) := by decide +kernel
theorem dL_trials_185 : decode cL_trials 185 = .ok (.iload 6, 2) := by decide +kernel
theorem dL_trials_187 : decode cL_trials 187 = .ok (.bipush 99, 2) := by decide +kernel
theorem dL_trials_189 : decode cL_trials 189 = .ok (.invokestatic 30, 3) := by decide +kernel
theorem dL_trials_192 : decode cL_trials 192 = .ok (.iadd, 1) := by decide +kernel
theorem dL_trials_193 : decode cL_trials 193 = .ok (.iload 6, 2) := by decide +kernel
theorem dL_trials_195 : decode cL_trials 195 = .ok (.bipush 7, 2) := by decide +kernel
theorem dL_trials_197 : decode cL_trials 197 = .ok (.ishr, 1) := by decide +kernel
theorem dL_trials_198 : decode cL_trials 198 = .ok (.bipush 12, 2) := by decide +kernel
theorem dL_trials_200 : decode cL_trials 200 = .ok (.invokestatic 30, 3) := by decide +kernel
theorem dL_trials_203 : decode cL_trials 203 = .ok (.invokevirtual 45, 3) := by decide +kernel
theorem dL_trials_206 : decode cL_trials 206 = .ok (.iload 5, 2) := by decide +kernel
theorem dL_trials_208 : decode cL_trials 208 = .ok (.iconst 1, 1) := by decide +kernel
theorem dL_trials_209 : decode cL_trials 209 = .ok (.iadd, 1) := by decide +kernel
theorem dL_trials_210 : decode cL_trials 210 = .ok (.if_icmp .eq 5, 3) := by decide +kernel
theorem dL_trials_213 : decode cL_trials 213 = .ok (.iconst 0, 1) := by decide +kernel
theorem dL_trials_214 : decode cL_trials 214 = .ok (.ireturn, 1) := by decide +kernel
theorem dL_trials_215 : decode cL_trials 215 = .ok (.iinc 5 1, 3) := by decide +kernel
theorem dL_trials_218 : decode cL_trials 218 = .ok (.goto (-55), 3) := by decide +kernel
theorem dL_trials_221 : decode cL_trials 221 = .ok (.iconst 0, 1) := by decide +kernel
theorem dL_trials_222 : decode cL_trials 222 = .ok (.istore 5, 2) := by decide +kernel
theorem dL_trials_224 : decode cL_trials 224 = .ok (.iload 5, 2) := by decide +kernel
theorem dL_trials_226 : decode cL_trials 226 = .ok (.iconst 4, 1) := by decide +kernel
theorem dL_trials_227 : decode cL_trials 227 = .ok (.if_icmp .ge 99, 3) := by decide +kernel
theorem dL_trials_230 : decode cL_trials 230 = .ok (.aload_n 0, 1) := by decide +kernel
theorem dL_trials_231 : decode cL_trials 231 = .ok (.iload 5, 2) := by decide +kernel
theorem dL_trials_233 : decode cL_trials 233 = .ok (.iconst 2, 1) := by decide +kernel
theorem dL_trials_234 : decode cL_trials 234 = .ok (.irem, 1) := by decide +kernel
theorem dL_trials_235 : decode cL_trials 235 = .ok (.iload 5, 2) := by decide +kernel
theorem dL_trials_237 : decode cL_trials 237 = .ok (.iconst 2, 1) := by decide +kernel
theorem dL_trials_238 : decode cL_trials 238 = .ok (.idiv, 1) := by decide +kernel
theorem dL_trials_239 : decode cL_trials 239 = .ok (.iconst 0, 1) := by decide +kernel
theorem dL_trials_240 : decode cL_trials 240 = .ok (.invokevirtual 49, 3) := by decide +kernel
theorem dL_trials_243 : decode cL_trials 243 = .ok (.iconst 1, 1) := by decide +kernel
theorem dL_trials_244 : decode cL_trials 244 = .ok (.if_icmp .ne 74, 3) := by decide +kernel
theorem dL_trials_247 : decode cL_trials 247 = .ok (.aload_n 0, 1) := by decide +kernel
theorem dL_trials_248 : decode cL_trials 248 = .ok (.iconst 0, 1) := by decide +kernel
theorem dL_trials_249 : decode cL_trials 249 = .ok (.aload_n 3, 1) := by decide +kernel
theorem dL_trials_250 : decode cL_trials 250 = .ok (.iload 5, 2) := by decide +kernel
theorem dL_trials_252 : decode cL_trials 252 = .ok (.iaload, 1) := by decide +kernel
theorem dL_trials_253 : decode cL_trials 253 = .ok (.aload 4, 2) := by decide +kernel
theorem dL_trials_255 : decode cL_trials 255 = .ok (.iload 5, 2) := by decide +kernel
theorem dL_trials_257 : decode cL_trials 257 = .ok (.iaload, 1) := by decide +kernel
theorem dL_trials_258 : decode cL_trials 258 = .ok (.iconst 0, 1) := by decide +kernel
theorem dL_trials_259 : decode cL_trials 259 = .ok (.invokestatic 52, 3) := by decide +kernel
theorem dL_trials_262 : decode cL_trials 262 = .ok (.imul, 1) := by decide +kernel
theorem dL_trials_263 : decode cL_trials 263 = .ok (.i2l, 1) := by decide +kernel
theorem dL_trials_264 : decode cL_trials 264 = .ok (.aload_n 3, 1) := by decide +kernel
theorem dL_trials_265 : decode cL_trials 265 = .ok (.iload 5, 2) := by decide +kernel
theorem dL_trials_267 : decode cL_trials 267 = .ok (.iaload, 1) := by decide +kernel
theorem dL_trials_268 : decode cL_trials 268 = .ok (.aload 4, 2) := by decide +kernel
theorem dL_trials_270 : decode cL_trials 270 = .ok (.iload 5, 2) := by decide +kernel
theorem dL_trials_272 : decode cL_trials 272 = .ok (.iaload, 1) := by decide +kernel
theorem dL_trials_273 : decode cL_trials 273 = .ok (.iconst 1, 1) := by decide +kernel
theorem dL_trials_274 : decode cL_trials 274 = .ok (.invokestatic 52, 3) := by decide +kernel
theorem dL_trials_277 : decode cL_trials 277 = .ok (.imul, 1) := by decide +kernel
theorem dL_trials_278 : decode cL_trials 278 = .ok (.i2l, 1) := by decide +kernel
theorem dL_trials_279 : decode cL_trials 279 = .ok (.aload_n 3, 1) := by decide +kernel
theorem dL_trials_280 : decode cL_trials 280 = .ok (.iload 5, 2) := by decide +kernel
theorem dL_trials_282 : decode cL_trials 282 = .ok (.iaload, 1) := by decide +kernel
theorem dL_trials_283 : decode cL_trials 283 = .ok (.aload 4, 2) := by decide +kernel
theorem dL_trials_285 : decode cL_trials 285 = .ok (.iload 5, 2) := by decide +kernel
theorem dL_trials_287 : decode cL_trials 287 = .ok (.iaload, 1) := by decide +kernel
theorem dL_trials_288 : decode cL_trials 288 = .ok (.iconst 2, 1) := by decide +kernel
theorem dL_trials_289 : decode cL_trials 289 = .ok (.invokestatic 52, 3) := by decide +kernel
theorem dL_trials_292 : decode cL_trials 292 = .ok (.imul, 1) := by decide +kernel
theorem dL_trials_293 : decode cL_trials 293 = .ok (.i2l, 1) := by decide +kernel
theorem dL_trials_294 : decode cL_trials 294 = .ok (.aload_n 3, 1) := by decide +kernel
theorem dL_trials_295 : decode cL_trials 295 = .ok (.iload 5, 2) := by decide +kernel
theorem dL_trials_297 : decode cL_trials 297 = .ok (.iaload, 1) := by decide +kernel
theorem dL_trials_298 : decode cL_trials 298 = .ok (.aload 4, 2) := by decide +kernel
theorem dL_trials_300 : decode cL_trials 300 = .ok (.iload 5, 2) := by decide +kernel
theorem dL_trials_302 : decode cL_trials 302 = .ok (.iaload, 1) := by decide +kernel
theorem dL_trials_303 : decode cL_trials 303 = .ok (.iconst 3, 1) := by decide +kernel
theorem dL_trials_304 : decode cL_trials 304 = .ok (.invokestatic 52, 3) := by decide +kernel
theorem dL_trials_307 : decode cL_trials 307 = .ok (.imul, 1) := by decide +kernel
theorem dL_trials_308 : decode cL_trials 308 = .ok (.i2l, 1) := by decide +kernel
theorem dL_trials_309 : decode cL_trials 309 = .ok (.ldc2_w 55, 3) := by decide +kernel
theorem dL_trials_312 : decode cL_trials 312 = .ok (.invokestatic 57, 3) := by decide +kernel
theorem dL_trials_315 : decode cL_trials 315 = .ok (.ifCond .ne 5, 3) := by decide +kernel
theorem dL_trials_318 : decode cL_trials 318 = .ok (.iconst 0, 1) := by decide +kernel
theorem dL_trials_319 : decode cL_trials 319 = .ok (.ireturn, 1) := by decide +kernel
theorem dL_trials_320 : decode cL_trials 320 = .ok (.iinc 5 1, 3) := by decide +kernel
theorem dL_trials_323 : decode cL_trials 323 = .ok (.goto (-99), 3) := by decide +kernel
theorem dL_trials_326 : decode cL_trials 326 = .ok (.aload_n 3, 1) := by decide +kernel
theorem dL_trials_327 : decode cL_trials 327 = .ok (.iconst 0, 1) := by decide +kernel
theorem dL_trials_328 : decode cL_trials 328 = .ok (.iaload, 1) := by decide +kernel
theorem dL_trials_329 : decode cL_trials 329 = .ok (.aload_n 3, 1) := by decide +kernel
theorem dL_trials_330 : decode cL_trials 330 = .ok (.iconst 3, 1) := by decide +kernel
theorem dL_trials_331 : decode cL_trials 331 = .ok (.iaload, 1) := by decide +kernel
theorem dL_trials_332 : decode cL_trials 332 = .ok (.imul, 1) := by decide +kernel
theorem dL_trials_333 : decode cL_trials 333 = .ok (.istore 5, 2) := by decide +kernel
theorem dL_trials_335 : decode cL_trials 335 = .ok (.aload_n 3, 1) := by decide +kernel
theorem dL_trials_336 : decode cL_trials 336 = .ok (.iconst 1, 1) := by decide +kernel
theorem dL_trials_337 : decode cL_trials 337 = .ok (.iaload, 1) := by decide +kernel
theorem dL_trials_338 : decode cL_trials 338 = .ok (.aload_n 3, 1) := by decide +kernel
theorem dL_trials_339 : decode cL_trials 339 = .ok (.iconst 2, 1) := by decide +kernel
theorem dL_trials_340 : decode cL_trials 340 = .ok (.iaload, 1) := by decide +kernel
theorem dL_trials_341 : decode cL_trials 341 = .ok (.imul, 1) := by decide +kernel
theorem dL_trials_342 : decode cL_trials 342 = .ok (.istore 6, 2) := by decide +kernel
theorem dL_trials_344 : decode cL_trials 344 = .ok (.iload 5, 2) := by decide +kernel
theorem dL_trials_346 : decode cL_trials 346 = .ok (.iload 6, 2) := by decide +kernel
theorem dL_trials_348 : decode cL_trials 348 = .ok (.if_icmp .ne 37, 3) := by decide +kernel
theorem dL_trials_351 : decode cL_trials 351 = .ok (.iload 5, 2) := by decide +kernel
theorem dL_trials_353 : decode cL_trials 353 = .ok (.ifCond .eq 28, 3) := by decide +kernel
theorem dL_trials_356 : decode cL_trials 356 = .ok (.aload 4, 2) := by decide +kernel
theorem dL_trials_358 : decode cL_trials 358 = .ok (.iconst 0, 1) := by decide +kernel
theorem dL_trials_359 : decode cL_trials 359 = .ok (.iaload, 1) := by decide +kernel
theorem dL_trials_360 : decode cL_trials 360 = .ok (.aload 4, 2) := by decide +kernel
theorem dL_trials_362 : decode cL_trials 362 = .ok (.iconst 3, 1) := by decide +kernel
theorem dL_trials_363 : decode cL_trials 363 = .ok (.iaload, 1) := by decide +kernel
theorem dL_trials_364 : decode cL_trials 364 = .ok (.iadd, 1) := by decide +kernel
theorem dL_trials_365 : decode cL_trials 365 = .ok (.aload 4, 2) := by decide +kernel
theorem dL_trials_367 : decode cL_trials 367 = .ok (.iconst 1, 1) := by decide +kernel
theorem dL_trials_368 : decode cL_trials 368 = .ok (.iaload, 1) := by decide +kernel
theorem dL_trials_369 : decode cL_trials 369 = .ok (.isub, 1) := by decide +kernel
theorem dL_trials_370 : decode cL_trials 370 = .ok (.aload 4, 2) := by decide +kernel
theorem dL_trials_372 : decode cL_trials 372 = .ok (.iconst 2, 1) := by decide +kernel
theorem dL_trials_373 : decode cL_trials 373 = .ok (.iaload, 1) := by decide +kernel
theorem dL_trials_374 : decode cL_trials 374 = .ok (.isub, 1) := by decide +kernel
theorem dL_trials_375 : decode cL_trials 375 = .ok (.bipush 12, 2) := by decide +kernel
theorem dL_trials_377 : decode cL_trials 377 = .ok (.irem, 1) := by decide +kernel
theorem dL_trials_378 : decode cL_trials 378 = .ok (.ifCond .ne 7, 3) := by decide +kernel
theorem dL_trials_381 : decode cL_trials 381 = .ok (.iconst 1, 1) := by decide +kernel
theorem dL_trials_382 : decode cL_trials 382 = .ok (.goto 4, 3) := by decide +kernel
theorem dL_trials_385 : decode cL_trials 385 = .ok (.iconst 0, 1) := by decide +kernel
theorem dL_trials_386 : decode cL_trials 386 = .ok (.istore 7, 2) := by decide +kernel
theorem dL_trials_388 : decode cL_trials 388 = .ok (.iload 7, 2) := by decide +kernel
theorem dL_trials_390 : decode cL_trials 390 = .ok (.ifCond .eq 31, 3) := by decide +kernel
theorem dL_trials_393 : decode cL_trials 393 = .ok (.aload_n 0, 1) := by decide +kernel
theorem dL_trials_394 : decode cL_trials 394 = .ok (.iconst 0, 1) := by decide +kernel
theorem dL_trials_395 : decode cL_trials 395 = .ok (.iconst 0, 1) := by decide +kernel
theorem dL_trials_396 : decode cL_trials 396 = .ok (.invokevirtual 42, 3) := by decide +kernel
theorem dL_trials_399 : decode cL_trials 399 = .ok (.bipush (-6), 2) := by decide +kernel
theorem dL_trials_401 : decode cL_trials 401 = .ok (.if_icmp .ne 18, 3) := by decide +kernel
theorem dL_trials_404 : decode cL_trials 404 = .ok (.aload_n 0, 1) := by decide +kernel
theorem dL_trials_405 : decode cL_trials 405 = .ok (.iconst 1, 1) := by decide +kernel
theorem dL_trials_406 : decode cL_trials 406 = .ok (.iconst 1, 1) := by decide +kernel
theorem dL_trials_407 : decode cL_trials 407 = .ok (.invokevirtual 42, 3) := by decide +kernel
theorem dL_trials_410 : decode cL_trials 410 = .ok (.bipush (-6), 2) := by decide +kernel
theorem dL_trials_412 : decode cL_trials 412 = .ok (.if_icmp .ne 7, 3) := by decide +kernel
theorem dL_trials_415 : decode cL_trials 415 = .ok (.iconst 1, 1) := by decide +kernel
theorem dL_trials_416 : decode cL_trials 416 = .ok (.goto 4, 3) := by decide +kernel
theorem dL_trials_419 : decode cL_trials 419 = .ok (.iconst 0, 1) := by decide +kernel
theorem dL_trials_420 : decode cL_trials 420 = .ok (.ireturn, 1) := by decide +kernel
theorem dL_trials_421 : decode cL_trials 421 = .ok (.aload_n 0, 1) := by decide +kernel
theorem dL_trials_422 : decode cL_trials 422 = .ok (.iconst 0, 1) := by decide +kernel
theorem dL_trials_423 : decode cL_trials 423 = .ok (.iconst 0, 1) := by decide +kernel
theorem dL_trials_424 : decode cL_trials 424 = .ok (.invokevirtual 42, 3) := by decide +kernel
theorem dL_trials_427 : decode cL_trials 427 = .ok (.iconst 1, 1) := by decide +kernel
theorem dL_trials_428 : decode cL_trials 428 = .ok (.if_icmp .ne 44, 3) := by decide +kernel
theorem dL_trials_431 : decode cL_trials 431 = .ok (.aload_n 0, 1) := by decide +kernel
theorem dL_trials_432 : decode cL_trials 432 = .ok (.iconst 1, 1) := by decide +kernel
theorem dL_trials_433 : decode cL_trials 433 = .ok (.iconst 1, 1) := by decide +kernel
theorem dL_trials_434 : decode cL_trials 434 = .ok (.invokevirtual 42, 3) := by decide +kernel
theorem dL_trials_437 : decode cL_trials 437 = .ok (.iconst 1, 1) := by decide +kernel
theorem dL_trials_438 : decode cL_trials 438 = .ok (.if_icmp .ne 34, 3) := by decide +kernel
theorem dL_trials_441 : decode cL_trials 441 = .ok (.aload_n 0, 1) := by decide +kernel
theorem dL_trials_442 : decode cL_trials 442 = .ok (.iconst 0, 1) := by decide +kernel
theorem dL_trials_443 : decode cL_trials 443 = .ok (.iconst 0, 1) := by decide +kernel
theorem dL_trials_444 : decode cL_trials 444 = .ok (.invokestatic 61, 3) := by decide +kernel
theorem dL_trials_447 : decode cL_trials 447 = .ok (.ifCond .eq 25, 3) := by decide +kernel
theorem dL_trials_450 : decode cL_trials 450 = .ok (.aload_n 0, 1) := by decide +kernel
theorem dL_trials_451 : decode cL_trials 451 = .ok (.iconst 1, 1) := by decide +kernel
theorem dL_trials_452 : decode cL_trials 452 = .ok (.iconst 1, 1) := by decide +kernel
theorem dL_trials_453 : decode cL_trials 453 = .ok (.invokestatic 61, 3) := by decide +kernel
theorem dL_trials_456 : decode cL_trials 456 = .ok (.ifCond .eq 16, 3) := by decide +kernel
theorem dL_trials_459 : decode cL_trials 459 = .ok (.aload_n 0, 1) := by decide +kernel
theorem dL_trials_460 : decode cL_trials 460 = .ok (.iconst 3, 1) := by decide +kernel
theorem dL_trials_461 : decode cL_trials 461 = .ok (.invokevirtual 38, 3) := by decide +kernel
theorem dL_trials_464 : decode cL_trials 464 = .ok (.iconst 3, 1) := by decide +kernel
theorem dL_trials_465 : decode cL_trials 465 = .ok (.if_icmp .ne 7, 3) := by decide +kernel
theorem dL_trials_468 : decode cL_trials 468 = .ok (.iconst 1, 1) := by decide +kernel
theorem dL_trials_469 : decode cL_trials 469 = .ok (.goto 4, 3) := by decide +kernel
theorem dL_trials_472 : decode cL_trials 472 = .ok (.iconst 0, 1) := by decide +kernel
theorem dL_trials_473 : decode cL_trials 473 = .ok (.ireturn, 1) := by decide +kernel
theorem dL_registers_0 : decode cL_registers 0 = .ok (.iconst 0, 1) := by decide +kernel
theorem dL_registers_1 : decode cL_registers 1 = .ok (.istore_n 3, 1) := by decide +kernel
theorem dL_registers_2 : decode cL_registers 2 = .ok (.iload_n 3, 1) := by decide +kernel
theorem dL_registers_3 : decode cL_registers 3 = .ok (.iconst 2, 1) := by decide +kernel
theorem dL_registers_4 : decode cL_registers 4 = .ok (.if_icmp .ge 90, 3) := by decide +kernel
theorem dL_registers_7 : decode cL_registers 7 = .ok (.aload_n 1, 1) := by decide +kernel
theorem dL_registers_8 : decode cL_registers 8 = .ok (.iload_n 2, 1) := by decide +kernel
theorem dL_registers_9 : decode cL_registers 9 = .ok (.iload_n 3, 1) := by decide +kernel
theorem dL_registers_10 : decode cL_registers 10 = .ok (.iadd, 1) := by decide +kernel
theorem dL_registers_11 : decode cL_registers 11 = .ok (.invokestatic 26, 3) := by decide +kernel
theorem dL_registers_14 : decode cL_registers 14 = .ok (.istore 4, 2) := by decide +kernel
theorem dL_registers_16 : decode cL_registers 16 = .ok (.aload_n 0, 1) := by decide +kernel
theorem dL_registers_17 : decode cL_registers 17 = .ok (.iload_n 3, 1) := by decide +kernel
theorem dL_registers_18 : decode cL_registers 18 = .ok (.iload 4, 2) := by decide +kernel
theorem dL_registers_20 : decode cL_registers 20 = .ok (.bipush 99, 2) := by decide +kernel
theorem dL_registers_22 : decode cL_registers 22 = .ok (.invokestatic 30, 3) := by decide +kernel
theorem dL_registers_25 : decode cL_registers 25 = .ok (.bipush 49, 2) := by decide +kernel
theorem dL_registers_27 : decode cL_registers 27 = .ok (.isub, 1) := by decide +kernel
theorem dL_registers_28 : decode cL_registers 28 = .ok (.iload 4, 2) := by decide +kernel
theorem dL_registers_30 : decode cL_registers 30 = .ok (.bipush 7, 2) := by decide +kernel
theorem dL_registers_32 : decode cL_registers 32 = .ok (.ishr, 1) := by decide +kernel
theorem dL_registers_33 : decode cL_registers 33 = .ok (.bipush 99, 2) := by decide +kernel
theorem dL_registers_35 : decode cL_registers 35 = .ok (.invokestatic 30, 3) := by decide +kernel
theorem dL_registers_38 : decode cL_registers 38 = .ok (.bipush 49, 2) := by decide +kernel
theorem dL_registers_40 : decode cL_registers 40 = .ok (.isub, 1) := by decide +kernel
theorem dL_registers_41 : decode cL_registers 41 = .ok (.iload 4, 2) := by decide +kernel
theorem dL_registers_43 : decode cL_registers 43 = .ok (.bipush 14, 2) := by decide +kernel
theorem dL_registers_45 : decode cL_registers 45 = .ok (.ishr, 1) := by decide +kernel
theorem dL_registers_46 : decode cL_registers 46 = .ok (.bipush 19, 2) := by decide +kernel
theorem dL_registers_48 : decode cL_registers 48 = .ok (.invokestatic 30, 3) := by decide +kernel
theorem dL_registers_51 : decode cL_registers 51 = .ok (.bipush 9, 2) := by decide +kernel
theorem dL_registers_53 : decode cL_registers 53 = .ok (.isub, 1) := by decide +kernel
theorem dL_registers_54 : decode cL_registers 54 = .ok (.iload 4, 2) := by decide +kernel
theorem dL_registers_56 : decode cL_registers 56 = .ok (.bipush 19, 2) := by decide +kernel
theorem dL_registers_58 : decode cL_registers 58 = .ok (.ishr, 1) := by decide +kernel
theorem dL_registers_59 : decode cL_registers 59 = .ok (.bipush 19, 2) := by decide +kernel
theorem dL_registers_61 : decode cL_registers 61 = .ok (.invokestatic 30, 3) := by decide +kernel
theorem dL_registers_64 : decode cL_registers 64 = .ok (.bipush 9, 2) := by decide +kernel
theorem dL_registers_66 : decode cL_registers 66 = .ok (.isub, 1) := by decide +kernel
theorem dL_registers_67 : decode cL_registers 67 = .ok (.iconst 1, 1) := by decide +kernel
theorem dL_registers_68 : decode cL_registers 68 = .ok (.iload 4, 2) := by decide +kernel
theorem dL_registers_70 : decode cL_registers 70 = .ok (.bipush 24, 2) := by decide +kernel
theorem dL_registers_72 : decode cL_registers 72 = .ok (.ishr, 1) := by decide +kernel
theorem dL_registers_73 : decode cL_registers 73 = .ok (.bipush 30, 2) := by decide +kernel
theorem dL_registers_75 : decode cL_registers 75 = .ok (.invokestatic 30, 3) := by decide +kernel
theorem dL_registers_78 : decode cL_registers 78 = .ok (.iadd, 1) := by decide +kernel
theorem dL_registers_79 : decode cL_registers 79 = .ok (.invokevirtual 65, 3) := by decide +kernel
theorem dL_registers_82 : decode cL_registers 82 = .ok (.iconst 1, 1) := by decide +kernel
theorem dL_registers_83 : decode cL_registers 83 = .ok (.if_icmp .eq 5, 3) := by decide +kernel
theorem dL_registers_86 : decode cL_registers 86 = .ok (.iconst 0, 1) := by decide +kernel
theorem dL_registers_87 : decode cL_registers 87 = .ok (.ireturn, 1) := by decide +kernel
theorem dL_registers_88 : decode cL_registers 88 = .ok (.iinc 3 1, 3) := by decide +kernel
theorem dL_registers_91 : decode cL_registers 91 = .ok (.goto (-89), 3) := by decide +kernel
theorem dL_registers_94 : decode cL_registers 94 = .ok (.aload_n 0, 1) := by decide +kernel
theorem dL_registers_95 : decode cL_registers 95 = .ok (.iconst 1, 1) := by decide +kernel
theorem dL_registers_96 : decode cL_registers 96 = .ok (.iconst 0, 1) := by decide +kernel
theorem dL_registers_97 : decode cL_registers 97 = .ok (.invokevirtual 15, 3) := by decide +kernel
theorem dL_registers_100 : decode cL_registers 100 = .ok (.lconst 0, 1) := by decide +kernel
theorem dL_registers_101 : decode cL_registers 101 = .ok (.lcmp, 1) := by decide +kernel
theorem dL_registers_102 : decode cL_registers 102 = .ok (.ifCond .ne 40, 3) := by decide +kernel
theorem dL_registers_105 : decode cL_registers 105 = .ok (.aload_n 0, 1) := by decide +kernel
theorem dL_registers_106 : decode cL_registers 106 = .ok (.iconst 1, 1) := by decide +kernel
theorem dL_registers_107 : decode cL_registers 107 = .ok (.iconst 1, 1) := by decide +kernel
theorem dL_registers_108 : decode cL_registers 108 = .ok (.invokevirtual 15, 3) := by decide +kernel
theorem dL_registers_111 : decode cL_registers 111 = .ok (.lconst 0, 1) := by decide +kernel
theorem dL_registers_112 : decode cL_registers 112 = .ok (.lcmp, 1) := by decide +kernel
theorem dL_registers_113 : decode cL_registers 113 = .ok (.ifCond .ne 29, 3) := by decide +kernel
theorem dL_registers_116 : decode cL_registers 116 = .ok (.aload_n 0, 1) := by decide +kernel
theorem dL_registers_117 : decode cL_registers 117 = .ok (.iconst 1, 1) := by decide +kernel
theorem dL_registers_118 : decode cL_registers 118 = .ok (.iconst 2, 1) := by decide +kernel
theorem dL_registers_119 : decode cL_registers 119 = .ok (.invokevirtual 15, 3) := by decide +kernel
theorem dL_registers_122 : decode cL_registers 122 = .ok (.lconst 0, 1) := by decide +kernel
theorem dL_registers_123 : decode cL_registers 123 = .ok (.lcmp, 1) := by decide +kernel
theorem dL_registers_124 : decode cL_registers 124 = .ok (.ifCond .ne 18, 3) := by decide +kernel
theorem dL_registers_127 : decode cL_registers 127 = .ok (.aload_n 0, 1) := by decide +kernel
theorem dL_registers_128 : decode cL_registers 128 = .ok (.iconst 1, 1) := by decide +kernel
theorem dL_registers_129 : decode cL_registers 129 = .ok (.iconst 3, 1) := by decide +kernel
theorem dL_registers_130 : decode cL_registers 130 = .ok (.invokevirtual 15, 3) := by decide +kernel
theorem dL_registers_133 : decode cL_registers 133 = .ok (.lconst 0, 1) := by decide +kernel
theorem dL_registers_134 : decode cL_registers 134 = .ok (.lcmp, 1) := by decide +kernel
theorem dL_registers_135 : decode cL_registers 135 = .ok (.ifCond .ne 7, 3) := by decide +kernel
theorem dL_registers_138 : decode cL_registers 138 = .ok (.iconst 1, 1) := by decide +kernel
theorem dL_registers_139 : decode cL_registers 139 = .ok (.goto 4, 3) := by decide +kernel
theorem dL_registers_142 : decode cL_registers 142 = .ok (.iconst 0, 1) := by decide +kernel
theorem dL_registers_143 : decode cL_registers 143 = .ok (.istore_n 3, 1) := by decide +kernel
theorem dL_registers_144 : decode cL_registers 144 = .ok (.aload_n 0, 1) := by decide +kernel
theorem dL_registers_145 : decode cL_registers 145 = .ok (.iconst 0, 1) := by decide +kernel
theorem dL_registers_146 : decode cL_registers 146 = .ok (.iconst 0, 1) := by decide +kernel
theorem dL_registers_147 : decode cL_registers 147 = .ok (.iconst 1, 1) := by decide +kernel
theorem dL_registers_148 : decode cL_registers 148 = .ok (.iconst 2, 1) := by decide +kernel
theorem dL_registers_149 : decode cL_registers 149 = .ok (.invokevirtual 69, 3) := by decide +kernel
theorem dL_registers_152 : decode cL_registers 152 = .ok (.iconst 1, 1) := by decide +kernel
theorem dL_registers_153 : decode cL_registers 153 = .ok (.if_icmp .ne 45, 3) := by decide +kernel
theorem dL_registers_156 : decode cL_registers 156 = .ok (.aload_n 0, 1) := by decide +kernel
theorem dL_registers_157 : decode cL_registers 157 = .ok (.iconst 1, 1) := by decide +kernel
theorem dL_registers_158 : decode cL_registers 158 = .ok (.iconst 2, 1) := by decide +kernel
theorem dL_registers_159 : decode cL_registers 159 = .ok (.iconst 1, 1) := by decide +kernel
theorem dL_registers_160 : decode cL_registers 160 = .ok (.iconst 3, 1) := by decide +kernel
theorem dL_registers_161 : decode cL_registers 161 = .ok (.invokevirtual 69, 3) := by decide +kernel
theorem dL_registers_164 : decode cL_registers 164 = .ok (.iconst 1, 1) := by decide +kernel
theorem dL_registers_165 : decode cL_registers 165 = .ok (.if_icmp .ne 33, 3) := by decide +kernel
theorem dL_registers_168 : decode cL_registers 168 = .ok (.aload_n 0, 1) := by decide +kernel
theorem dL_registers_169 : decode cL_registers 169 = .ok (.iconst 0, 1) := by decide +kernel
theorem dL_registers_170 : decode cL_registers 170 = .ok (.iconst 3, 1) := by decide +kernel
theorem dL_registers_171 : decode cL_registers 171 = .ok (.invokestatic 72, 3) := by decide +kernel
theorem dL_registers_174 : decode cL_registers 174 = .ok (.ifCond .eq 24, 3) := by decide +kernel
theorem dL_registers_177 : decode cL_registers 177 = .ok (.aload_n 0, 1) := by decide +kernel
theorem dL_registers_178 : decode cL_registers 178 = .ok (.iconst 1, 1) := by decide +kernel
theorem dL_registers_179 : decode cL_registers 179 = .ok (.iconst 2, 1) := by decide +kernel
theorem dL_registers_180 : decode cL_registers 180 = .ok (.iconst 0, 1) := by decide +kernel
theorem dL_registers_181 : decode cL_registers 181 = .ok (.iconst 3, 1) := by decide +kernel
theorem dL_registers_182 : decode cL_registers 182 = .ok (.invokevirtual 69, 3) := by decide +kernel
theorem dL_registers_185 : decode cL_registers 185 = .ok (.iconst 1, 1) := by decide +kernel
theorem dL_registers_186 : decode cL_registers 186 = .ok (.if_icmp .ne 12, 3) := by decide +kernel
theorem dL_registers_189 : decode cL_registers 189 = .ok (.aload_n 0, 1) := by decide +kernel
theorem dL_registers_190 : decode cL_registers 190 = .ok (.iconst 1, 1) := by decide +kernel
theorem dL_registers_191 : decode cL_registers 191 = .ok (.iconst 3, 1) := by decide +kernel
theorem dL_registers_192 : decode cL_registers 192 = .ok (.invokestatic 72, 3) := by decide +kernel
theorem dL_registers_195 : decode cL_registers 195 = .ok (.ifCond .ne 5, 3) := by decide +kernel
theorem dL_registers_198 : decode cL_registers 198 = .ok (.iconst 0, 1) := by decide +kernel
theorem dL_registers_199 : decode cL_registers 199 = .ok (.ireturn, 1) := by decide +kernel
theorem dL_registers_200 : decode cL_registers 200 = .ok (.aload_n 0, 1) := by decide +kernel
theorem dL_registers_201 : decode cL_registers 201 = .ok (.iconst 2, 1) := by decide +kernel
theorem dL_registers_202 : decode cL_registers 202 = .ok (.iconst 0, 1) := by decide +kernel
theorem dL_registers_203 : decode cL_registers 203 = .ok (.iconst 1, 1) := by decide +kernel
theorem dL_registers_204 : decode cL_registers 204 = .ok (.iconst 2, 1) := by decide +kernel
theorem dL_registers_205 : decode cL_registers 205 = .ok (.invokevirtual 69, 3) := by decide +kernel
theorem dL_registers_208 : decode cL_registers 208 = .ok (.iconst 1, 1) := by decide +kernel
theorem dL_registers_209 : decode cL_registers 209 = .ok (.if_icmp .ne 58, 3) := by decide +kernel
theorem dL_registers_212 : decode cL_registers 212 = .ok (.aload_n 0, 1) := by decide +kernel
theorem dL_registers_213 : decode cL_registers 213 = .ok (.iconst 2, 1) := by decide +kernel
theorem dL_registers_214 : decode cL_registers 214 = .ok (.iconst 1, 1) := by decide +kernel
theorem dL_registers_215 : decode cL_registers 215 = .ok (.iconst 0, 1) := by decide +kernel
theorem dL_registers_216 : decode cL_registers 216 = .ok (.iconst 3, 1) := by decide +kernel
theorem dL_registers_217 : decode cL_registers 217 = .ok (.invokevirtual 69, 3) := by decide +kernel
theorem dL_registers_220 : decode cL_registers 220 = .ok (.iconst 1, 1) := by decide +kernel
theorem dL_registers_221 : decode cL_registers 221 = .ok (.if_icmp .ne 46, 3) := by decide +kernel
theorem dL_registers_224 : decode cL_registers 224 = .ok (.aload_n 0, 1) := by decide +kernel
theorem dL_registers_225 : decode cL_registers 225 = .ok (.iconst 2, 1) := by decide +kernel
theorem dL_registers_226 : decode cL_registers 226 = .ok (.iconst 3, 1) := by decide +kernel
theorem dL_registers_227 : decode cL_registers 227 = .ok (.invokestatic 72, 3) := by decide +kernel
theorem dL_registers_230 : decode cL_registers 230 = .ok (.ifCond .eq 37, 3) := by decide +kernel
theorem dL_registers_233 : decode cL_registers 233 = .ok (.aload_n 0, 1) := by decide +kernel
theorem dL_registers_234 : decode cL_registers 234 = .ok (.iconst 3, 1) := by decide +kernel
theorem dL_registers_235 : decode cL_registers 235 = .ok (.iconst 2, 1) := by decide +kernel
theorem dL_registers_236 : decode cL_registers 236 = .ok (.iconst 1, 1) := by decide +kernel
theorem dL_registers_237 : decode cL_registers 237 = .ok (.iconst 4, 1) := by decide +kernel
theorem dL_registers_238 : decode cL_registers 238 = .ok (.invokevirtual 69, 3) := by decide +kernel
theorem dL_registers_241 : decode cL_registers 241 = .ok (.iload_n 3, 1) := by decide +kernel
theorem dL_registers_242 : decode cL_registers 242 = .ok (.ifCond .eq 8, 3) := by decide +kernel
theorem dL_registers_245 : decode cL_registers 245 = .ok (.bipush (-6), 2) := by decide +kernel
theorem dL_registers_247 : decode cL_registers 247 = .ok (.goto 4, 3) := by decide +kernel
theorem dL_registers_250 : decode cL_registers 250 = .ok (.iconst 1, 1) := by decide +kernel
theorem dL_registers_251 : decode cL_registers 251 = .ok (.if_icmp .ne 16, 3) := by decide +kernel
theorem dL_registers_254 : decode cL_registers 254 = .ok (.iload_n 3, 1) := by decide +kernel
theorem dL_registers_255 : decode cL_registers 255 = .ok (.ifCond .ne 14, 3) := by decide +kernel
theorem dL_registers_258 : decode cL_registers 258 = .ok (.aload_n 0, 1) := by decide +kernel
theorem dL_registers_259 : decode cL_registers 259 = .ok (.iconst 0, 1) := by decide +kernel
theorem dL_registers_260 : decode cL_registers 260 = .ok (.iconst 4, 1) := by decide +kernel
theorem dL_registers_261 : decode cL_registers 261 = .ok (.invokestatic 72, 3) := by decide +kernel
theorem dL_registers_264 : decode cL_registers 264 = .ok (.ifCond .ne 5, 3) := by decide +kernel
theorem dL_registers_267 : decode cL_registers 267 = .ok (.iconst 0, 1) := by decide +kernel
theorem dL_registers_268 : decode cL_registers 268 = .ok (.ireturn, 1) := by decide +kernel
theorem dL_registers_269 : decode cL_registers 269 = .ok (.aload_n 0, 1) := by decide +kernel
theorem dL_registers_270 : decode cL_registers 270 = .ok (.iconst 0, 1) := by decide +kernel
theorem dL_registers_271 : decode cL_registers 271 = .ok (.iconst 1, 1) := by decide +kernel
theorem dL_registers_272 : decode cL_registers 272 = .ok (.invokevirtual 75, 3) := by decide +kernel
theorem dL_registers_275 : decode cL_registers 275 = .ok (.istore 4, 2) := by decide +kernel
theorem dL_registers_277 : decode cL_registers 277 = .ok (.aload_n 0, 1) := by decide +kernel
theorem dL_registers_278 : decode cL_registers 278 = .ok (.iconst 1, 1) := by decide +kernel
theorem dL_registers_279 : decode cL_registers 279 = .ok (.iconst 0, 1) := by decide +kernel
theorem dL_registers_280 : decode cL_registers 280 = .ok (.invokevirtual 75, 3) := by decide +kernel
theorem dL_registers_283 : decode cL_registers 283 = .ok (.istore 5, 2) := by decide +kernel
theorem dL_registers_285 : decode cL_registers 285 = .ok (.iload 4, 2) := by decide +kernel
theorem dL_registers_287 : decode cL_registers 287 = .ok (.bipush (-3), 2) := by decide +kernel
theorem dL_registers_289 : decode cL_registers 289 = .ok (.if_icmp .ne 18, 3) := by decide +kernel
theorem dL_registers_292 : decode cL_registers 292 = .ok (.iload 5, 2) := by decide +kernel
theorem dL_registers_294 : decode cL_registers 294 = .ok (.bipush (-3), 2) := by decide +kernel
theorem dL_registers_296 : decode cL_registers 296 = .ok (.if_icmp .ne 7, 3) := by decide +kernel
theorem dL_registers_299 : decode cL_registers 299 = .ok (.iconst 1, 1) := by decide +kernel
theorem dL_registers_300 : decode cL_registers 300 = .ok (.goto 29, 3) := by decide +kernel
theorem dL_registers_303 : decode cL_registers 303 = .ok (.iconst 0, 1) := by decide +kernel
theorem dL_registers_304 : decode cL_registers 304 = .ok (.goto 25, 3) := by decide +kernel
theorem dL_registers_307 : decode cL_registers 307 = .ok (.iload 5, 2) := by decide +kernel
theorem dL_registers_309 : decode cL_registers 309 = .ok (.iload 4, 2) := by decide +kernel
theorem dL_registers_311 : decode cL_registers 311 = .ok (.ineg, 1) := by decide +kernel
theorem dL_registers_312 : decode cL_registers 312 = .ok (.if_icmp .ne 16, 3) := by decide +kernel
theorem dL_registers_315 : decode cL_registers 315 = .ok (.aload_n 0, 1) := by decide +kernel
theorem dL_registers_316 : decode cL_registers 316 = .ok (.iconst 2, 1) := by decide +kernel
theorem dL_registers_317 : decode cL_registers 317 = .ok (.iconst 3, 1) := by decide +kernel
theorem dL_registers_318 : decode cL_registers 318 = .ok (.invokevirtual 75, 3) := by decide +kernel
theorem dL_registers_321 : decode cL_registers 321 = .ok (.ifCond .ne 7, 3) := by decide +kernel
theorem dL_registers_324 : decode cL_registers 324 = .ok (.iconst 1, 1) := by decide +kernel
theorem dL_registers_325 : decode cL_registers 325 = .ok (.goto 4, 3) := by decide +kernel
theorem dL_registers_328 : decode cL_registers 328 = .ok (.iconst 0, 1) := by decide +kernel
theorem dL_registers_329 : decode cL_registers 329 = .ok (.ireturn, 1) := by decide +kernel
theorem dL_law_0 : decode cL_law 0 = .ok (.new 16, 3) := by decide +kernel
theorem dL_law_3 : decode cL_law 3 = .ok (.dup, 1) := by decide +kernel
theorem dL_law_4 : decode cL_law 4 = .ok (.invokespecial 78, 3) := by decide +kernel
theorem dL_law_7 : decode cL_law 7 = .ok (.astore_n 1, 1) := by decide +kernel
theorem dL_law_8 : decode cL_law 8 = .ok (.iconst 0, 1) := by decide +kernel
theorem dL_law_9 : decode cL_law 9 = .ok (.istore_n 2, 1) := by decide +kernel
theorem dL_law_10 : decode cL_law 10 = .ok (.iload_n 2, 1) := by decide +kernel
theorem dL_law_11 : decode cL_law 11 = .ok (.iconst 3, 1) := by decide +kernel
theorem dL_law_12 : decode cL_law 12 = .ok (.if_icmp .ge 22, 3) := by decide +kernel
theorem dL_law_15 : decode cL_law 15 = .ok (.aload_n 1, 1) := by decide +kernel
theorem dL_law_16 : decode cL_law 16 = .ok (.aload_n 0, 1) := by decide +kernel
theorem dL_law_17 : decode cL_law 17 = .ok (.iconst 2, 1) := by decide +kernel
theorem dL_law_18 : decode cL_law 18 = .ok (.iload_n 2, 1) := by decide +kernel
theorem dL_law_19 : decode cL_law 19 = .ok (.imul, 1) := by decide +kernel
theorem dL_law_20 : decode cL_law 20 = .ok (.invokestatic 79, 3) := by decide +kernel
theorem dL_law_23 : decode cL_law 23 = .ok (.ifCond .ne 5, 3) := by decide +kernel
theorem dL_law_26 : decode cL_law 26 = .ok (.iconst 0, 1) := by decide +kernel
theorem dL_law_27 : decode cL_law 27 = .ok (.ireturn, 1) := by decide +kernel
theorem dL_law_28 : decode cL_law 28 = .ok (.iinc 2 1, 3) := by decide +kernel
theorem dL_law_31 : decode cL_law 31 = .ok (.goto (-21), 3) := by decide +kernel
theorem dL_law_34 : decode cL_law 34 = .ok (.aload_n 0, 1) := by decide +kernel
theorem dL_law_35 : decode cL_law 35 = .ok (.bipush 6, 2) := by decide +kernel
theorem dL_law_37 : decode cL_law 37 = .ok (.invokestatic 26, 3) := by decide +kernel
theorem dL_law_40 : decode cL_law 40 = .ok (.bipush 7, 2) := by decide +kernel
theorem dL_law_42 : decode cL_law 42 = .ok (.invokestatic 30, 3) := by decide +kernel
theorem dL_law_45 : decode cL_law 45 = .ok (.istore_n 2, 1) := by decide +kernel
theorem dL_law_46 : decode cL_law 46 = .ok (.iconst 0, 1) := by decide +kernel
theorem dL_law_47 : decode cL_law 47 = .ok (.istore_n 3, 1) := by decide +kernel
theorem dL_law_48 : decode cL_law 48 = .ok (.iload_n 3, 1) := by decide +kernel
theorem dL_law_49 : decode cL_law 49 = .ok (.iload_n 2, 1) := by decide +kernel
theorem dL_law_50 : decode cL_law 50 = .ok (.if_icmp .ge 73, 3) := by decide +kernel
theorem dL_law_53 : decode cL_law 53 = .ok (.aload_n 0, 1) := by decide +kernel
theorem dL_law_54 : decode cL_law 54 = .ok (.bipush 7, 2) := by decide +kernel
theorem dL_law_56 : decode cL_law 56 = .ok (.iload_n 3, 1) := by decide +kernel
theorem dL_law_57 : decode cL_law 57 = .ok (.iadd, 1) := by decide +kernel
theorem dL_law_58 : decode cL_law 58 = .ok (.invokestatic 26, 3) := by decide +kernel
theorem dL_law_61 : decode cL_law 61 = .ok (.istore 4, 2) := by decide +kernel
theorem dL_law_63 : decode cL_law 63 = .ok (.aload_n 1, 1) := by decide +kernel
theorem dL_law_64 : decode cL_law 64 = .ok (.iconst 1, 1) := by decide +kernel
theorem dL_law_65 : decode cL_law 65 = .ok (.iload 4, 2) := by decide +kernel
theorem dL_law_67 : decode cL_law 67 = .ok (.iload 4, 2) := by decide +kernel
theorem dL_law_69 : decode cL_law 69 = .ok (.bipush 7, 2) := by decide +kernel
theorem dL_law_71 : decode cL_law 71 = .ok (.ishr, 1) := by decide +kernel
theorem dL_law_72 : decode cL_law 72 = .ok (.iconst 1, 1) := by decide +kernel
theorem dL_law_73 : decode cL_law 73 = .ok (.iand, 1) := by decide +kernel
theorem dL_law_74 : decode cL_law 74 = .ok (.ifCond .ne 8, 3) := by decide +kernel
theorem dL_law_77 : decode cL_law 77 = .ok (.bipush 9, 2) := by decide +kernel
theorem dL_law_79 : decode cL_law 79 = .ok (.goto 5, 3) := by decide +kernel
theorem dL_law_82 : decode cL_law 82 = .ok (.bipush 99, 2) := by decide +kernel
theorem dL_law_84 : decode cL_law 84 = .ok (.invokestatic 30, 3) := by decide +kernel
theorem dL_law_87 : decode cL_law 87 = .ok (.iadd, 1) := by decide +kernel
theorem dL_law_88 : decode cL_law 88 = .ok (.iload 4, 2) := by decide +kernel
theorem dL_law_90 : decode cL_law 90 = .ok (.bipush 8, 2) := by decide +kernel
theorem dL_law_92 : decode cL_law 92 = .ok (.ishr, 1) := by decide +kernel
theorem dL_law_93 : decode cL_law 93 = .ok (.bipush 12, 2) := by decide +kernel
theorem dL_law_95 : decode cL_law 95 = .ok (.invokestatic 30, 3) := by decide +kernel
theorem dL_law_98 : decode cL_law 98 = .ok (.iload 4, 2) := by decide +kernel
theorem dL_law_100 : decode cL_law 100 = .ok (.bipush 12, 2) := by decide +kernel
theorem dL_law_102 : decode cL_law 102 = .ok (.ishr, 1) := by decide +kernel
theorem dL_law_103 : decode cL_law 103 = .ok (.bipush 11, 2) := by decide +kernel
theorem dL_law_105 : decode cL_law 105 = .ok (.invokestatic 30, 3) := by decide +kernel
theorem dL_law_108 : decode cL_law 108 = .ok (.invokevirtual 83, 3) := by decide +kernel
theorem dL_law_111 : decode cL_law 111 = .ok (.iload_n 3, 1) := by decide +kernel
theorem dL_law_112 : decode cL_law 112 = .ok (.if_icmp .eq 5, 3) := by decide +kernel
theorem dL_law_115 : decode cL_law 115 = .ok (.iconst 0, 1) := by decide +kernel
theorem dL_law_116 : decode cL_law 116 = .ok (.ireturn, 1) := by decide +kernel
theorem dL_law_117 : decode cL_law 117 = .ok (.iinc 3 1, 3) := by decide +kernel
theorem dL_law_120 : decode cL_law 120 = .ok (.goto (-72), 3) := by decide +kernel
theorem dL_law_123 : decode cL_law 123 = .ok (.aload_n 1, 1) := by decide +kernel
theorem dL_law_124 : decode cL_law 124 = .ok (.aload_n 0, 1) := by decide +kernel
theorem dL_law_125 : decode cL_law 125 = .ok (.bipush 14, 2) := by decide +kernel
theorem dL_law_127 : decode cL_law 127 = .ok (.invokestatic 86, 3) := by decide +kernel
theorem dL_law_130 : decode cL_law 130 = .ok (.ifCond .ne 5, 3) := by decide +kernel
theorem dL_law_133 : decode cL_law 133 = .ok (.iconst 0, 1) := by decide +kernel
theorem dL_law_134 : decode cL_law 134 = .ok (.ireturn, 1) := by decide +kernel
theorem dL_law_135 : decode cL_law 135 = .ok (.aload_n 1, 1) := by decide +kernel
theorem dL_law_136 : decode cL_law 136 = .ok (.iconst 0, 1) := by decide +kernel
theorem dL_law_137 : decode cL_law 137 = .ok (.iconst 0, 1) := by decide +kernel
theorem dL_law_138 : decode cL_law 138 = .ok (.invokevirtual 23, 3) := by decide +kernel
theorem dL_law_141 : decode cL_law 141 = .ok (.lstore_n 3, 1) := by decide +kernel
theorem dL_law_142 : decode cL_law 142 = .ok (.aload_n 1, 1) := by decide +kernel
theorem dL_law_143 : decode cL_law 143 = .ok (.iconst 0, 1) := by decide +kernel
theorem dL_law_144 : decode cL_law 144 = .ok (.iconst 1, 1) := by decide +kernel
theorem dL_law_145 : decode cL_law 145 = .ok (.invokevirtual 23, 3) := by decide +kernel
theorem dL_law_148 : decode cL_law 148 = .ok (.lstore 5, 2) := by decide +kernel
theorem dL_law_150 : decode cL_law 150 = .ok (.aload_n 1, 1) := by decide +kernel
theorem dL_law_151 : decode cL_law 151 = .ok (.iconst 0, 1) := by decide +kernel
theorem dL_law_152 : decode cL_law 152 = .ok (.iconst 4, 1) := by decide +kernel
theorem dL_law_153 : decode cL_law 153 = .ok (.invokevirtual 23, 3) := by decide +kernel
theorem dL_law_156 : decode cL_law 156 = .ok (.lstore 7, 2) := by decide +kernel
theorem dL_law_158 : decode cL_law 158 = .ok (.aload_n 0, 1) := by decide +kernel
theorem dL_law_159 : decode cL_law 159 = .ok (.bipush 20, 2) := by decide +kernel
theorem dL_law_161 : decode cL_law 161 = .ok (.invokestatic 26, 3) := by decide +kernel
theorem dL_law_164 : decode cL_law 164 = .ok (.istore 9, 2) := by decide +kernel
theorem dL_law_166 : decode cL_law 166 = .ok (.iconst 1, 1) := by decide +kernel
theorem dL_law_167 : decode cL_law 167 = .ok (.iload 9, 2) := by decide +kernel
theorem dL_law_169 : decode cL_law 169 = .ok (.bipush 99, 2) := by decide +kernel
theorem dL_law_171 : decode cL_law 171 = .ok (.invokestatic 30, 3) := by decide +kernel
theorem dL_law_174 : decode cL_law 174 = .ok (.iadd, 1) := by decide +kernel
theorem dL_law_175 : decode cL_law 175 = .ok (.istore 10, 2) := by decide +kernel
theorem dL_law_177 : decode cL_law 177 = .ok (.iload 9, 2) := by decide +kernel
theorem dL_law_179 : decode cL_law 179 = .ok (.bipush 7, 2) := by decide +kernel
theorem dL_law_181 : decode cL_law 181 = .ok (.ishr, 1) := by decide +kernel
theorem dL_law_182 : decode cL_law 182 = .ok (.bipush 12, 2) := by decide +kernel
theorem dL_law_184 : decode cL_law 184 = .ok (.invokestatic 30, 3) := by decide +kernel
theorem dL_law_187 : decode cL_law 187 = .ok (.istore 11, 2) := by decide +kernel
theorem dL_law_189 : decode cL_law 189 = .ok (.iload 9, 2) := by decide +kernel
theorem dL_law_191 : decode cL_law 191 = .ok (.bipush 11, 2) := by decide +kernel
theorem dL_law_193 : decode cL_law 193 = .ok (.ishr, 1) := by decide +kernel
theorem dL_law_194 : decode cL_law 194 = .ok (.bipush 11, 2) := by decide +kernel
theorem dL_law_196 : decode cL_law 196 = .ok (.invokestatic 30, 3) := by decide +kernel
theorem dL_law_199 : decode cL_law 199 = .ok (.istore 12, 2) := by decide +kernel
theorem dL_law_201 : decode cL_law 201 = .ok (.iload_n 2, 1) := by decide +kernel
theorem dL_law_202 : decode cL_law 202 = .ok (.bipush 7, 2) := by decide +kernel
theorem dL_law_204 : decode cL_law 204 = .ok (.if_icmp .ge 102, 3) := by decide +kernel
theorem dL_law_207 : decode cL_law 207 = .ok (.aload_n 1, 1) := by decide +kernel
theorem dL_law_208 : decode cL_law 208 = .ok (.iload 10, 2) := by decide +kernel
theorem dL_law_210 : decode cL_law 210 = .ok (.iload 11, 2) := by decide +kernel
theorem dL_law_212 : decode cL_law 212 = .ok (.iload 12, 2) := by decide +kernel
theorem dL_law_214 : decode cL_law 214 = .ok (.invokevirtual 83, 3) := by decide +kernel
theorem dL_law_217 : decode cL_law 217 = .ok (.iload_n 2, 1) := by decide +kernel
theorem dL_law_218 : decode cL_law 218 = .ok (.if_icmp .ne 86, 3) := by decide +kernel
theorem dL_law_221 : decode cL_law 221 = .ok (.aload_n 1, 1) := by decide +kernel
theorem dL_law_222 : decode cL_law 222 = .ok (.iconst 3, 1) := by decide +kernel
theorem dL_law_223 : decode cL_law 223 = .ok (.invokevirtual 38, 3) := by decide +kernel
theorem dL_law_226 : decode cL_law 226 = .ok (.ifCond .ne 78, 3) := by decide +kernel
theorem dL_law_229 : decode cL_law 229 = .ok (.aload_n 1, 1) := by decide +kernel
theorem dL_law_230 : decode cL_law 230 = .ok (.iload 10, 2) := by decide +kernel
theorem dL_law_232 : decode cL_law 232 = .ok (.iload 11, 2) := by decide +kernel
theorem dL_law_234 : decode cL_law 234 = .ok (.bipush 6, 2) := by decide +kernel
theorem dL_law_236 : decode cL_law 236 = .ok (.iadd, 1) := by decide +kernel
theorem dL_law_237 : decode cL_law 237 = .ok (.bipush 12, 2) := by decide +kernel
theorem dL_law_239 : decode cL_law 239 = .ok (.irem, 1) := by decide +kernel
theorem dL_law_240 : decode cL_law 240 = .ok (.iload 12, 2) := by decide +kernel
theorem dL_law_242 : decode cL_law 242 = .ok (.invokevirtual 83, 3) := by decide +kernel
theorem dL_law_245 : decode cL_law 245 = .ok (.iload_n 2, 1) := by decide +kernel
theorem dL_law_246 : decode cL_law 246 = .ok (.iconst 1, 1) := by decide +kernel
theorem dL_law_247 : decode cL_law 247 = .ok (.iadd, 1) := by decide +kernel
theorem dL_law_248 : decode cL_law 248 = .ok (.if_icmp .ne 56, 3) := by decide +kernel
theorem dL_law_251 : decode cL_law 251 = .ok (.aload_n 1, 1) := by decide +kernel
theorem dL_law_252 : decode cL_law 252 = .ok (.iconst 0, 1) := by decide +kernel
theorem dL_law_253 : decode cL_law 253 = .ok (.iconst 0, 1) := by decide +kernel
theorem dL_law_254 : decode cL_law 254 = .ok (.invokevirtual 23, 3) := by decide +kernel
theorem dL_law_257 : decode cL_law 257 = .ok (.lload_n 3, 1) := by decide +kernel
theorem dL_law_258 : decode cL_law 258 = .ok (.lcmp, 1) := by decide +kernel
theorem dL_law_259 : decode cL_law 259 = .ok (.ifCond .ne 45, 3) := by decide +kernel
theorem dL_law_262 : decode cL_law 262 = .ok (.aload_n 1, 1) := by decide +kernel
theorem dL_law_263 : decode cL_law 263 = .ok (.iconst 0, 1) := by decide +kernel
theorem dL_law_264 : decode cL_law 264 = .ok (.iconst 1, 1) := by decide +kernel
theorem dL_law_265 : decode cL_law 265 = .ok (.invokevirtual 23, 3) := by decide +kernel
theorem dL_law_268 : decode cL_law 268 = .ok (.lload 5, 2) := by decide +kernel
theorem dL_law_270 : decode cL_law 270 = .ok (.lcmp, 1) := by decide +kernel
theorem dL_law_271 : decode cL_law 271 = .ok (.ifCond .ne 33, 3) := by decide +kernel
theorem dL_law_274 : decode cL_law 274 = .ok (.aload_n 1, 1) := by decide +kernel
theorem dL_law_275 : decode cL_law 275 = .ok (.iconst 0, 1) := by decide +kernel
theorem dL_law_276 : decode cL_law 276 = .ok (.iconst 4, 1) := by decide +kernel
theorem dL_law_277 : decode cL_law 277 = .ok (.invokevirtual 23, 3) := by decide +kernel
theorem dL_law_280 : decode cL_law 280 = .ok (.lload 7, 2) := by decide +kernel
theorem dL_law_282 : decode cL_law 282 = .ok (.lcmp, 1) := by decide +kernel
theorem dL_law_283 : decode cL_law 283 = .ok (.ifCond .ne 21, 3) := by decide +kernel
theorem dL_law_286 : decode cL_law 286 = .ok (.aload_n 1, 1) := by decide +kernel
theorem dL_law_287 : decode cL_law 287 = .ok (.invokevirtual 89, 3) := by decide +kernel
theorem dL_law_290 : decode cL_law 290 = .ok (.iload_n 2, 1) := by decide +kernel
theorem dL_law_291 : decode cL_law 291 = .ok (.iconst 1, 1) := by decide +kernel
theorem dL_law_292 : decode cL_law 292 = .ok (.iadd, 1) := by decide +kernel
theorem dL_law_293 : decode cL_law 293 = .ok (.if_icmp .ne 11, 3) := by decide +kernel
theorem dL_law_296 : decode cL_law 296 = .ok (.aload_n 1, 1) := by decide +kernel
theorem dL_law_297 : decode cL_law 297 = .ok (.invokevirtual 89, 3) := by decide +kernel
theorem dL_law_300 : decode cL_law 300 = .ok (.iload_n 2, 1) := by decide +kernel
theorem dL_law_301 : decode cL_law 301 = .ok (.if_icmp .eq 5, 3) := by decide +kernel
theorem dL_law_304 : decode cL_law 304 = .ok (.iconst 0, 1) := by decide +kernel
