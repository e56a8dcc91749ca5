theorem dX7_init_0 : decode cX7_init 0 = .ok (.aload_n 0, 1) := by decide +kernel
theorem dX7_init_1 : decode cX7_init 1 = .ok (.invokespecial 1, 3) := by decide +kernel
theorem dX7_init_4 : decode cX7_init 4 = .ok (.aload_n 0, 1) := by decide +kernel
theorem dX7_init_5 : decode cX7_init 5 = .ok (.new 7, 3) := by decide +kernel
theorem dX7_init_8 : decode cX7_init 8 = .ok (.dup, 1) := by decide +kernel
theorem dX7_init_9 : decode cX7_init 9 = .ok (.invokespecial 9, 3) := by decide +kernel
theorem dX7_init_12 : decode cX7_init 12 = .ok (.putfield 10, 3) := by decide +kernel
theorem dX7_init_15 : decode cX7_init 15 = .ok (.aload_n 0, 1) := by decide +kernel
theorem dX7_init_16 : decode cX7_init 16 = .ok (.bipush 6, 2) := by decide +kernel
theorem dX7_init_18 : decode cX7_init 18 = .ok (.anewarray 16, 3) := by decide +kernel
theorem dX7_init_21 : decode cX7_init 21 = .ok (.putfield 18, 3) := by decide +kernel
theorem dX7_init_24 : decode cX7_init 24 = .ok (.aload_n 0, 1) := by decide +kernel
theorem dX7_init_25 : decode cX7_init 25 = .ok (.new 16, 3) := by decide +kernel
theorem dX7_init_28 : decode cX7_init 28 = .ok (.dup, 1) := by decide +kernel
theorem dX7_init_29 : decode cX7_init 29 = .ok (.invokespecial 22, 3) := by decide +kernel
theorem dX7_init_32 : decode cX7_init 32 = .ok (.putfield 23, 3) := by decide +kernel
theorem dX7_init_35 : decode cX7_init 35 = .ok (.aload_n 0, 1) := by decide +kernel
theorem dX7_init_36 : decode cX7_init 36 = .ok (.new 16, 3) := by decide +kernel
theorem dX7_init_39 : decode cX7_init 39 = .ok (.dup, 1) := by decide +kernel
theorem dX7_init_40 : decode cX7_init 40 = .ok (.invokespecial 22, 3) := by decide +kernel
theorem dX7_init_43 : decode cX7_init 43 = .ok (.putfield 27, 3) := by decide +kernel
theorem dX7_init_46 : decode cX7_init 46 = .ok (.aload_n 0, 1) := by decide +kernel
theorem dX7_init_47 : decode cX7_init 47 = .ok (.new 30, 3) := by decide +kernel
theorem dX7_init_50 : decode cX7_init 50 = .ok (.dup, 1) := by decide +kernel
theorem dX7_init_51 : decode cX7_init 51 = .ok (.invokespecial 32, 3) := by decide +kernel
theorem dX7_init_54 : decode cX7_init 54 = .ok (.putfield 33, 3) := by decide +kernel
theorem dX7_init_57 : decode cX7_init 57 = .ok (.aload_n 0, 1) := by decide +kernel
theorem dX7_init_58 : decode cX7_init 58 = .ok (.new 37, 3) := by decide +kernel
theorem dX7_init_61 : decode cX7_init 61 = .ok (.dup, 1) := by decide +kernel
theorem dX7_init_62 : decode cX7_init 62 = .ok (.invokespecial 39, 3) := by decide +kernel
theorem dX7_init_65 : decode cX7_init 65 = .ok (.putfield 40, 3) := by decide +kernel
theorem dX7_init_68 : decode cX7_init 68 = .ok (.aload_n 0, 1) := by decide +kernel
theorem dX7_init_69 : decode cX7_init 69 = .ok (.new 44, 3) := by decide +kernel
theorem dX7_init_72 : decode cX7_init 72 = .ok (.dup, 1) := by decide +kernel
theorem dX7_init_73 : decode cX7_init 73 = .ok (.invokespecial 46, 3) := by decide +kernel
theorem dX7_init_76 : decode cX7_init 76 = .ok (.putfield 47, 3) := by decide +kernel
theorem dX7_init_79 : decode cX7_init 79 = .ok (.aload_n 0, 1) := by decide +kernel
theorem dX7_init_80 : decode cX7_init 80 = .ok (.new 51, 3) := by decide +kernel
theorem dX7_init_83 : decode cX7_init 83 = .ok (.dup, 1) := by decide +kernel
theorem dX7_init_84 : decode cX7_init 84 = .ok (.invokespecial 53, 3) := by decide +kernel
theorem dX7_init_87 : decode cX7_init 87 = .ok (.putfield 54, 3) := by decide +kernel
theorem dX7_init_90 : decode cX7_init 90 = .ok (.aload_n 0, 1) := by decide +kernel
theorem dX7_init_91 : decode cX7_init 91 = .ok (.new 58, 3) := by decide +kernel
theorem dX7_init_94 : decode cX7_init 94 = .ok (.dup, 1) := by decide +kernel
theorem dX7_init_95 : decode cX7_init 95 = .ok (.invokespecial 60, 3) := by decide +kernel
theorem dX7_init_98 : decode cX7_init 98 = .ok (.putfield 61, 3) := by decide +kernel
theorem dX7_init_101 : decode cX7_init 101 = .ok (.iconst 0, 1) := by decide +kernel
theorem dX7_init_102 : decode cX7_init 102 = .ok (.istore_n 1, 1) := by decide +kernel
theorem dX7_init_103 : decode cX7_init 103 = .ok (.iload_n 1, 1) := by decide +kernel
theorem dX7_init_104 : decode cX7_init 104 = .ok (.bipush 6, 2) := by decide +kernel
theorem dX7_init_106 : decode cX7_init 106 = .ok (.if_icmp .ge 22, 3) := by decide +kernel
theorem dX7_init_109 : decode cX7_init 109 = .ok (.aload_n 0, 1) := by decide +kernel
theorem dX7_init_110 : decode cX7_init 110 = .ok (.getfield 18, 3) := by decide +kernel
theorem dX7_init_113 : decode cX7_init 113 = .ok (.iload_n 1, 1) := by decide +kernel
theorem dX7_init_114 : decode cX7_init 114 = .ok (.new 16, 3) := by decide +kernel
theorem dX7_init_117 : decode cX7_init 117 = .ok (.dup, 1) := by decide +kernel
theorem dX7_init_118 : decode cX7_init 118 = .ok (.invokespecial 22, 3) := by decide +kernel
theorem dX7_init_121 : decode cX7_init 121 = .ok (.aastore, 1) := by decide +kernel
theorem dX7_init_122 : decode cX7_init 122 = .ok (.iinc 1 1, 3) := by decide +kernel
theorem dX7_init_125 : decode cX7_init 125 = .ok (.goto (-22), 3) := by decide +kernel
theorem dX7_init_128 : decode cX7_init 128 = .ok (.return_, 1) := by decide +kernel
theorem dX7_put_0 : decode cX7_put 0 = .ok (.iload_n 1, 1) := by decide +kernel
theorem dX7_put_1 : decode cX7_put 1 = .ok (.bipush 6, 2) := by decide +kernel
theorem dX7_put_3 : decode cX7_put 3 = .ok (.invokestatic 65, 3) := by decide +kernel
theorem dX7_put_6 : decode cX7_put 6 = .ok (.ifCond .ne 9, 3) := by decide +kernel
theorem dX7_put_9 : decode cX7_put 9 = .ok (.iload 6, 2) := by decide +kernel
theorem dX7_put_11 : decode cX7_put 11 = .ok (.iconst 1, 1) := by decide +kernel
theorem dX7_put_12 : decode cX7_put 12 = .ok (.if_icmp .ge 6, 3) := by decide +kernel
theorem dX7_put_15 : decode cX7_put 15 = .ok (.bipush (-2), 2) := by decide +kernel
theorem dX7_put_17 : decode cX7_put 17 = .ok (.ireturn, 1) := by decide +kernel
theorem dX7_put_18 : decode cX7_put 18 = .ok (.aload_n 0, 1) := by decide +kernel
theorem dX7_put_19 : decode cX7_put 19 = .ok (.getfield 18, 3) := by decide +kernel
theorem dX7_put_22 : decode cX7_put 22 = .ok (.iload_n 1, 1) := by decide +kernel
theorem dX7_put_23 : decode cX7_put 23 = .ok (.aaload, 1) := by decide +kernel
theorem dX7_put_24 : decode cX7_put 24 = .ok (.iload_n 2, 1) := by decide +kernel
theorem dX7_put_25 : decode cX7_put 25 = .ok (.i2l, 1) := by decide +kernel
theorem dX7_put_26 : decode cX7_put 26 = .ok (.iload_n 3, 1) := by decide +kernel
theorem dX7_put_27 : decode cX7_put 27 = .ok (.i2l, 1) := by decide +kernel
theorem dX7_put_28 : decode cX7_put 28 = .ok (.iload 4, 2) := by decide +kernel
theorem dX7_put_30 : decode cX7_put 30 = .ok (.i2l, 1) := by decide +kernel
theorem dX7_put_31 : decode cX7_put 31 = .ok (.iload 5, 2) := by decide +kernel
theorem dX7_put_33 : decode cX7_put 33 = .ok (.i2l, 1) := by decide +kernel
theorem dX7_put_34 : decode cX7_put 34 = .ok (.iload 6, 2) := by decide +kernel
theorem dX7_put_36 : decode cX7_put 36 = .ok (.i2l, 1) := by decide +kernel
theorem dX7_put_37 : decode cX7_put 37 = .ok (.invokevirtual 69, 3) := by decide +kernel
theorem dX7_put_40 : decode cX7_put 40 = .ok (.aload_n 0, 1) := by decide +kernel
theorem dX7_put_41 : decode cX7_put 41 = .ok (.getfield 18, 3) := by decide +kernel
theorem dX7_put_44 : decode cX7_put 44 = .ok (.iload_n 1, 1) := by decide +kernel
theorem dX7_put_45 : decode cX7_put 45 = .ok (.aaload, 1) := by decide +kernel
theorem dX7_put_46 : decode cX7_put 46 = .ok (.invokevirtual 73, 3) := by decide +kernel
theorem dX7_put_49 : decode cX7_put 49 = .ok (.iconst 1, 1) := by decide +kernel
theorem dX7_put_50 : decode cX7_put 50 = .ok (.ireturn, 1) := by decide +kernel
theorem dX7_reckon_0 : decode cX7_reckon 0 = .ok (.iload_n 1, 1) := by decide +kernel
theorem dX7_reckon_1 : decode cX7_reckon 1 = .ok (.iconst 4, 1) := by decide +kernel
theorem dX7_reckon_2 : decode cX7_reckon 2 = .ok (.invokestatic 65, 3) := by decide +kernel
theorem dX7_reckon_5 : decode cX7_reckon 5 = .ok (.ifCond .ne 31, 3) := by decide +kernel
theorem dX7_reckon_8 : decode cX7_reckon 8 = .ok (.iload_n 2, 1) := by decide +kernel
theorem dX7_reckon_9 : decode cX7_reckon 9 = .ok (.bipush 6, 2) := by decide +kernel
theorem dX7_reckon_11 : decode cX7_reckon 11 = .ok (.invokestatic 65, 3) := by decide +kernel
theorem dX7_reckon_14 : decode cX7_reckon 14 = .ok (.ifCond .ne 22, 3) := by decide +kernel
theorem dX7_reckon_17 : decode cX7_reckon 17 = .ok (.iload_n 3, 1) := by decide +kernel
theorem dX7_reckon_18 : decode cX7_reckon 18 = .ok (.bipush 6, 2) := by decide +kernel
theorem dX7_reckon_20 : decode cX7_reckon 20 = .ok (.invokestatic 65, 3) := by decide +kernel
theorem dX7_reckon_23 : decode cX7_reckon 23 = .ok (.ifCond .ne 13, 3) := by decide +kernel
theorem dX7_reckon_26 : decode cX7_reckon 26 = .ok (.iload 4, 2) := by decide +kernel
theorem dX7_reckon_28 : decode cX7_reckon 28 = .ok (.bipush 6, 2) := by decide +kernel
theorem dX7_reckon_30 : decode cX7_reckon 30 = .ok (.invokestatic 65, 3) := by decide +kernel
theorem dX7_reckon_33 : decode cX7_reckon 33 = .ok (.ifCond .eq 6, 3) := by decide +kernel
theorem dX7_reckon_36 : decode cX7_reckon 36 = .ok (.bipush (-2), 2) := by decide +kernel
theorem dX7_reckon_38 : decode cX7_reckon 38 = .ok (.ireturn, 1) := by decide +kernel
theorem dX7_reckon_39 : decode cX7_reckon 39 = .ok (.aload_n 0, 1) := by decide +kernel
theorem dX7_reckon_40 : decode cX7_reckon 40 = .ok (.getfield 18, 3) := by decide +kernel
theorem dX7_reckon_43 : decode cX7_reckon 43 = .ok (.iload_n 2, 1) := by decide +kernel
theorem dX7_reckon_44 : decode cX7_reckon 44 = .ok (.aaload, 1) := by decide +kernel
theorem dX7_reckon_45 : decode cX7_reckon 45 = .ok (.astore 5, 2) := by decide +kernel
theorem dX7_reckon_47 : decode cX7_reckon 47 = .ok (.aload_n 0, 1) := by decide +kernel
theorem dX7_reckon_48 : decode cX7_reckon 48 = .ok (.getfield 18, 3) := by decide +kernel
theorem dX7_reckon_51 : decode cX7_reckon 51 = .ok (.iload_n 3, 1) := by decide +kernel
theorem dX7_reckon_52 : decode cX7_reckon 52 = .ok (.aaload, 1) := by decide +kernel
theorem dX7_reckon_53 : decode cX7_reckon 53 = .ok (.astore 6, 2) := by decide +kernel
theorem dX7_reckon_55 : decode cX7_reckon 55 = .ok (.iload_n 1, 1) := by decide +kernel
theorem dX7_reckon_56 : decode cX7_reckon 56 = .ok (.iconst 3, 1) := by decide +kernel
theorem dX7_reckon_57 : decode cX7_reckon 57 = .ok (.if_icmp .ne 14, 3) := by decide +kernel
theorem dX7_reckon_60 : decode cX7_reckon 60 = .ok (.aload 6, 2) := by decide +kernel
theorem dX7_reckon_62 : decode cX7_reckon 62 = .ok (.invokevirtual 92, 3) := by decide +kernel
theorem dX7_reckon_65 : decode cX7_reckon 65 = .ok (.ifCond .eq 6, 3) := by decide +kernel
theorem dX7_reckon_68 : decode cX7_reckon 68 = .ok (.bipush (-6), 2) := by decide +kernel
theorem dX7_reckon_70 : decode cX7_reckon 70 = .ok (.ireturn, 1) := by decide +kernel
theorem dX7_reckon_71 : decode cX7_reckon 71 = .ok (.iload_n 1, 1) := by decide +kernel
theorem dX7_reckon_72 : decode cX7_reckon 72 = .ok (.tableswitch 97 0 2 #[28, 51, 74], 28) := by decide +kernel
theorem dX7_reckon_100 : decode cX7_reckon 100 = .ok (.aload_n 0, 1) := by decide +kernel
theorem dX7_reckon_101 : decode cX7_reckon 101 = .ok (.getfield 10, 3) := by decide +kernel
theorem dX7_reckon_104 : decode cX7_reckon 104 = .ok (.aload 5, 2) := by decide +kernel
theorem dX7_reckon_106 : decode cX7_reckon 106 = .ok (.aload 6, 2) := by decide +kernel
theorem dX7_reckon_108 : decode cX7_reckon 108 = .ok (.aload_n 0, 1) := by decide +kernel
theorem dX7_reckon_109 : decode cX7_reckon 109 = .ok (.getfield 18, 3) := by decide +kernel
theorem dX7_reckon_112 : decode cX7_reckon 112 = .ok (.iload 4, 2) := by decide +kernel
theorem dX7_reckon_114 : decode cX7_reckon 114 = .ok (.aaload, 1) := by decide +kernel
theorem dX7_reckon_115 : decode cX7_reckon 115 = .ok (.invokevirtual 96, 3) := by decide +kernel
theorem dX7_reckon_118 : decode cX7_reckon 118 = .ok (.istore 7, 2) := by decide +kernel
theorem dX7_reckon_120 : decode cX7_reckon 120 = .ok (.goto 69, 3) := by decide +kernel
theorem dX7_reckon_123 : decode cX7_reckon 123 = .ok (.aload_n 0, 1) := by decide +kernel
theorem dX7_reckon_124 : decode cX7_reckon 124 = .ok (.getfield 10, 3) := by decide +kernel
theorem dX7_reckon_127 : decode cX7_reckon 127 = .ok (.aload 5, 2) := by decide +kernel
theorem dX7_reckon_129 : decode cX7_reckon 129 = .ok (.aload 6, 2) := by decide +kernel
theorem dX7_reckon_131 : decode cX7_reckon 131 = .ok (.aload_n 0, 1) := by decide +kernel
theorem dX7_reckon_132 : decode cX7_reckon 132 = .ok (.getfield 18, 3) := by decide +kernel
theorem dX7_reckon_135 : decode cX7_reckon 135 = .ok (.iload 4, 2) := by decide +kernel
theorem dX7_reckon_137 : decode cX7_reckon 137 = .ok (.aaload, 1) := by decide +kernel
theorem dX7_reckon_138 : decode cX7_reckon 138 = .ok (.invokevirtual 100, 3) := by decide +kernel
theorem dX7_reckon_141 : decode cX7_reckon 141 = .ok (.istore 7, 2) := by decide +kernel
theorem dX7_reckon_143 : decode cX7_reckon 143 = .ok (.goto 46, 3) := by decide +kernel
theorem dX7_reckon_146 : decode cX7_reckon 146 = .ok (.aload_n 0, 1) := by decide +kernel
theorem dX7_reckon_147 : decode cX7_reckon 147 = .ok (.getfield 10, 3) := by decide +kernel
theorem dX7_reckon_150 : decode cX7_reckon 150 = .ok (.aload 5, 2) := by decide +kernel
theorem dX7_reckon_152 : decode cX7_reckon 152 = .ok (.aload 6, 2) := by decide +kernel
theorem dX7_reckon_154 : decode cX7_reckon 154 = .ok (.aload_n 0, 1) := by decide +kernel
theorem dX7_reckon_155 : decode cX7_reckon 155 = .ok (.getfield 18, 3) := by decide +kernel
theorem dX7_reckon_158 : decode cX7_reckon 158 = .ok (.iload 4, 2) := by decide +kernel
theorem dX7_reckon_160 : decode cX7_reckon 160 = .ok (.aaload, 1) := by decide +kernel
theorem dX7_reckon_161 : decode cX7_reckon 161 = .ok (.invokevirtual 103, 3) := by decide +kernel
theorem dX7_reckon_164 : decode cX7_reckon 164 = .ok (.istore 7, 2) := by decide +kernel
theorem dX7_reckon_166 : decode cX7_reckon 166 = .ok (.goto 23, 3) := by decide +kernel
theorem dX7_reckon_169 : decode cX7_reckon 169 = .ok (.aload_n 0, 1) := by decide +kernel
theorem dX7_reckon_170 : decode cX7_reckon 170 = .ok (.getfield 10, 3) := by decide +kernel
theorem dX7_reckon_173 : decode cX7_reckon 173 = .ok (.aload 5, 2) := by decide +kernel
theorem dX7_reckon_175 : decode cX7_reckon 175 = .ok (.aload 6, 2) := by decide +kernel
theorem dX7_reckon_177 : decode cX7_reckon 177 = .ok (.aload_n 0, 1) := by decide +kernel
theorem dX7_reckon_178 : decode cX7_reckon 178 = .ok (.getfield 18, 3) := by decide +kernel
theorem dX7_reckon_181 : decode cX7_reckon 181 = .ok (.iload 4, 2) := by decide +kernel
theorem dX7_reckon_183 : decode cX7_reckon 183 = .ok (.aaload, 1) := by decide +kernel
theorem dX7_reckon_184 : decode cX7_reckon 184 = .ok (.invokevirtual 106, 3) := by decide +kernel
theorem dX7_reckon_187 : decode cX7_reckon 187 = .ok (.istore 7, 2) := by decide +kernel
theorem dX7_reckon_189 : decode cX7_reckon 189 = .ok (.iload 7, 2) := by decide +kernel
theorem dX7_reckon_191 : decode cX7_reckon 191 = .ok (.ifCond .eq 7, 3) := by decide +kernel
theorem dX7_reckon_194 : decode cX7_reckon 194 = .ok (.iconst 1, 1) := by decide +kernel
theorem dX7_reckon_195 : decode cX7_reckon 195 = .ok (.goto 5, 3) := by decide +kernel
theorem dX7_reckon_198 : decode cX7_reckon 198 = .ok (.bipush (-5), 2) := by decide +kernel
theorem dX7_reckon_200 : decode cX7_reckon 200 = .ok (.ireturn, 1) := by decide +kernel
theorem dX7_part_0 : decode cX7_part 0 = .ok (.iload_n 1, 1) := by decide +kernel
theorem dX7_part_1 : decode cX7_part 1 = .ok (.bipush 6, 2) := by decide +kernel
theorem dX7_part_3 : decode cX7_part 3 = .ok (.invokestatic 65, 3) := by decide +kernel
theorem dX7_part_6 : decode cX7_part 6 = .ok (.ifCond .ne 11, 3) := by decide +kernel
theorem dX7_part_9 : decode cX7_part 9 = .ok (.iload_n 2, 1) := by decide +kernel
theorem dX7_part_10 : decode cX7_part 10 = .ok (.iconst 5, 1) := by decide +kernel
theorem dX7_part_11 : decode cX7_part 11 = .ok (.invokestatic 65, 3) := by decide +kernel
theorem dX7_part_14 : decode cX7_part 14 = .ok (.ifCond .eq 9, 3) := by decide +kernel
theorem dX7_part_17 : decode cX7_part 17 = .ok (.bipush (-2), 2) := by decide +kernel
theorem dX7_part_19 : decode cX7_part 19 = .ok (.invokestatic 109, 3) := by decide +kernel
theorem dX7_part_22 : decode cX7_part 22 = .ok (.lreturn, 1) := by decide +kernel
theorem dX7_part_23 : decode cX7_part 23 = .ok (.aload_n 0, 1) := by decide +kernel
theorem dX7_part_24 : decode cX7_part 24 = .ok (.getfield 18, 3) := by decide +kernel
theorem dX7_part_27 : decode cX7_part 27 = .ok (.iload_n 1, 1) := by decide +kernel
theorem dX7_part_28 : decode cX7_part 28 = .ok (.aaload, 1) := by decide +kernel
theorem dX7_part_29 : decode cX7_part 29 = .ok (.iload_n 2, 1) := by decide +kernel
theorem dX7_part_30 : decode cX7_part 30 = .ok (.invokevirtual 113, 3) := by decide +kernel
theorem dX7_part_33 : decode cX7_part 33 = .ok (.lreturn, 1) := by decide +kernel
theorem dX7_compare_0 : decode cX7_compare 0 = .ok (.iload_n 1, 1) := by decide +kernel
theorem dX7_compare_1 : decode cX7_compare 1 = .ok (.bipush 6, 2) := by decide +kernel
theorem dX7_compare_3 : decode cX7_compare 3 = .ok (.invokestatic 65, 3) := by decide +kernel
theorem dX7_compare_6 : decode cX7_compare 6 = .ok (.ifCond .ne 12, 3) := by decide +kernel
theorem dX7_compare_9 : decode cX7_compare 9 = .ok (.iload_n 2, 1) := by decide +kernel
theorem dX7_compare_10 : decode cX7_compare 10 = .ok (.bipush 6, 2) := by decide +kernel
theorem dX7_compare_12 : decode cX7_compare 12 = .ok (.invokestatic 65, 3) := by decide +kernel
theorem dX7_compare_15 : decode cX7_compare 15 = .ok (.ifCond .eq 6, 3) := by decide +kernel
theorem dX7_compare_18 : decode cX7_compare 18 = .ok (.ldc 115, 2) := by decide +kernel
theorem dX7_compare_20 : decode cX7_compare 20 = .ok (.ireturn, 1) := by decide +kernel
theorem dX7_compare_21 : decode cX7_compare 21 = .ok (.aload_n 0, 1) := by decide +kernel
theorem dX7_compare_22 : decode cX7_compare 22 = .ok (.getfield 10, 3) := by decide +kernel
theorem dX7_compare_25 : decode cX7_compare 25 = .ok (.aload_n 0, 1) := by decide +kernel
theorem dX7_compare_26 : decode cX7_compare 26 = .ok (.getfield 18, 3) := by decide +kernel
theorem dX7_compare_29 : decode cX7_compare 29 = .ok (.iload_n 1, 1) := by decide +kernel
theorem dX7_compare_30 : decode cX7_compare 30 = .ok (.aaload, 1) := by decide +kernel
theorem dX7_compare_31 : decode cX7_compare 31 = .ok (.aload_n 0, 1) := by decide +kernel
theorem dX7_compare_32 : decode cX7_compare 32 = .ok (.getfield 18, 3) := by decide +kernel
theorem dX7_compare_35 : decode cX7_compare 35 = .ok (.iload_n 2, 1) := by decide +kernel
theorem dX7_compare_36 : decode cX7_compare 36 = .ok (.aaload, 1) := by decide +kernel
theorem dX7_compare_37 : decode cX7_compare 37 = .ok (.aload_n 0, 1) := by decide +kernel
theorem dX7_compare_38 : decode cX7_compare 38 = .ok (.getfield 23, 3) := by decide +kernel
theorem dX7_compare_41 : decode cX7_compare 41 = .ok (.invokevirtual 100, 3) := by decide +kernel
theorem dX7_compare_44 : decode cX7_compare 44 = .ok (.ifCond .ne 6, 3) := by decide +kernel
theorem dX7_compare_47 : decode cX7_compare 47 = .ok (.bipush (-5), 2) := by decide +kernel
theorem dX7_compare_49 : decode cX7_compare 49 = .ok (.ireturn, 1) := by decide +kernel
theorem dX7_compare_50 : decode cX7_compare 50 = .ok (.aload_n 0, 1) := by decide +kernel
theorem dX7_compare_51 : decode cX7_compare 51 = .ok (.getfield 23, 3) := by decide +kernel
theorem dX7_compare_54 : decode cX7_compare 54 = .ok (.invokevirtual 116, 3) := by decide +kernel
theorem dX7_compare_57 : decode cX7_compare 57 = .ok (.ifCond .eq 6, 3) := by decide +kernel
theorem dX7_compare_60 : decode cX7_compare 60 = .ok (.bipush (-3), 2) := by decide +kernel
theorem dX7_compare_62 : decode cX7_compare 62 = .ok (.ireturn, 1) := by decide +kernel
theorem dX7_compare_63 : decode cX7_compare 63 = .ok (.aload_n 0, 1) := by decide +kernel
theorem dX7_compare_64 : decode cX7_compare 64 = .ok (.getfield 10, 3) := by decide +kernel
theorem dX7_compare_67 : decode cX7_compare 67 = .ok (.aload_n 0, 1) := by decide +kernel
theorem dX7_compare_68 : decode cX7_compare 68 = .ok (.getfield 23, 3) := by decide +kernel
theorem dX7_compare_71 : decode cX7_compare 71 = .ok (.iconst 0, 1) := by decide +kernel
theorem dX7_compare_72 : decode cX7_compare 72 = .ok (.invokevirtual 113, 3) := by decide +kernel
theorem dX7_compare_75 : decode cX7_compare 75 = .ok (.aload_n 0, 1) := by decide +kernel
theorem dX7_compare_76 : decode cX7_compare 76 = .ok (.getfield 23, 3) := by decide +kernel
theorem dX7_compare_79 : decode cX7_compare 79 = .ok (.iconst 1, 1) := by decide +kernel
theorem dX7_compare_80 : decode cX7_compare 80 = .ok (.invokevirtual 113, 3) := by decide +kernel
theorem dX7_compare_83 : decode cX7_compare 83 = .ok (.invokevirtual 119, 3) := by decide +kernel
theorem dX7_compare_86 : decode cX7_compare 86 = .ok (.ireturn, 1) := by decide +kernel
theorem dX7_lump_0 : decode cX7_lump 0 = .ok (.iload_n 1, 1) := by decide +kernel
theorem dX7_lump_1 : decode cX7_lump 1 = .ok (.invokestatic 123, 3) := by decide +kernel
theorem dX7_lump_4 : decode cX7_lump 4 = .ok (.ifCond .ne 21, 3) := by decide +kernel
theorem dX7_lump_7 : decode cX7_lump 7 = .ok (.iload_n 2, 1) := by decide +kernel
theorem dX7_lump_8 : decode cX7_lump 8 = .ok (.bipush 12, 2) := by decide +kernel
theorem dX7_lump_10 : decode cX7_lump 10 = .ok (.invokestatic 65, 3) := by decide +kernel
theorem dX7_lump_13 : decode cX7_lump 13 = .ok (.ifCond .ne 12, 3) := by decide +kernel
theorem dX7_lump_16 : decode cX7_lump 16 = .ok (.iload_n 3, 1) := by decide +kernel
theorem dX7_lump_17 : decode cX7_lump 17 = .ok (.bipush 11, 2) := by decide +kernel
theorem dX7_lump_19 : decode cX7_lump 19 = .ok (.invokestatic 65, 3) := by decide +kernel
theorem dX7_lump_22 : decode cX7_lump 22 = .ok (.ifCond .eq 6, 3) := by decide +kernel
theorem dX7_lump_25 : decode cX7_lump 25 = .ok (.bipush (-2), 2) := by decide +kernel
theorem dX7_lump_27 : decode cX7_lump 27 = .ok (.ireturn, 1) := by decide +kernel
theorem dX7_lump_28 : decode cX7_lump 28 = .ok (.aload_n 0, 1) := by decide +kernel
theorem dX7_lump_29 : decode cX7_lump 29 = .ok (.getfield 33, 3) := by decide +kernel
theorem dX7_lump_32 : decode cX7_lump 32 = .ok (.invokevirtual 126, 3) := by decide +kernel
theorem dX7_lump_35 : decode cX7_lump 35 = .ok (.bipush 8, 2) := by decide +kernel
theorem dX7_lump_37 : decode cX7_lump 37 = .ok (.if_icmp .ne 6, 3) := by decide +kernel
theorem dX7_lump_40 : decode cX7_lump 40 = .ok (.bipush (-4), 2) := by decide +kernel
theorem dX7_lump_42 : decode cX7_lump 42 = .ok (.ireturn, 1) := by decide +kernel
theorem dX7_lump_43 : decode cX7_lump 43 = .ok (.aload_n 0, 1) := by decide +kernel
theorem dX7_lump_44 : decode cX7_lump 44 = .ok (.getfield 33, 3) := by decide +kernel
theorem dX7_lump_47 : decode cX7_lump 47 = .ok (.iload_n 1, 1) := by decide +kernel
theorem dX7_lump_48 : decode cX7_lump 48 = .ok (.iload_n 2, 1) := by decide +kernel
theorem dX7_lump_49 : decode cX7_lump 49 = .ok (.iload_n 3, 1) := by decide +kernel
theorem dX7_lump_50 : decode cX7_lump 50 = .ok (.invokevirtual 130, 3) := by decide +kernel
theorem dX7_lump_53 : decode cX7_lump 53 = .ok (.aload_n 0, 1) := by decide +kernel
theorem dX7_lump_54 : decode cX7_lump 54 = .ok (.getfield 40, 3) := by decide +kernel
theorem dX7_lump_57 : decode cX7_lump 57 = .ok (.invokevirtual 134, 3) := by decide +kernel
theorem dX7_lump_60 : decode cX7_lump 60 = .ok (.aload_n 0, 1) := by decide +kernel
theorem dX7_lump_61 : decode cX7_lump 61 = .ok (.getfield 33, 3) := by decide +kernel
theorem dX7_lump_64 : decode cX7_lump 64 = .ok (.invokevirtual 126, 3) := by decide +kernel
theorem dX7_lump_67 : decode cX7_lump 67 = .ok (.iconst 1, 1) := by decide +kernel
theorem dX7_lump_68 : decode cX7_lump 68 = .ok (.isub, 1) := by decide +kernel
theorem dX7_lump_69 : decode cX7_lump 69 = .ok (.ireturn, 1) := by decide +kernel
theorem dX7_unlump_0 : decode cX7_unlump 0 = .ok (.aload_n 0, 1) := by decide +kernel
theorem dX7_unlump_1 : decode cX7_unlump 1 = .ok (.getfield 33, 3) := by decide +kernel
theorem dX7_unlump_4 : decode cX7_unlump 4 = .ok (.invokevirtual 126, 3) := by decide +kernel
theorem dX7_unlump_7 : decode cX7_unlump 7 = .ok (.ifCond .ne 6, 3) := by decide +kernel
theorem dX7_unlump_10 : decode cX7_unlump 10 = .ok (.bipush (-3), 2) := by decide +kernel
theorem dX7_unlump_12 : decode cX7_unlump 12 = .ok (.ireturn, 1) := by decide +kernel
theorem dX7_unlump_13 : decode cX7_unlump 13 = .ok (.aload_n 0, 1) := by decide +kernel
theorem dX7_unlump_14 : decode cX7_unlump 14 = .ok (.getfield 33, 3) := by decide +kernel
theorem dX7_unlump_17 : decode cX7_unlump 17 = .ok (.invokevirtual 137, 3) := by decide +kernel
theorem dX7_unlump_20 : decode cX7_unlump 20 = .ok (.aload_n 0, 1) := by decide +kernel
theorem dX7_unlump_21 : decode cX7_unlump 21 = .ok (.getfield 40, 3) := by decide +kernel
theorem dX7_unlump_24 : decode cX7_unlump 24 = .ok (.invokevirtual 134, 3) := by decide +kernel
theorem dX7_unlump_27 : decode cX7_unlump 27 = .ok (.aload_n 0, 1) := by decide +kernel
theorem dX7_unlump_28 : decode cX7_unlump 28 = .ok (.getfield 33, 3) := by decide +kernel
theorem dX7_unlump_31 : decode cX7_unlump 31 = .ok (.invokevirtual 126, 3) := by decide +kernel
theorem dX7_unlump_34 : decode cX7_unlump 34 = .ok (.ireturn, 1) := by decide +kernel
theorem dX7_drill_0 : decode cX7_drill 0 = .ok (.iload_n 1, 1) := by decide +kernel
theorem dX7_drill_1 : decode cX7_drill 1 = .ok (.iconst 2, 1) := by decide +kernel
theorem dX7_drill_2 : decode cX7_drill 2 = .ok (.invokestatic 65, 3) := by decide +kernel
theorem dX7_drill_5 : decode cX7_drill 5 = .ok (.ifCond .ne 23, 3) := by decide +kernel
theorem dX7_drill_8 : decode cX7_drill 8 = .ok (.iload_n 2, 1) := by decide +kernel
theorem dX7_drill_9 : decode cX7_drill 9 = .ok (.bipush 12, 2) := by decide +kernel
theorem dX7_drill_11 : decode cX7_drill 11 = .ok (.invokestatic 65, 3) := by decide +kernel
theorem dX7_drill_14 : decode cX7_drill 14 = .ok (.ifCond .ne 14, 3) := by decide +kernel
theorem dX7_drill_17 : decode cX7_drill 17 = .ok (.iload_n 3, 1) := by decide +kernel
theorem dX7_drill_18 : decode cX7_drill 18 = .ok (.iconst 1, 1) := by decide +kernel
theorem dX7_drill_19 : decode cX7_drill 19 = .ok (.if_icmp .lt 9, 3) := by decide +kernel
theorem dX7_drill_22 : decode cX7_drill 22 = .ok (.iload_n 3, 1) := by decide +kernel
theorem dX7_drill_23 : decode cX7_drill 23 = .ok (.bipush 9, 2) := by decide +kernel
theorem dX7_drill_25 : decode cX7_drill 25 = .ok (.if_icmp .le 6, 3) := by decide +kernel
theorem dX7_drill_28 : decode cX7_drill 28 = .ok (.bipush (-2), 2) := by decide +kernel
theorem dX7_drill_30 : decode cX7_drill 30 = .ok (.ireturn, 1) := by decide +kernel
theorem dX7_drill_31 : decode cX7_drill 31 = .ok (.aload_n 0, 1) := by decide +kernel
theorem dX7_drill_32 : decode cX7_drill 32 = .ok (.getfield 33, 3) := by decide +kernel
theorem dX7_drill_35 : decode cX7_drill 35 = .ok (.iload_n 1, 1) := by decide +kernel
theorem dX7_drill_36 : decode cX7_drill 36 = .ok (.invokevirtual 140, 3) := by decide +kernel
theorem dX7_drill_39 : decode cX7_drill 39 = .ok (.iload_n 2, 1) := by decide +kernel
theorem dX7_drill_40 : decode cX7_drill 40 = .ok (.ishr, 1) := by decide +kernel
theorem dX7_drill_41 : decode cX7_drill 41 = .ok (.iconst 1, 1) := by decide +kernel
theorem dX7_drill_42 : decode cX7_drill 42 = .ok (.iand, 1) := by decide +kernel
theorem dX7_drill_43 : decode cX7_drill 43 = .ok (.ifCond .ne 6, 3) := by decide +kernel
theorem dX7_drill_46 : decode cX7_drill 46 = .ok (.bipush (-3), 2) := by decide +kernel
theorem dX7_drill_48 : decode cX7_drill 48 = .ok (.ireturn, 1) := by decide +kernel
theorem dX7_drill_49 : decode cX7_drill 49 = .ok (.aload_n 0, 1) := by decide +kernel
theorem dX7_drill_50 : decode cX7_drill 50 = .ok (.iload_n 1, 1) := by decide +kernel
theorem dX7_drill_51 : decode cX7_drill 51 = .ok (.iload_n 2, 1) := by decide +kernel
theorem dX7_drill_52 : decode cX7_drill 52 = .ok (.iload_n 3, 1) := by decide +kernel
theorem dX7_drill_53 : decode cX7_drill 53 = .ok (.invokevirtual 143, 3) := by decide +kernel
theorem dX7_drill_56 : decode cX7_drill 56 = .ok (.aload_n 0, 1) := by decide +kernel
theorem dX7_drill_57 : decode cX7_drill 57 = .ok (.getfield 33, 3) := by decide +kernel
theorem dX7_drill_60 : decode cX7_drill 60 = .ok (.iload_n 1, 1) := by decide +kernel
theorem dX7_drill_61 : decode cX7_drill 61 = .ok (.invokevirtual 146, 3) := by decide +kernel
theorem dX7_drill_64 : decode cX7_drill 64 = .ok (.ireturn, 1) := by decide +kernel
theorem dX7_fill_0 : decode cX7_fill 0 = .ok (.iload_n 1, 1) := by decide +kernel
theorem dX7_fill_1 : decode cX7_fill 1 = .ok (.iconst 2, 1) := by decide +kernel
theorem dX7_fill_2 : decode cX7_fill 2 = .ok (.invokestatic 65, 3) := by decide +kernel
theorem dX7_fill_5 : decode cX7_fill 5 = .ok (.ifCond .ne 12, 3) := by decide +kernel
theorem dX7_fill_8 : decode cX7_fill 8 = .ok (.iload_n 2, 1) := by decide +kernel
theorem dX7_fill_9 : decode cX7_fill 9 = .ok (.bipush 12, 2) := by decide +kernel
theorem dX7_fill_11 : decode cX7_fill 11 = .ok (.invokestatic 65, 3) := by decide +kernel
theorem dX7_fill_14 : decode cX7_fill 14 = .ok (.ifCond .eq 6, 3) := by decide +kernel
theorem dX7_fill_17 : decode cX7_fill 17 = .ok (.bipush (-2), 2) := by decide +kernel
theorem dX7_fill_19 : decode cX7_fill 19 = .ok (.ireturn, 1) := by decide +kernel
theorem dX7_fill_20 : decode cX7_fill 20 = .ok (.aload_n 0, 1) := by decide +kernel
theorem dX7_fill_21 : decode cX7_fill 21 = .ok (.getfield 33, 3) := by decide +kernel
theorem dX7_fill_24 : decode cX7_fill 24 = .ok (.iload_n 1, 1) := by decide +kernel
theorem dX7_fill_25 : decode cX7_fill 25 = .ok (.iload_n 2, 1) := by decide +kernel
theorem dX7_fill_26 : decode cX7_fill 26 = .ok (.invokevirtual 149, 3) := by decide +kernel
theorem dX7_fill_29 : decode cX7_fill 29 = .ok (.istore_n 3, 1) := by decide +kernel
theorem dX7_fill_30 : decode cX7_fill 30 = .ok (.iload_n 3, 1) := by decide +kernel
theorem dX7_fill_31 : decode cX7_fill 31 = .ok (.ifCond .ne 6, 3) := by decide +kernel
theorem dX7_fill_34 : decode cX7_fill 34 = .ok (.bipush (-3), 2) := by decide +kernel
theorem dX7_fill_36 : decode cX7_fill 36 = .ok (.ireturn, 1) := by decide +kernel
theorem dX7_fill_37 : decode cX7_fill 37 = .ok (.aload_n 0, 1) := by decide +kernel
theorem dX7_fill_38 : decode cX7_fill 38 = .ok (.iload_n 1, 1) := by decide +kernel
theorem dX7_fill_39 : decode cX7_fill 39 = .ok (.iload_n 2, 1) := by decide +kernel
theorem dX7_fill_40 : decode cX7_fill 40 = .ok (.iconst 0, 1) := by decide +kernel
theorem dX7_fill_41 : decode cX7_fill 41 = .ok (.invokevirtual 143, 3) := by decide +kernel
theorem dX7_fill_44 : decode cX7_fill 44 = .ok (.iload_n 3, 1) := by decide +kernel
theorem dX7_fill_45 : decode cX7_fill 45 = .ok (.ireturn, 1) := by decide +kernel
theorem dX7_hole_0 : decode cX7_hole 0 = .ok (.iload_n 1, 1) := by decide +kernel
theorem dX7_hole_1 : decode cX7_hole 1 = .ok (.iconst 2, 1) := by decide +kernel
theorem dX7_hole_2 : decode cX7_hole 2 = .ok (.invokestatic 65, 3) := by decide +kernel
theorem dX7_hole_5 : decode cX7_hole 5 = .ok (.ifCond .ne 12, 3) := by decide +kernel
theorem dX7_hole_8 : decode cX7_hole 8 = .ok (.iload_n 2, 1) := by decide +kernel
theorem dX7_hole_9 : decode cX7_hole 9 = .ok (.bipush 12, 2) := by decide +kernel
theorem dX7_hole_11 : decode cX7_hole 11 = .ok (.invokestatic 65, 3) := by decide +kernel
theorem dX7_hole_14 : decode cX7_hole 14 = .ok (.ifCond .eq 6, 3) := by decide +kernel
theorem dX7_hole_17 : decode cX7_hole 17 = .ok (.bipush (-2), 2) := by decide +kernel
theorem dX7_hole_19 : decode cX7_hole 19 = .ok (.ireturn, 1) := by decide +kernel
theorem dX7_hole_20 : decode cX7_hole 20 = .ok (.aload_n 0, 1) := by decide +kernel
theorem dX7_hole_21 : decode cX7_hole 21 = .ok (.getfield 33, 3) := by decide +kernel
theorem dX7_hole_24 : decode cX7_hole 24 = .ok (.iload_n 1, 1) := by decide +kernel
theorem dX7_hole_25 : decode cX7_hole 25 = .ok (.iload_n 2, 1) := by decide +kernel
theorem dX7_hole_26 : decode cX7_hole 26 = .ok (.invokevirtual 149, 3) := by decide +kernel
theorem dX7_hole_29 : decode cX7_hole 29 = .ok (.ireturn, 1) := by decide +kernel
theorem dX7_lawful_0 : decode cX7_lawful 0 = .ok (.iload_n 1, 1) := by decide +kernel
theorem dX7_lawful_1 : decode cX7_lawful 1 = .ok (.iconst 2, 1) := by decide +kernel
theorem dX7_lawful_2 : decode cX7_lawful 2 = .ok (.invokestatic 65, 3) := by decide +kernel
theorem dX7_lawful_5 : decode cX7_lawful 5 = .ok (.ifCond .ne 13, 3) := by decide +kernel
theorem dX7_lawful_8 : decode cX7_lawful 8 = .ok (.iload_n 2, 1) := by decide +kernel
theorem dX7_lawful_9 : decode cX7_lawful 9 = .ok (.sipush 4096, 3) := by decide +kernel
theorem dX7_lawful_12 : decode cX7_lawful 12 = .ok (.invokestatic 65, 3) := by decide +kernel
theorem dX7_lawful_15 : decode cX7_lawful 15 = .ok (.ifCond .eq 6, 3) := by decide +kernel
theorem dX7_lawful_18 : decode cX7_lawful 18 = .ok (.bipush (-2), 2) := by decide +kernel
theorem dX7_lawful_20 : decode cX7_lawful 20 = .ok (.ireturn, 1) := by decide +kernel
theorem dX7_lawful_21 : decode cX7_lawful 21 = .ok (.aload_n 0, 1) := by decide +kernel
theorem dX7_lawful_22 : decode cX7_lawful 22 = .ok (.getfield 33, 3) := by decide +kernel
theorem dX7_lawful_25 : decode cX7_lawful 25 = .ok (.iload_n 1, 1) := by decide +kernel
theorem dX7_lawful_26 : decode cX7_lawful 26 = .ok (.invokevirtual 153, 3) := by decide +kernel
theorem dX7_lawful_29 : decode cX7_lawful 29 = .ok (.istore_n 3, 1) := by decide +kernel
theorem dX7_lawful_30 : decode cX7_lawful 30 = .ok (.aload_n 0, 1) := by decide +kernel
theorem dX7_lawful_31 : decode cX7_lawful 31 = .ok (.getfield 33, 3) := by decide +kernel
theorem dX7_lawful_34 : decode cX7_lawful 34 = .ok (.iload_n 1, 1) := by decide +kernel
theorem dX7_lawful_35 : decode cX7_lawful 35 = .ok (.iload_n 2, 1) := by decide +kernel
theorem dX7_lawful_36 : decode cX7_lawful 36 = .ok (.invokevirtual 156, 3) := by decide +kernel
theorem dX7_lawful_39 : decode cX7_lawful 39 = .ok (.iload_n 3, 1) := by decide +kernel
theorem dX7_lawful_40 : decode cX7_lawful 40 = .ok (.ireturn, 1) := by decide +kernel
theorem dX7_sizes_0 : decode cX7_sizes 0 = .ok (.iload_n 1, 1) := by decide +kernel
theorem dX7_sizes_1 : decode cX7_sizes 1 = .ok (.sipush (-1023), 3) := by decide +kernel
theorem dX7_sizes_4 : decode cX7_sizes 4 = .ok (.iand, 1) := by decide +kernel
theorem dX7_sizes_5 : decode cX7_sizes 5 = .ok (.ifCond .ne 15, 3) := by decide +kernel
theorem dX7_sizes_8 : decode cX7_sizes 8 = .ok (.iload_n 1, 1) := by decide +kernel
theorem dX7_sizes_9 : decode cX7_sizes 9 = .ok (.ifCond .eq 11, 3) := by decide +kernel
theorem dX7_sizes_12 : decode cX7_sizes 12 = .ok (.iload_n 1, 1) := by decide +kernel
theorem dX7_sizes_13 : decode cX7_sizes 13 = .ok (.invokestatic 160, 3) := by decide +kernel
theorem dX7_sizes_16 : decode cX7_sizes 16 = .ok (.iconst 3, 1) := by decide +kernel
theorem dX7_sizes_17 : decode cX7_sizes 17 = .ok (.if_icmp .le 6, 3) := by decide +kernel
theorem dX7_sizes_20 : decode cX7_sizes 20 = .ok (.bipush (-2), 2) := by decide +kernel
theorem dX7_sizes_22 : decode cX7_sizes 22 = .ok (.ireturn, 1) := by decide +kernel
theorem dX7_sizes_23 : decode cX7_sizes 23 = .ok (.aload_n 0, 1) := by decide +kernel
theorem dX7_sizes_24 : decode cX7_sizes 24 = .ok (.getfield 33, 3) := by decide +kernel
theorem dX7_sizes_27 : decode cX7_sizes 27 = .ok (.invokevirtual 165, 3) := by decide +kernel
theorem dX7_sizes_30 : decode cX7_sizes 30 = .ok (.istore_n 2, 1) := by decide +kernel
theorem dX7_sizes_31 : decode cX7_sizes 31 = .ok (.aload_n 0, 1) := by decide +kernel
theorem dX7_sizes_32 : decode cX7_sizes 32 = .ok (.getfield 33, 3) := by decide +kernel
theorem dX7_sizes_35 : decode cX7_sizes 35 = .ok (.iload_n 1, 1) := by decide +kernel
theorem dX7_sizes_36 : decode cX7_sizes 36 = .ok (.invokevirtual 168, 3) := by decide +kernel
theorem dX7_sizes_39 : decode cX7_sizes 39 = .ok (.iload_n 2, 1) := by decide +kernel
theorem dX7_sizes_40 : decode cX7_sizes 40 = .ok (.ireturn, 1) := by decide +kernel
theorem dX7_limit_0 : decode cX7_limit 0 = .ok (.iload_n 1, 1) := by decide +kernel
theorem dX7_limit_1 : decode cX7_limit 1 = .ok (.bipush 100, 2) := by decide +kernel
theorem dX7_limit_3 : decode cX7_limit 3 = .ok (.invokestatic 65, 3) := by decide +kernel
theorem dX7_limit_6 : decode cX7_limit 6 = .ok (.ifCond .eq 6, 3) := by decide +kernel
theorem dX7_limit_9 : decode cX7_limit 9 = .ok (.bipush (-2), 2) := by decide +kernel
theorem dX7_limit_11 : decode cX7_limit 11 = .ok (.ireturn, 1) := by decide +kernel
theorem dX7_limit_12 : decode cX7_limit 12 = .ok (.aload_n 0, 1) := by decide +kernel
theorem dX7_limit_13 : decode cX7_limit 13 = .ok (.getfield 33, 3) := by decide +kernel
theorem dX7_limit_16 : decode cX7_limit 16 = .ok (.invokevirtual 172, 3) := by decide +kernel
theorem dX7_limit_19 : decode cX7_limit 19 = .ok (.istore_n 2, 1) := by decide +kernel
theorem dX7_limit_20 : decode cX7_limit 20 = .ok (.aload_n 0, 1) := by decide +kernel
theorem dX7_limit_21 : decode cX7_limit 21 = .ok (.getfield 33, 3) := by decide +kernel
theorem dX7_limit_24 : decode cX7_limit 24 = .ok (.iload_n 1, 1) := by decide +kernel
theorem dX7_limit_25 : decode cX7_limit 25 = .ok (.invokevirtual 175, 3) := by decide +kernel
theorem dX7_limit_28 : decode cX7_limit 28 = .ok (.iload_n 2, 1) := by decide +kernel
theorem dX7_limit_29 : decode cX7_limit 29 = .ok (.ireturn, 1) := by decide +kernel
theorem dX7_pull_0 : decode cX7_pull 0 = .ok (.iload_n 1, 1) := by decide +kernel
theorem dX7_pull_1 : decode cX7_pull 1 = .ok (.iconst 2, 1) := by decide +kernel
theorem dX7_pull_2 : decode cX7_pull 2 = .ok (.invokestatic 65, 3) := by decide +kernel
theorem dX7_pull_5 : decode cX7_pull 5 = .ok (.ifCond .ne 12, 3) := by decide +kernel
theorem dX7_pull_8 : decode cX7_pull 8 = .ok (.iload_n 2, 1) := by decide +kernel
theorem dX7_pull_9 : decode cX7_pull 9 = .ok (.bipush 10, 2) := by decide +kernel
theorem dX7_pull_11 : decode cX7_pull 11 = .ok (.invokestatic 65, 3) := by decide +kernel
theorem dX7_pull_14 : decode cX7_pull 14 = .ok (.ifCond .eq 9, 3) := by decide +kernel
theorem dX7_pull_17 : decode cX7_pull 17 = .ok (.bipush (-2), 2) := by decide +kernel
theorem dX7_pull_19 : decode cX7_pull 19 = .ok (.invokestatic 109, 3) := by decide +kernel
theorem dX7_pull_22 : decode cX7_pull 22 = .ok (.lreturn, 1) := by decide +kernel
theorem dX7_pull_23 : decode cX7_pull 23 = .ok (.aload_n 0, 1) := by decide +kernel
theorem dX7_pull_24 : decode cX7_pull 24 = .ok (.iload_n 1, 1) := by decide +kernel
theorem dX7_pull_25 : decode cX7_pull 25 = .ok (.invokevirtual 178, 3) := by decide +kernel
theorem dX7_pull_28 : decode cX7_pull 28 = .ok (.iload_n 2, 1) := by decide +kernel
theorem dX7_pull_29 : decode cX7_pull 29 = .ok (.iconst 5, 1) := by decide +kernel
theorem dX7_pull_30 : decode cX7_pull 30 = .ok (.if_icmp .ge 14, 3) := by decide +kernel
theorem dX7_pull_33 : decode cX7_pull 33 = .ok (.aload_n 0, 1) := by decide +kernel
theorem dX7_pull_34 : decode cX7_pull 34 = .ok (.getfield 23, 3) := by decide +kernel
theorem dX7_pull_37 : decode cX7_pull 37 = .ok (.iload_n 2, 1) := by decide +kernel
theorem dX7_pull_38 : decode cX7_pull 38 = .ok (.invokevirtual 113, 3) := by decide +kernel
theorem dX7_pull_41 : decode cX7_pull 41 = .ok (.goto 13, 3) := by decide +kernel
theorem dX7_pull_44 : decode cX7_pull 44 = .ok (.aload_n 0, 1) := by decide +kernel
theorem dX7_pull_45 : decode cX7_pull 45 = .ok (.getfield 27, 3) := by decide +kernel
theorem dX7_pull_48 : decode cX7_pull 48 = .ok (.iload_n 2, 1) := by decide +kernel
theorem dX7_pull_49 : decode cX7_pull 49 = .ok (.iconst 5, 1) := by decide +kernel
theorem dX7_pull_50 : decode cX7_pull 50 = .ok (.isub, 1) := by decide +kernel
theorem dX7_pull_51 : decode cX7_pull 51 = .ok (.invokevirtual 113, 3) := by decide +kernel
theorem dX7_pull_54 : decode cX7_pull 54 = .ok (.lreturn, 1) := by decide +kernel
theorem dX7_quiet_0 : decode cX7_quiet 0 = .ok (.iload_n 1, 1) := by decide +kernel
theorem dX7_quiet_1 : decode cX7_quiet 1 = .ok (.iconst 2, 1) := by decide +kernel
theorem dX7_quiet_2 : decode cX7_quiet 2 = .ok (.invokestatic 65, 3) := by decide +kernel
theorem dX7_quiet_5 : decode cX7_quiet 5 = .ok (.ifCond .eq 6, 3) := by decide +kernel
theorem dX7_quiet_8 : decode cX7_quiet 8 = .ok (.bipush (-2), 2) := by decide +kernel
theorem dX7_quiet_10 : decode cX7_quiet 10 = .ok (.ireturn, 1) := by decide +kernel
theorem dX7_quiet_11 : decode cX7_quiet 11 = .ok (.aload_n 0, 1) := by decide +kernel
theorem dX7_quiet_12 : decode cX7_quiet 12 = .ok (.getfield 47, 3) := by decide +kernel
theorem dX7_quiet_15 : decode cX7_quiet 15 = .ok (.aload_n 0, 1) := by decide +kernel
theorem dX7_quiet_16 : decode cX7_quiet 16 = .ok (.getfield 33, 3) := by decide +kernel
theorem dX7_quiet_19 : decode cX7_quiet 19 = .ok (.iload_n 1, 1) := by decide +kernel
theorem dX7_quiet_20 : decode cX7_quiet 20 = .ok (.invokevirtual 181, 3) := by decide +kernel
theorem dX7_quiet_23 : decode cX7_quiet 23 = .ok (.ifCond .eq 7, 3) := by decide +kernel
theorem dX7_quiet_26 : decode cX7_quiet 26 = .ok (.iconst 1, 1) := by decide +kernel
theorem dX7_quiet_27 : decode cX7_quiet 27 = .ok (.goto 4, 3) := by decide +kernel
theorem dX7_quiet_30 : decode cX7_quiet 30 = .ok (.iconst 0, 1) := by decide +kernel
theorem dX7_quiet_31 : decode cX7_quiet 31 = .ok (.ireturn, 1) := by decide +kernel
theorem dX7_bearing_0 : decode cX7_bearing 0 = .ok (.iload_n 1, 1) := by decide +kernel
theorem dX7_bearing_1 : decode cX7_bearing 1 = .ok (.iconst 2, 1) := by decide +kernel
theorem dX7_bearing_2 : decode cX7_bearing 2 = .ok (.invokestatic 65, 3) := by decide +kernel
theorem dX7_bearing_5 : decode cX7_bearing 5 = .ok (.ifCond .ne 38, 3) := by decide +kernel
theorem dX7_bearing_8 : decode cX7_bearing 8 = .ok (.iload_n 2, 1) := by decide +kernel
theorem dX7_bearing_9 : decode cX7_bearing 9 = .ok (.iconst 2, 1) := by decide +kernel
theorem dX7_bearing_10 : decode cX7_bearing 10 = .ok (.invokestatic 65, 3) := by decide +kernel
theorem dX7_bearing_13 : decode cX7_bearing 13 = .ok (.ifCond .ne 30, 3) := by decide +kernel
theorem dX7_bearing_16 : decode cX7_bearing 16 = .ok (.iload_n 3, 1) := by decide +kernel
theorem dX7_bearing_17 : decode cX7_bearing 17 = .ok (.iconst 2, 1) := by decide +kernel
theorem dX7_bearing_18 : decode cX7_bearing 18 = .ok (.invokestatic 65, 3) := by decide +kernel
theorem dX7_bearing_21 : decode cX7_bearing 21 = .ok (.ifCond .ne 22, 3) := by decide +kernel
theorem dX7_bearing_24 : decode cX7_bearing 24 = .ok (.iload 4, 2) := by decide +kernel
theorem dX7_bearing_26 : decode cX7_bearing 26 = .ok (.iload_n 3, 1) := by decide +kernel
theorem dX7_bearing_27 : decode cX7_bearing 27 = .ok (.ifCond .ne 8, 3) := by decide +kernel
theorem dX7_bearing_30 : decode cX7_bearing 30 = .ok (.bipush 10, 2) := by decide +kernel
theorem dX7_bearing_32 : decode cX7_bearing 32 = .ok (.goto 5, 3) := by decide +kernel
theorem dX7_bearing_35 : decode cX7_bearing 35 = .ok (.bipush 12, 2) := by decide +kernel
theorem dX7_bearing_37 : decode cX7_bearing 37 = .ok (.invokestatic 65, 3) := by decide +kernel
theorem dX7_bearing_40 : decode cX7_bearing 40 = .ok (.ifCond .eq 6, 3) := by decide +kernel
theorem dX7_bearing_43 : decode cX7_bearing 43 = .ok (.bipush (-2), 2) := by decide +kernel
theorem dX7_bearing_45 : decode cX7_bearing 45 = .ok (.ireturn, 1) := by decide +kernel
theorem dX7_bearing_46 : decode cX7_bearing 46 = .ok (.aload_n 0, 1) := by decide +kernel
theorem dX7_bearing_47 : decode cX7_bearing 47 = .ok (.getfield 40, 3) := by decide +kernel
theorem dX7_bearing_50 : decode cX7_bearing 50 = .ok (.iload_n 1, 1) := by decide +kernel
theorem dX7_bearing_51 : decode cX7_bearing 51 = .ok (.iload_n 2, 1) := by decide +kernel
theorem dX7_bearing_52 : decode cX7_bearing 52 = .ok (.iload_n 3, 1) := by decide +kernel
theorem dX7_bearing_53 : decode cX7_bearing 53 = .ok (.invokevirtual 185, 3) := by decide +kernel
theorem dX7_bearing_56 : decode cX7_bearing 56 = .ok (.istore 5, 2) := by decide +kernel
theorem dX7_bearing_58 : decode cX7_bearing 58 = .ok (.aload_n 0, 1) := by decide +kernel
theorem dX7_bearing_59 : decode cX7_bearing 59 = .ok (.getfield 40, 3) := by decide +kernel
theorem dX7_bearing_62 : decode cX7_bearing 62 = .ok (.iload_n 1, 1) := by decide +kernel
theorem dX7_bearing_63 : decode cX7_bearing 63 = .ok (.iload_n 2, 1) := by decide +kernel
theorem dX7_bearing_64 : decode cX7_bearing 64 = .ok (.iload_n 3, 1) := by decide +kernel
theorem dX7_bearing_65 : decode cX7_bearing 65 = .ok (.iload 4, 2) := by decide +kernel
theorem dX7_bearing_67 : decode cX7_bearing 67 = .ok (.invokevirtual 189, 3) := by decide +kernel
theorem dX7_bearing_70 : decode cX7_bearing 70 = .ok (.iload 5, 2) := by decide +kernel
theorem dX7_bearing_72 : decode cX7_bearing 72 = .ok (.ireturn, 1) := by decide +kernel
theorem dX7_trial_0 : decode cX7_trial 0 = .ok (.iload_n 1, 1) := by decide +kernel
theorem dX7_trial_1 : decode cX7_trial 1 = .ok (.iconst 3, 1) := by decide +kernel
theorem dX7_trial_2 : decode cX7_trial 2 = .ok (.invokestatic 65, 3) := by decide +kernel
theorem dX7_trial_5 : decode cX7_trial 5 = .ok (.ifCond .ne 23, 3) := by decide +kernel
theorem dX7_trial_8 : decode cX7_trial 8 = .ok (.iload_n 1, 1) := by decide +kernel
theorem dX7_trial_9 : decode cX7_trial 9 = .ok (.ifCond .eq 22, 3) := by decide +kernel
theorem dX7_trial_12 : decode cX7_trial 12 = .ok (.iload_n 2, 1) := by decide +kernel
theorem dX7_trial_13 : decode cX7_trial 13 = .ok (.invokestatic 123, 3) := by decide +kernel
theorem dX7_trial_16 : decode cX7_trial 16 = .ok (.ifCond .ne 12, 3) := by decide +kernel
theorem dX7_trial_19 : decode cX7_trial 19 = .ok (.iload_n 3, 1) := by decide +kernel
theorem dX7_trial_20 : decode cX7_trial 20 = .ok (.bipush 12, 2) := by decide +kernel
theorem dX7_trial_22 : decode cX7_trial 22 = .ok (.invokestatic 65, 3) := by decide +kernel
theorem dX7_trial_25 : decode cX7_trial 25 = .ok (.ifCond .eq 6, 3) := by decide +kernel
theorem dX7_trial_28 : decode cX7_trial 28 = .ok (.bipush (-2), 2) := by decide +kernel
theorem dX7_trial_30 : decode cX7_trial 30 = .ok (.ireturn, 1) := by decide +kernel
theorem dX7_trial_31 : decode cX7_trial 31 = .ok (.aload_n 0, 1) := by decide +kernel
theorem dX7_trial_32 : decode cX7_trial 32 = .ok (.getfield 40, 3) := by decide +kernel
theorem dX7_trial_35 : decode cX7_trial 35 = .ok (.aload_n 0, 1) := by decide +kernel
theorem dX7_trial_36 : decode cX7_trial 36 = .ok (.getfield 33, 3) := by decide +kernel
theorem dX7_trial_39 : decode cX7_trial 39 = .ok (.iload_n 1, 1) := by decide +kernel
theorem dX7_trial_40 : decode cX7_trial 40 = .ok (.iload_n 2, 1) := by decide +kernel
theorem dX7_trial_41 : decode cX7_trial 41 = .ok (.iload_n 3, 1) := by decide +kernel
theorem dX7_trial_42 : decode cX7_trial 42 = .ok (.invokevirtual 193, 3) := by decide +kernel
theorem dX7_trial_45 : decode cX7_trial 45 = .ok (.aload_n 0, 1) := by decide +kernel
theorem dX7_trial_46 : decode cX7_trial 46 = .ok (.getfield 40, 3) := by decide +kernel
theorem dX7_trial_49 : decode cX7_trial 49 = .ok (.invokevirtual 197, 3) := by decide +kernel
theorem dX7_trial_52 : decode cX7_trial 52 = .ok (.ireturn, 1) := by decide +kernel
theorem dX7_found_0 : decode cX7_found 0 = .ok (.iload_n 1, 1) := by decide +kernel
theorem dX7_found_1 : decode cX7_found 1 = .ok (.iconst 2, 1) := by decide +kernel
theorem dX7_found_2 : decode cX7_found 2 = .ok (.invokestatic 65, 3) := by decide +kernel
theorem dX7_found_5 : decode cX7_found 5 = .ok (.ifCond .ne 12, 3) := by decide +kernel
theorem dX7_found_8 : decode cX7_found 8 = .ok (.iload_n 2, 1) := by decide +kernel
theorem dX7_found_9 : decode cX7_found 9 = .ok (.bipush 6, 2) := by decide +kernel
theorem dX7_found_11 : decode cX7_found 11 = .ok (.invokestatic 65, 3) := by decide +kernel
theorem dX7_found_14 : decode cX7_found 14 = .ok (.ifCond .eq 6, 3) := by decide +kernel
theorem dX7_found_17 : decode cX7_found 17 = .ok (.bipush (-2), 2) := by decide +kernel
theorem dX7_found_19 : decode cX7_found 19 = .ok (.ireturn, 1) := by decide +kernel
theorem dX7_found_20 : decode cX7_found 20 = .ok (.aload_n 0, 1) := by decide +kernel
theorem dX7_found_21 : decode cX7_found 21 = .ok (.getfield 40, 3) := by decide +kernel
theorem dX7_found_24 : decode cX7_found 24 = .ok (.invokevirtual 197, 3) := by decide +kernel
theorem dX7_found_27 : decode cX7_found 27 = .ok (.iconst 3, 1) := by decide +kernel
theorem dX7_found_28 : decode cX7_found 28 = .ok (.if_icmp .ge 6, 3) := by decide +kernel
theorem dX7_found_31 : decode cX7_found 31 = .ok (.bipush (-3), 2) := by decide +kernel
theorem dX7_found_33 : decode cX7_found 33 = .ok (.ireturn, 1) := by decide +kernel
theorem dX7_found_34 : decode cX7_found 34 = .ok (.aload_n 0, 1) := by decide +kernel
theorem dX7_found_35 : decode cX7_found 35 = .ok (.getfield 40, 3) := by decide +kernel
theorem dX7_found_38 : decode cX7_found 38 = .ok (.iload_n 1, 1) := by decide +kernel
theorem dX7_found_39 : decode cX7_found 39 = .ok (.aload_n 0, 1) := by decide +kernel
theorem dX7_found_40 : decode cX7_found 40 = .ok (.getfield 23, 3) := by decide +kernel
theorem dX7_found_43 : decode cX7_found 43 = .ok (.invokevirtual 207, 3) := by decide +kernel
theorem dX7_found_46 : decode cX7_found 46 = .ok (.istore_n 3, 1) := by decide +kernel
theorem dX7_found_47 : decode cX7_found 47 = .ok (.iload_n 3, 1) := by decide +kernel
theorem dX7_found_48 : decode cX7_found 48 = .ok (.iconst 1, 1) := by decide +kernel
theorem dX7_found_49 : decode cX7_found 49 = .ok (.if_icmp .ne 16, 3) := by decide +kernel
theorem dX7_found_52 : decode cX7_found 52 = .ok (.aload_n 0, 1) := by decide +kernel
theorem dX7_found_53 : decode cX7_found 53 = .ok (.getfield 18, 3) := by decide +kernel
theorem dX7_found_56 : decode cX7_found 56 = .ok (.iload_n 2, 1) := by decide +kernel
theorem dX7_found_57 : decode cX7_found 57 = .ok (.aaload, 1) := by decide +kernel
theorem dX7_found_58 : decode cX7_found 58 = .ok (.aload_n 0, 1) := by decide +kernel
theorem dX7_found_59 : decode cX7_found 59 = .ok (.getfield 23, 3) := by decide +kernel
theorem dX7_found_62 : decode cX7_found 62 = .ok (.invokevirtual 211, 3) := by decide +kernel
theorem dX7_found_65 : decode cX7_found 65 = .ok (.iload_n 3, 1) := by decide +kernel
theorem dX7_found_66 : decode cX7_found 66 = .ok (.ireturn, 1) := by decide +kernel
theorem dX7_effect_0 : decode cX7_effect 0 = .ok (.iload_n 1, 1) := by decide +kernel
theorem dX7_effect_1 : decode cX7_effect 1 = .ok (.iconst 2, 1) := by decide +kernel
theorem dX7_effect_2 : decode cX7_effect 2 = .ok (.invokestatic 65, 3) := by decide +kernel
theorem dX7_effect_5 : decode cX7_effect 5 = .ok (.ifCond .ne 20, 3) := by decide +kernel
theorem dX7_effect_8 : decode cX7_effect 8 = .ok (.iload_n 2, 1) := by decide +kernel
theorem dX7_effect_9 : decode cX7_effect 9 = .ok (.iconst 2, 1) := by decide +kernel
theorem dX7_effect_10 : decode cX7_effect 10 = .ok (.invokestatic 65, 3) := by decide +kernel
theorem dX7_effect_13 : decode cX7_effect 13 = .ok (.ifCond .ne 12, 3) := by decide +kernel
theorem dX7_effect_16 : decode cX7_effect 16 = .ok (.iload_n 3, 1) := by decide +kernel
theorem dX7_effect_17 : decode cX7_effect 17 = .ok (.bipush 6, 2) := by decide +kernel
theorem dX7_effect_19 : decode cX7_effect 19 = .ok (.invokestatic 65, 3) := by decide +kernel
theorem dX7_effect_22 : decode cX7_effect 22 = .ok (.ifCond .eq 6, 3) := by decide +kernel
theorem dX7_effect_25 : decode cX7_effect 25 = .ok (.bipush (-2), 2) := by decide +kernel
theorem dX7_effect_27 : decode cX7_effect 27 = .ok (.ireturn, 1) := by decide +kernel
theorem dX7_effect_28 : decode cX7_effect 28 = .ok (.aload_n 0, 1) := by decide +kernel
theorem dX7_effect_29 : decode cX7_effect 29 = .ok (.getfield 40, 3) := by decide +kernel
theorem dX7_effect_32 : decode cX7_effect 32 = .ok (.iconst 0, 1) := by decide +kernel
theorem dX7_effect_33 : decode cX7_effect 33 = .ok (.invokevirtual 200, 3) := by decide +kernel
theorem dX7_effect_36 : decode cX7_effect 36 = .ok (.ifCond .eq 16, 3) := by decide +kernel
theorem dX7_effect_39 : decode cX7_effect 39 = .ok (.aload_n 0, 1) := by decide +kernel
theorem dX7_effect_40 : decode cX7_effect 40 = .ok (.getfield 40, 3) := by decide +kernel
theorem dX7_effect_43 : decode cX7_effect 43 = .ok (.iload_n 1, 1) := by decide +kernel
theorem dX7_effect_44 : decode cX7_effect 44 = .ok (.iconst 1, 1) := by decide +kernel
theorem dX7_effect_45 : decode cX7_effect 45 = .ok (.iadd, 1) := by decide +kernel
theorem dX7_effect_46 : decode cX7_effect 46 = .ok (.invokevirtual 200, 3) := by decide +kernel
theorem dX7_effect_49 : decode cX7_effect 49 = .ok (.ifCond .ne 6, 3) := by decide +kernel
theorem dX7_effect_52 : decode cX7_effect 52 = .ok (.bipush (-3), 2) := by decide +kernel
theorem dX7_effect_54 : decode cX7_effect 54 = .ok (.ireturn, 1) := by decide +kernel
theorem dX7_effect_55 : decode cX7_effect 55 = .ok (.aload_n 0, 1) := by decide +kernel
theorem dX7_effect_56 : decode cX7_effect 56 = .ok (.getfield 40, 3) := by decide +kernel
theorem dX7_effect_59 : decode cX7_effect 59 = .ok (.iload_n 1, 1) := by decide +kernel
theorem dX7_effect_60 : decode cX7_effect 60 = .ok (.iload_n 2, 1) := by decide +kernel
theorem dX7_effect_61 : decode cX7_effect 61 = .ok (.aload_n 0, 1) := by decide +kernel
theorem dX7_effect_62 : decode cX7_effect 62 = .ok (.getfield 23, 3) := by decide +kernel
theorem dX7_effect_65 : decode cX7_effect 65 = .ok (.invokevirtual 215, 3) := by decide +kernel
theorem dX7_effect_68 : decode cX7_effect 68 = .ok (.ifCond .ne 6, 3) := by decide +kernel
theorem dX7_effect_71 : decode cX7_effect 71 = .ok (.bipush (-5), 2) := by decide +kernel
theorem dX7_effect_73 : decode cX7_effect 73 = .ok (.ireturn, 1) := by decide +kernel
theorem dX7_effect_74 : decode cX7_effect 74 = .ok (.aload_n 0, 1) := by decide +kernel
theorem dX7_effect_75 : decode cX7_effect 75 = .ok (.getfield 18, 3) := by decide +kernel
theorem dX7_effect_78 : decode cX7_effect 78 = .ok (.iload_n 3, 1) := by decide +kernel
theorem dX7_effect_79 : decode cX7_effect 79 = .ok (.aaload, 1) := by decide +kernel
theorem dX7_effect_80 : decode cX7_effect 80 = .ok (.aload_n 0, 1) := by decide +kernel
theorem dX7_effect_81 : decode cX7_effect 81 = .ok (.getfield 23, 3) := by decide +kernel
theorem dX7_effect_84 : decode cX7_effect 84 = .ok (.invokevirtual 211, 3) := by decide +kernel
theorem dX7_effect_87 : decode cX7_effect 87 = .ok (.iconst 1, 1) := by decide +kernel
theorem dX7_effect_88 : decode cX7_effect 88 = .ok (.ireturn, 1) := by decide +kernel
theorem dX7_fewest_0 : decode cX7_fewest 0 = .ok (.iload_n 1, 1) := by decide +kernel
theorem dX7_fewest_1 : decode cX7_fewest 1 = .ok (.iconst 2, 1) := by decide +kernel
theorem dX7_fewest_2 : decode cX7_fewest 2 = .ok (.invokestatic 65, 3) := by decide +kernel
theorem dX7_fewest_5 : decode cX7_fewest 5 = .ok (.ifCond .ne 19, 3) := by decide +kernel
theorem dX7_fewest_8 : decode cX7_fewest 8 = .ok (.iload_n 2, 1) := by decide +kernel
theorem dX7_fewest_9 : decode cX7_fewest 9 = .ok (.iconst 5, 1) := by decide +kernel
theorem dX7_fewest_10 : decode cX7_fewest 10 = .ok (.invokestatic 65, 3) := by decide +kernel
theorem dX7_fewest_13 : decode cX7_fewest 13 = .ok (.ifCond .ne 11, 3) := by decide +kernel
theorem dX7_fewest_16 : decode cX7_fewest 16 = .ok (.iload_n 3, 1) := by decide +kernel
theorem dX7_fewest_17 : decode cX7_fewest 17 = .ok (.iconst 3, 1) := by decide +kernel
theorem dX7_fewest_18 : decode cX7_fewest 18 = .ok (.invokestatic 65, 3) := by decide +kernel
theorem dX7_fewest_21 : decode cX7_fewest 21 = .ok (.ifCond .eq 6, 3) := by decide +kernel
theorem dX7_fewest_24 : decode cX7_fewest 24 = .ok (.bipush (-2), 2) := by decide +kernel
theorem dX7_fewest_26 : decode cX7_fewest 26 = .ok (.ireturn, 1) := by decide +kernel
theorem dX7_fewest_27 : decode cX7_fewest 27 = .ok (.aload_n 0, 1) := by decide +kernel
theorem dX7_fewest_28 : decode cX7_fewest 28 = .ok (.getfield 47, 3) := by decide +kernel
theorem dX7_fewest_31 : decode cX7_fewest 31 = .ok (.aload_n 0, 1) := by decide +kernel
theorem dX7_fewest_32 : decode cX7_fewest 32 = .ok (.getfield 33, 3) := by decide +kernel
theorem dX7_fewest_35 : decode cX7_fewest 35 = .ok (.iload_n 1, 1) := by decide +kernel
theorem dX7_fewest_36 : decode cX7_fewest 36 = .ok (.iload_n 2, 1) := by decide +kernel
theorem dX7_fewest_37 : decode cX7_fewest 37 = .ok (.invokevirtual 219, 3) := by decide +kernel
theorem dX7_fewest_40 : decode cX7_fewest 40 = .ok (.aload_n 0, 1) := by decide +kernel
theorem dX7_fewest_41 : decode cX7_fewest 41 = .ok (.getfield 47, 3) := by decide +kernel
theorem dX7_fewest_44 : decode cX7_fewest 44 = .ok (.iload_n 3, 1) := by decide +kernel
theorem dX7_fewest_45 : decode cX7_fewest 45 = .ok (.invokevirtual 223, 3) := by decide +kernel
theorem dX7_fewest_48 : decode cX7_fewest 48 = .ok (.ireturn, 1) := by decide +kernel
theorem dX7_drillAll_0 : decode cX7_drillAll 0 = .ok (.iload_n 1, 1) := by decide +kernel
theorem dX7_drillAll_1 : decode cX7_drillAll 1 = .ok (.iconst 2, 1) := by decide +kernel
theorem dX7_drillAll_2 : decode cX7_drillAll 2 = .ok (.invokestatic 65, 3) := by decide +kernel
theorem dX7_drillAll_5 : decode cX7_drillAll 5 = .ok (.ifCond .ne 11, 3) := by decide +kernel
theorem dX7_drillAll_8 : decode cX7_drillAll 8 = .ok (.iload_n 2, 1) := by decide +kernel
theorem dX7_drillAll_9 : decode cX7_drillAll 9 = .ok (.iconst 5, 1) := by decide +kernel
theorem dX7_drillAll_10 : decode cX7_drillAll 10 = .ok (.invokestatic 65, 3) := by decide +kernel
theorem dX7_drillAll_13 : decode cX7_drillAll 13 = .ok (.ifCond .eq 6, 3) := by decide +kernel
theorem dX7_drillAll_16 : decode cX7_drillAll 16 = .ok (.bipush (-2), 2) := by decide +kernel
theorem dX7_drillAll_18 : decode cX7_drillAll 18 = .ok (.ireturn, 1) := by decide +kernel
theorem dX7_drillAll_19 : decode cX7_drillAll 19 = .ok (.aload_n 0, 1) := by decide +kernel
theorem dX7_drillAll_20 : decode cX7_drillAll 20 = .ok (.getfield 47, 3) := by decide +kernel
theorem dX7_drillAll_23 : decode cX7_drillAll 23 = .ok (.aload_n 0, 1) := by decide +kernel
theorem dX7_drillAll_24 : decode cX7_drillAll 24 = .ok (.getfield 33, 3) := by decide +kernel
theorem dX7_drillAll_27 : decode cX7_drillAll 27 = .ok (.iload_n 1, 1) := by decide +kernel
theorem dX7_drillAll_28 : decode cX7_drillAll 28 = .ok (.iload_n 2, 1) := by decide +kernel
theorem dX7_drillAll_29 : decode cX7_drillAll 29 = .ok (.invokevirtual 219, 3) := by decide +kernel
theorem dX7_drillAll_32 : decode cX7_drillAll 32 = .ok (.aload_n 0, 1) := by decide +kernel
theorem dX7_drillAll_33 : decode cX7_drillAll 33 = .ok (.getfield 47, 3) := by decide +kernel
theorem dX7_drillAll_36 : decode cX7_drillAll 36 = .ok (.iconst 0, 1) := by decide +kernel
theorem dX7_drillAll_37 : decode cX7_drillAll 37 = .ok (.invokevirtual 223, 3) := by decide +kernel
theorem dX7_drillAll_40 : decode cX7_drillAll 40 = .ok (.istore_n 3, 1) := by decide +kernel
theorem dX7_drillAll_41 : decode cX7_drillAll 41 = .ok (.iload_n 3, 1) := by decide +kernel
theorem dX7_drillAll_42 : decode cX7_drillAll 42 = .ok (.iconst (-1), 1) := by decide +kernel
theorem dX7_drillAll_43 : decode cX7_drillAll 43 = .ok (.if_icmp .ne 6, 3) := by decide +kernel
theorem dX7_drillAll_46 : decode cX7_drillAll 46 = .ok (.bipush (-3), 2) := by decide +kernel
theorem dX7_drillAll_48 : decode cX7_drillAll 48 = .ok (.ireturn, 1) := by decide +kernel
theorem dX7_drillAll_49 : decode cX7_drillAll 49 = .ok (.iconst 0, 1) := by decide +kernel
theorem dX7_drillAll_50 : decode cX7_drillAll 50 = .ok (.istore 4, 2) := by decide +kernel
theorem dX7_drillAll_52 : decode cX7_drillAll 52 = .ok (.iload 4, 2) := by decide +kernel
theorem dX7_drillAll_54 : decode cX7_drillAll 54 = .ok (.iload_n 3, 1) := by decide +kernel
theorem dX7_drillAll_55 : decode cX7_drillAll 55 = .ok (.if_icmp .ge 32, 3) := by decide +kernel
theorem dX7_drillAll_58 : decode cX7_drillAll 58 = .ok (.aload_n 0, 1) := by decide +kernel
theorem dX7_drillAll_59 : decode cX7_drillAll 59 = .ok (.iload_n 1, 1) := by decide +kernel
theorem dX7_drillAll_60 : decode cX7_drillAll 60 = .ok (.aload_n 0, 1) := by decide +kernel
theorem dX7_drillAll_61 : decode cX7_drillAll 61 = .ok (.getfield 47, 3) := by decide +kernel
theorem dX7_drillAll_64 : decode cX7_drillAll 64 = .ok (.iload 4, 2) := by decide +kernel
theorem dX7_drillAll_66 : decode cX7_drillAll 66 = .ok (.invokevirtual 226, 3) := by decide +kernel
theorem dX7_drillAll_69 : decode cX7_drillAll 69 = .ok (.aload_n 0, 1) := by decide +kernel
theorem dX7_drillAll_70 : decode cX7_drillAll 70 = .ok (.getfield 47, 3) := by decide +kernel
theorem dX7_drillAll_73 : decode cX7_drillAll 73 = .ok (.iload 4, 2) := by decide +kernel
theorem dX7_drillAll_75 : decode cX7_drillAll 75 = .ok (.invokevirtual 229, 3) := by decide +kernel
theorem dX7_drillAll_78 : decode cX7_drillAll 78 = .ok (.invokevirtual 143, 3) := by decide +kernel
theorem dX7_drillAll_81 : decode cX7_drillAll 81 = .ok (.iinc 4 1, 3) := by decide +kernel
theorem dX7_drillAll_84 : decode cX7_drillAll 84 = .ok (.goto (-32), 3) := by decide +kernel
theorem dX7_drillAll_87 : decode cX7_drillAll 87 = .ok (.iload_n 3, 1) := by decide +kernel
theorem dX7_drillAll_88 : decode cX7_drillAll 88 = .ok (.ireturn, 1) := by decide +kernel
theorem dX7_count_0 : decode cX7_count 0 = .ok (.iload_n 1, 1) := by decide +kernel
theorem dX7_count_1 : decode cX7_count 1 = .ok (.tableswitch 125 0 8 #[51, 59, 59, 70, 78, 78, 101, 109, 117], 51) := by decide +kernel
theorem dX7_count_52 : decode cX7_count 52 = .ok (.aload_n 0, 1) := by decide +kernel
theorem dX7_count_53 : decode cX7_count 53 = .ok (.getfield 33, 3) := by decide +kernel
theorem dX7_count_56 : decode cX7_count 56 = .ok (.invokevirtual 126, 3) := by decide +kernel
theorem dX7_count_59 : decode cX7_count 59 = .ok (.ireturn, 1) := by decide +kernel
theorem dX7_count_60 : decode cX7_count 60 = .ok (.aload_n 0, 1) := by decide +kernel
theorem dX7_count_61 : decode cX7_count 61 = .ok (.getfield 33, 3) := by decide +kernel
theorem dX7_count_64 : decode cX7_count 64 = .ok (.iload_n 1, 1) := by decide +kernel
theorem dX7_count_65 : decode cX7_count 65 = .ok (.iconst 1, 1) := by decide +kernel
theorem dX7_count_66 : decode cX7_count 66 = .ok (.isub, 1) := by decide +kernel
theorem dX7_count_67 : decode cX7_count 67 = .ok (.invokevirtual 146, 3) := by decide +kernel
theorem dX7_count_70 : decode cX7_count 70 = .ok (.ireturn, 1) := by decide +kernel
theorem dX7_count_71 : decode cX7_count 71 = .ok (.aload_n 0, 1) := by decide +kernel
theorem dX7_count_72 : decode cX7_count 72 = .ok (.getfield 40, 3) := by decide +kernel
theorem dX7_count_75 : decode cX7_count 75 = .ok (.invokevirtual 197, 3) := by decide +kernel
theorem dX7_count_78 : decode cX7_count 78 = .ok (.ireturn, 1) := by decide +kernel
theorem dX7_count_79 : decode cX7_count 79 = .ok (.aload_n 0, 1) := by decide +kernel
theorem dX7_count_80 : decode cX7_count 80 = .ok (.getfield 47, 3) := by decide +kernel
theorem dX7_count_83 : decode cX7_count 83 = .ok (.aload_n 0, 1) := by decide +kernel
theorem dX7_count_84 : decode cX7_count 84 = .ok (.getfield 33, 3) := by decide +kernel
theorem dX7_count_87 : decode cX7_count 87 = .ok (.iload_n 1, 1) := by decide +kernel
theorem dX7_count_88 : decode cX7_count 88 = .ok (.iconst 4, 1) := by decide +kernel
theorem dX7_count_89 : decode cX7_count 89 = .ok (.isub, 1) := by decide +kernel
theorem dX7_count_90 : decode cX7_count 90 = .ok (.invokevirtual 181, 3) := by decide +kernel
theorem dX7_count_93 : decode cX7_count 93 = .ok (.ifCond .eq 7, 3) := by decide +kernel
theorem dX7_count_96 : decode cX7_count 96 = .ok (.iconst 1, 1) := by decide +kernel
theorem dX7_count_97 : decode cX7_count 97 = .ok (.goto 4, 3) := by decide +kernel
theorem dX7_count_100 : decode cX7_count 100 = .ok (.iconst 0, 1) := by decide +kernel
theorem dX7_count_101 : decode cX7_count 101 = .ok (.ireturn, 1) := by decide +kernel
theorem dX7_count_102 : decode cX7_count 102 = .ok (.aload_n 0, 1) := by decide +kernel
theorem dX7_count_103 : decode cX7_count 103 = .ok (.getfield 33, 3) := by decide +kernel
theorem dX7_count_106 : decode cX7_count 106 = .ok (.invokevirtual 172, 3) := by decide +kernel
theorem dX7_count_109 : decode cX7_count 109 = .ok (.ireturn, 1) := by decide +kernel
theorem dX7_count_110 : decode cX7_count 110 = .ok (.aload_n 0, 1) := by decide +kernel
theorem dX7_count_111 : decode cX7_count 111 = .ok (.getfield 33, 3) := by decide +kernel
theorem dX7_count_114 : decode cX7_count 114 = .ok (.invokevirtual 165, 3) := by decide +kernel
theorem dX7_count_117 : decode cX7_count 117 = .ok (.ireturn, 1) := by decide +kernel
theorem dX7_count_118 : decode cX7_count 118 = .ok (.aload_n 0, 1) := by decide +kernel
theorem dX7_count_119 : decode cX7_count 119 = .ok (.getfield 61, 3) := by decide +kernel
theorem dX7_count_122 : decode cX7_count 122 = .ok (.invokevirtual 266, 3) := by decide +kernel
theorem dX7_count_125 : decode cX7_count 125 = .ok (.ireturn, 1) := by decide +kernel
theorem dX7_count_126 : decode cX7_count 126 = .ok (.bipush (-2), 2) := by decide +kernel
theorem dX7_count_128 : decode cX7_count 128 = .ok (.ireturn, 1) := by decide +kernel
theorem dX7_takePull_0 : decode cX7_takePull 0 = .ok (.aload_n 0, 1) := by decide +kernel
theorem dX7_takePull_1 : decode cX7_takePull 1 = .ok (.getfield 33, 3) := by decide +kernel
theorem dX7_takePull_4 : decode cX7_takePull 4 = .ok (.iload_n 1, 1) := by decide +kernel
theorem dX7_takePull_5 : decode cX7_takePull 5 = .ok (.aload_n 0, 1) := by decide +kernel
theorem dX7_takePull_6 : decode cX7_takePull 6 = .ok (.getfield 23, 3) := by decide +kernel
theorem dX7_takePull_9 : decode cX7_takePull 9 = .ok (.invokevirtual 295, 3) := by decide +kernel
theorem dX7_takePull_12 : decode cX7_takePull 12 = .ok (.aload_n 0, 1) := by decide +kernel
theorem dX7_takePull_13 : decode cX7_takePull 13 = .ok (.getfield 23, 3) := by decide +kernel
theorem dX7_takePull_16 : decode cX7_takePull 16 = .ok (.invokevirtual 73, 3) := by decide +kernel
theorem dX7_takePull_19 : decode cX7_takePull 19 = .ok (.aload_n 0, 1) := by decide +kernel
theorem dX7_takePull_20 : decode cX7_takePull 20 = .ok (.getfield 27, 3) := by decide +kernel
theorem dX7_takePull_23 : decode cX7_takePull 23 = .ok (.aload_n 0, 1) := by decide +kernel
theorem dX7_takePull_24 : decode cX7_takePull 24 = .ok (.getfield 23, 3) := by decide +kernel
theorem dX7_takePull_27 : decode cX7_takePull 27 = .ok (.invokevirtual 211, 3) := by decide +kernel
theorem dX7_takePull_30 : decode cX7_takePull 30 = .ok (.aload_n 0, 1) := by decide +kernel
theorem dX7_takePull_31 : decode cX7_takePull 31 = .ok (.getfield 27, 3) := by decide +kernel
theorem dX7_takePull_34 : decode cX7_takePull 34 = .ok (.invokevirtual 299, 3) := by decide +kernel
theorem dX7_takePull_37 : decode cX7_takePull 37 = .ok (.aload_n 0, 1) := by decide +kernel
theorem dX7_takePull_38 : decode cX7_takePull 38 = .ok (.getfield 10, 3) := by decide +kernel
theorem dX7_takePull_41 : decode cX7_takePull 41 = .ok (.aload_n 0, 1) := by decide +kernel
theorem dX7_takePull_42 : decode cX7_takePull 42 = .ok (.getfield 23, 3) := by decide +kernel
theorem dX7_takePull_45 : decode cX7_takePull 45 = .ok (.aload_n 0, 1) := by decide +kernel
theorem dX7_takePull_46 : decode cX7_takePull 46 = .ok (.getfield 27, 3) := by decide +kernel
theorem dX7_takePull_49 : decode cX7_takePull 49 = .ok (.aload_n 0, 1) := by decide +kernel
theorem dX7_takePull_50 : decode cX7_takePull 50 = .ok (.getfield 27, 3) := by decide +kernel
theorem dX7_takePull_53 : decode cX7_takePull 53 = .ok (.invokevirtual 103, 3) := by decide +kernel
theorem dX7_takePull_56 : decode cX7_takePull 56 = .ok (.pop, 1) := by decide +kernel
theorem dX7_takePull_57 : decode cX7_takePull 57 = .ok (.return_, 1) := by decide +kernel
theorem dX7_makeHole_0 : decode cX7_makeHole 0 = .ok (.aload_n 0, 1) := by decide +kernel
theorem dX7_makeHole_1 : decode cX7_makeHole 1 = .ok (.getfield 33, 3) := by decide +kernel
theorem dX7_makeHole_4 : decode cX7_makeHole 4 = .ok (.iload_n 1, 1) := by decide +kernel
theorem dX7_makeHole_5 : decode cX7_makeHole 5 = .ok (.iload_n 2, 1) := by decide +kernel
theorem dX7_makeHole_6 : decode cX7_makeHole 6 = .ok (.iload_n 3, 1) := by decide +kernel
theorem dX7_makeHole_7 : decode cX7_makeHole 7 = .ok (.invokevirtual 302, 3) := by decide +kernel
theorem dX7_makeHole_10 : decode cX7_makeHole 10 = .ok (.aload_n 0, 1) := by decide +kernel
theorem dX7_makeHole_11 : decode cX7_makeHole 11 = .ok (.getfield 40, 3) := by decide +kernel
theorem dX7_makeHole_14 : decode cX7_makeHole 14 = .ok (.invokevirtual 134, 3) := by decide +kernel
theorem dX7_makeHole_17 : decode cX7_makeHole 17 = .ok (.return_, 1) := by decide +kernel
theorem dX7_isOutside_0 : decode cX7_isOutside 0 = .ok (.iload_n 0, 1) := by decide +kernel
theorem dX7_isOutside_1 : decode cX7_isOutside 1 = .ok (.ifCond .lt 8, 3) := by decide +kernel
theorem dX7_isOutside_4 : decode cX7_isOutside 4 = .ok (.iload_n 0, 1) := by decide +kernel
theorem dX7_isOutside_5 : decode cX7_isOutside 5 = .ok (.iload_n 1, 1) := by decide +kernel
theorem dX7_isOutside_6 : decode cX7_isOutside 6 = .ok (.if_icmp .lt 7, 3) := by decide +kernel
theorem dX7_isOutside_9 : decode cX7_isOutside 9 = .ok (.iconst 1, 1) := by decide +kernel
theorem dX7_isOutside_10 : decode cX7_isOutside 10 = .ok (.goto 4, 3) := by decide +kernel
theorem dX7_isOutside_13 : decode cX7_isOutside 13 = .ok (.iconst 0, 1) := by decide +kernel
theorem dX7_isOutside_14 : decode cX7_isOutside 14 = .ok (.ireturn, 1) := by decide +kernel
theorem dX7_isNoMoment_0 : decode cX7_isNoMoment 0 = .ok (.iload_n 0, 1) := by decide +kernel
theorem dX7_isNoMoment_1 : decode cX7_isNoMoment 1 = .ok (.iconst 1, 1) := by decide +kernel
theorem dX7_isNoMoment_2 : decode cX7_isNoMoment 2 = .ok (.if_icmp .lt 9, 3) := by decide +kernel
theorem dX7_isNoMoment_5 : decode cX7_isNoMoment 5 = .ok (.iload_n 0, 1) := by decide +kernel
theorem dX7_isNoMoment_6 : decode cX7_isNoMoment 6 = .ok (.bipush 99, 2) := by decide +kernel
theorem dX7_isNoMoment_8 : decode cX7_isNoMoment 8 = .ok (.if_icmp .le 7, 3) := by decide +kernel
theorem dX7_isNoMoment_11 : decode cX7_isNoMoment 11 = .ok (.iconst 1, 1) := by decide +kernel
theorem dX7_isNoMoment_12 : decode cX7_isNoMoment 12 = .ok (.goto 4, 3) := by decide +kernel
theorem dX7_isNoMoment_15 : decode cX7_isNoMoment 15 = .ok (.iconst 0, 1) := by decide +kernel
theorem dX7_isNoMoment_16 : decode cX7_isNoMoment 16 = .ok (.ireturn, 1) := by decide +kernel
theorem dX7_asLong_0 : decode cX7_asLong 0 = .ok (.ldc2_w 305, 3) := by decide +kernel
theorem dX7_asLong_3 : decode cX7_asLong 3 = .ok (.iload_n 0, 1) := by decide +kernel
theorem dX7_asLong_4 : decode cX7_asLong 4 = .ok (.i2l, 1) := by decide +kernel
theorem dX7_asLong_5 : decode cX7_asLong 5 = .ok (.lsub, 1) := by decide +kernel
theorem dX7_asLong_6 : decode cX7_asLong 6 = .ok (.lreturn, 1) := by decide +kernel
