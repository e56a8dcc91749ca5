theorem dX8_tries_8 : decode cX8_tries 8 = .ok (.ifCond .ne 9, 3) := by decide +kernel
theorem dX8_tries_11 : decode cX8_tries 11 = .ok (.aload_n 0, 1) := by decide +kernel
theorem dX8_tries_12 : decode cX8_tries 12 = .ok (.iconst 0, 1) := by decide +kernel
theorem dX8_tries_13 : decode cX8_tries 13 = .ok (.invokevirtual 289, 3) := by decide +kernel
theorem dX8_tries_16 : decode cX8_tries 16 = .ok (.return_, 1) := by decide +kernel
theorem dX8_tries_17 : decode cX8_tries 17 = .ok (.aload_n 0, 1) := by decide +kernel
theorem dX8_tries_18 : decode cX8_tries 18 = .ok (.getfield 53, 3) := by decide +kernel
theorem dX8_tries_21 : decode cX8_tries 21 = .ok (.iconst 0, 1) := by decide +kernel
theorem dX8_tries_22 : decode cX8_tries 22 = .ok (.iconst 0, 1) := by decide +kernel
theorem dX8_tries_23 : decode cX8_tries 23 = .ok (.iastore, 1) := by decide +kernel
theorem dX8_tries_24 : decode cX8_tries 24 = .ok (.aload_n 0, 1) := by decide +kernel
theorem dX8_tries_25 : decode cX8_tries 25 = .ok (.getfield 56, 3) := by decide +kernel
theorem dX8_tries_28 : decode cX8_tries 28 = .ok (.iconst 0, 1) := by decide +kernel
theorem dX8_tries_29 : decode cX8_tries 29 = .ok (.iconst 0, 1) := by decide +kernel
theorem dX8_tries_30 : decode cX8_tries 30 = .ok (.iastore, 1) := by decide +kernel
theorem dX8_tries_31 : decode cX8_tries 31 = .ok (.iconst 0, 1) := by decide +kernel
theorem dX8_tries_32 : decode cX8_tries 32 = .ok (.istore 4, 2) := by decide +kernel
theorem dX8_tries_34 : decode cX8_tries 34 = .ok (.iload 4, 2) := by decide +kernel
theorem dX8_tries_36 : decode cX8_tries 36 = .ok (.ldc_w 292, 3) := by decide +kernel
theorem dX8_tries_39 : decode cX8_tries 39 = .ok (.if_icmp .ge 137, 3) := by decide +kernel
theorem dX8_tries_42 : decode cX8_tries 42 = .ok (.iload_n 3, 1) := by decide +kernel
theorem dX8_tries_43 : decode cX8_tries 43 = .ok (.ifCond .lt 133, 3) := by decide +kernel
theorem dX8_tries_46 : decode cX8_tries 46 = .ok (.aload_n 0, 1) := by decide +kernel
theorem dX8_tries_47 : decode cX8_tries 47 = .ok (.iload_n 1, 1) := by decide +kernel
theorem dX8_tries_48 : decode cX8_tries 48 = .ok (.iload_n 3, 1) := by decide +kernel
theorem dX8_tries_49 : decode cX8_tries 49 = .ok (.invokevirtual 293, 3) := by decide +kernel
theorem dX8_tries_52 : decode cX8_tries 52 = .ok (.ifCond .eq 90, 3) := by decide +kernel
theorem dX8_tries_55 : decode cX8_tries 55 = .ok (.aload_n 0, 1) := by decide +kernel
theorem dX8_tries_56 : decode cX8_tries 56 = .ok (.ldc2_w 199, 3) := by decide +kernel
theorem dX8_tries_59 : decode cX8_tries 59 = .ok (.aload_n 0, 1) := by decide +kernel
theorem dX8_tries_60 : decode cX8_tries 60 = .ok (.getfield 56, 3) := by decide +kernel
theorem dX8_tries_63 : decode cX8_tries 63 = .ok (.iload_n 3, 1) := by decide +kernel
theorem dX8_tries_64 : decode cX8_tries 64 = .ok (.iaload, 1) := by decide +kernel
theorem dX8_tries_65 : decode cX8_tries 65 = .ok (.i2l, 1) := by decide +kernel
theorem dX8_tries_66 : decode cX8_tries 66 = .ok (.lmul, 1) := by decide +kernel
theorem dX8_tries_67 : decode cX8_tries 67 = .ok (.aload_n 0, 1) := by decide +kernel
theorem dX8_tries_68 : decode cX8_tries 68 = .ok (.getfield 53, 3) := by decide +kernel
theorem dX8_tries_71 : decode cX8_tries 71 = .ok (.iload_n 3, 1) := by decide +kernel
theorem dX8_tries_72 : decode cX8_tries 72 = .ok (.iaload, 1) := by decide +kernel
theorem dX8_tries_73 : decode cX8_tries 73 = .ok (.invokevirtual 195, 3) := by decide +kernel
theorem dX8_tries_76 : decode cX8_tries 76 = .ok (.iload_n 3, 1) := by decide +kernel
theorem dX8_tries_77 : decode cX8_tries 77 = .ok (.iload_n 2, 1) := by decide +kernel
theorem dX8_tries_78 : decode cX8_tries 78 = .ok (.iconst 1, 1) := by decide +kernel
theorem dX8_tries_79 : decode cX8_tries 79 = .ok (.isub, 1) := by decide +kernel
theorem dX8_tries_80 : decode cX8_tries 80 = .ok (.if_icmp .ne 32, 3) := by decide +kernel
theorem dX8_tries_83 : decode cX8_tries 83 = .ok (.aload_n 0, 1) := by decide +kernel
theorem dX8_tries_84 : decode cX8_tries 84 = .ok (.iload_n 2, 1) := by decide +kernel
theorem dX8_tries_85 : decode cX8_tries 85 = .ok (.invokevirtual 289, 3) := by decide +kernel
theorem dX8_tries_88 : decode cX8_tries 88 = .ok (.aload_n 0, 1) := by decide +kernel
theorem dX8_tries_89 : decode cX8_tries 89 = .ok (.ldc2_w 221, 3) := by decide +kernel
theorem dX8_tries_92 : decode cX8_tries 92 = .ok (.aload_n 0, 1) := by decide +kernel
theorem dX8_tries_93 : decode cX8_tries 93 = .ok (.getfield 56, 3) := by decide +kernel
theorem dX8_tries_96 : decode cX8_tries 96 = .ok (.iload_n 3, 1) := by decide +kernel
theorem dX8_tries_97 : decode cX8_tries 97 = .ok (.iaload, 1) := by decide +kernel
theorem dX8_tries_98 : decode cX8_tries 98 = .ok (.i2l, 1) := by decide +kernel
theorem dX8_tries_99 : decode cX8_tries 99 = .ok (.lmul, 1) := by decide +kernel
theorem dX8_tries_100 : decode cX8_tries 100 = .ok (.aload_n 0, 1) := by decide +kernel
theorem dX8_tries_101 : decode cX8_tries 101 = .ok (.getfield 53, 3) := by decide +kernel
theorem dX8_tries_104 : decode cX8_tries 104 = .ok (.iload_n 3, 1) := by decide +kernel
theorem dX8_tries_105 : decode cX8_tries 105 = .ok (.iaload, 1) := by decide +kernel
theorem dX8_tries_106 : decode cX8_tries 106 = .ok (.invokevirtual 195, 3) := by decide +kernel
theorem dX8_tries_109 : decode cX8_tries 109 = .ok (.goto 61, 3) := by decide +kernel
theorem dX8_tries_112 : decode cX8_tries 112 = .ok (.aload_n 0, 1) := by decide +kernel
theorem dX8_tries_113 : decode cX8_tries 113 = .ok (.getfield 53, 3) := by decide +kernel
theorem dX8_tries_116 : decode cX8_tries 116 = .ok (.iload_n 3, 1) := by decide +kernel
theorem dX8_tries_117 : decode cX8_tries 117 = .ok (.iconst 1, 1) := by decide +kernel
theorem dX8_tries_118 : decode cX8_tries 118 = .ok (.iadd, 1) := by decide +kernel
theorem dX8_tries_119 : decode cX8_tries 119 = .ok (.aload_n 0, 1) := by decide +kernel
theorem dX8_tries_120 : decode cX8_tries 120 = .ok (.getfield 53, 3) := by decide +kernel
theorem dX8_tries_123 : decode cX8_tries 123 = .ok (.iload_n 3, 1) := by decide +kernel
theorem dX8_tries_124 : decode cX8_tries 124 = .ok (.iaload, 1) := by decide +kernel
theorem dX8_tries_125 : decode cX8_tries 125 = .ok (.iastore, 1) := by decide +kernel
theorem dX8_tries_126 : decode cX8_tries 126 = .ok (.aload_n 0, 1) := by decide +kernel
theorem dX8_tries_127 : decode cX8_tries 127 = .ok (.getfield 56, 3) := by decide +kernel
theorem dX8_tries_130 : decode cX8_tries 130 = .ok (.iload_n 3, 1) := by decide +kernel
theorem dX8_tries_131 : decode cX8_tries 131 = .ok (.iconst 1, 1) := by decide +kernel
theorem dX8_tries_132 : decode cX8_tries 132 = .ok (.iadd, 1) := by decide +kernel
theorem dX8_tries_133 : decode cX8_tries 133 = .ok (.bipush 9, 2) := by decide +kernel
theorem dX8_tries_135 : decode cX8_tries 135 = .ok (.iastore, 1) := by decide +kernel
theorem dX8_tries_136 : decode cX8_tries 136 = .ok (.iinc 3 1, 3) := by decide +kernel
theorem dX8_tries_139 : decode cX8_tries 139 = .ok (.goto 31, 3) := by decide +kernel
theorem dX8_tries_142 : decode cX8_tries 142 = .ok (.iinc 3 (-1), 3) := by decide +kernel
theorem dX8_tries_145 : decode cX8_tries 145 = .ok (.iload_n 3, 1) := by decide +kernel
theorem dX8_tries_146 : decode cX8_tries 146 = .ok (.ifCond .lt 24, 3) := by decide +kernel
theorem dX8_tries_149 : decode cX8_tries 149 = .ok (.aload_n 0, 1) := by decide +kernel
theorem dX8_tries_150 : decode cX8_tries 150 = .ok (.ldc2_w 221, 3) := by decide +kernel
theorem dX8_tries_153 : decode cX8_tries 153 = .ok (.aload_n 0, 1) := by decide +kernel
theorem dX8_tries_154 : decode cX8_tries 154 = .ok (.getfield 56, 3) := by decide +kernel
theorem dX8_tries_157 : decode cX8_tries 157 = .ok (.iload_n 3, 1) := by decide +kernel
theorem dX8_tries_158 : decode cX8_tries 158 = .ok (.iaload, 1) := by decide +kernel
theorem dX8_tries_159 : decode cX8_tries 159 = .ok (.i2l, 1) := by decide +kernel
theorem dX8_tries_160 : decode cX8_tries 160 = .ok (.lmul, 1) := by decide +kernel
theorem dX8_tries_161 : decode cX8_tries 161 = .ok (.aload_n 0, 1) := by decide +kernel
theorem dX8_tries_162 : decode cX8_tries 162 = .ok (.getfield 53, 3) := by decide +kernel
theorem dX8_tries_165 : decode cX8_tries 165 = .ok (.iload_n 3, 1) := by decide +kernel
theorem dX8_tries_166 : decode cX8_tries 166 = .ok (.iaload, 1) := by decide +kernel
theorem dX8_tries_167 : decode cX8_tries 167 = .ok (.invokevirtual 195, 3) := by decide +kernel
theorem dX8_tries_170 : decode cX8_tries 170 = .ok (.iinc 4 1, 3) := by decide +kernel
theorem dX8_tries_173 : decode cX8_tries 173 = .ok (.goto (-139), 3) := by decide +kernel
theorem dX8_tries_176 : decode cX8_tries 176 = .ok (.return_, 1) := by decide +kernel
theorem dX8_searches_0 : decode cX8_searches 0 = .ok (.aload_n 0, 1) := by decide +kernel
theorem dX8_searches_1 : decode cX8_searches 1 = .ok (.iconst (-1), 1) := by decide +kernel
theorem dX8_searches_2 : decode cX8_searches 2 = .ok (.putfield 279, 3) := by decide +kernel
theorem dX8_searches_5 : decode cX8_searches 5 = .ok (.iconst 0, 1) := by decide +kernel
theorem dX8_searches_6 : decode cX8_searches 6 = .ok (.istore_n 3, 1) := by decide +kernel
theorem dX8_searches_7 : decode cX8_searches 7 = .ok (.iload_n 3, 1) := by decide +kernel
theorem dX8_searches_8 : decode cX8_searches 8 = .ok (.iload_n 2, 1) := by decide +kernel
theorem dX8_searches_9 : decode cX8_searches 9 = .ok (.if_icmp .gt 23, 3) := by decide +kernel
theorem dX8_searches_12 : decode cX8_searches 12 = .ok (.aload_n 0, 1) := by decide +kernel
theorem dX8_searches_13 : decode cX8_searches 13 = .ok (.getfield 279, 3) := by decide +kernel
theorem dX8_searches_16 : decode cX8_searches 16 = .ok (.iconst (-1), 1) := by decide +kernel
theorem dX8_searches_17 : decode cX8_searches 17 = .ok (.if_icmp .ne 15, 3) := by decide +kernel
theorem dX8_searches_20 : decode cX8_searches 20 = .ok (.aload_n 0, 1) := by decide +kernel
theorem dX8_searches_21 : decode cX8_searches 21 = .ok (.iload_n 1, 1) := by decide +kernel
theorem dX8_searches_22 : decode cX8_searches 22 = .ok (.iload_n 3, 1) := by decide +kernel
theorem dX8_searches_23 : decode cX8_searches 23 = .ok (.invokevirtual 296, 3) := by decide +kernel
theorem dX8_searches_26 : decode cX8_searches 26 = .ok (.iinc 3 1, 3) := by decide +kernel
theorem dX8_searches_29 : decode cX8_searches 29 = .ok (.goto (-22), 3) := by decide +kernel
theorem dX8_searches_32 : decode cX8_searches 32 = .ok (.return_, 1) := by decide +kernel
theorem dX8_fewestBy_0 : decode cX8_fewestBy 0 = .ok (.aload_n 0, 1) := by decide +kernel
theorem dX8_fewestBy_1 : decode cX8_fewestBy 1 = .ok (.iload_n 1, 1) := by decide +kernel
theorem dX8_fewestBy_2 : decode cX8_fewestBy 2 = .ok (.iload_n 2, 1) := by decide +kernel
theorem dX8_fewestBy_3 : decode cX8_fewestBy 3 = .ok (.invokevirtual 299, 3) := by decide +kernel
theorem dX8_fewestBy_6 : decode cX8_fewestBy 6 = .ok (.iconst 0, 1) := by decide +kernel
theorem dX8_fewestBy_7 : decode cX8_fewestBy 7 = .ok (.istore 4, 2) := by decide +kernel
theorem dX8_fewestBy_9 : decode cX8_fewestBy 9 = .ok (.iconst 0, 1) := by decide +kernel
theorem dX8_fewestBy_10 : decode cX8_fewestBy 10 = .ok (.istore 5, 2) := by decide +kernel
theorem dX8_fewestBy_12 : decode cX8_fewestBy 12 = .ok (.iconst 0, 1) := by decide +kernel
theorem dX8_fewestBy_13 : decode cX8_fewestBy 13 = .ok (.istore 6, 2) := by decide +kernel
theorem dX8_fewestBy_15 : decode cX8_fewestBy 15 = .ok (.iload 6, 2) := by decide +kernel
theorem dX8_fewestBy_17 : decode cX8_fewestBy 17 = .ok (.aload_n 0, 1) := by decide +kernel
theorem dX8_fewestBy_18 : decode cX8_fewestBy 18 = .ok (.getfield 279, 3) := by decide +kernel
theorem dX8_fewestBy_21 : decode cX8_fewestBy 21 = .ok (.if_icmp .ge 38, 3) := by decide +kernel
theorem dX8_fewestBy_24 : decode cX8_fewestBy 24 = .ok (.iload 4, 2) := by decide +kernel
theorem dX8_fewestBy_26 : decode cX8_fewestBy 26 = .ok (.iconst 1, 1) := by decide +kernel
theorem dX8_fewestBy_27 : decode cX8_fewestBy 27 = .ok (.aload_n 0, 1) := by decide +kernel
theorem dX8_fewestBy_28 : decode cX8_fewestBy 28 = .ok (.getfield 59, 3) := by decide +kernel
theorem dX8_fewestBy_31 : decode cX8_fewestBy 31 = .ok (.iload 6, 2) := by decide +kernel
theorem dX8_fewestBy_33 : decode cX8_fewestBy 33 = .ok (.iaload, 1) := by decide +kernel
theorem dX8_fewestBy_34 : decode cX8_fewestBy 34 = .ok (.ishl, 1) := by decide +kernel
theorem dX8_fewestBy_35 : decode cX8_fewestBy 35 = .ok (.ior, 1) := by decide +kernel
theorem dX8_fewestBy_36 : decode cX8_fewestBy 36 = .ok (.istore 4, 2) := by decide +kernel
theorem dX8_fewestBy_38 : decode cX8_fewestBy 38 = .ok (.bipush 10, 2) := by decide +kernel
theorem dX8_fewestBy_40 : decode cX8_fewestBy 40 = .ok (.iload 5, 2) := by decide +kernel
theorem dX8_fewestBy_42 : decode cX8_fewestBy 42 = .ok (.imul, 1) := by decide +kernel
theorem dX8_fewestBy_43 : decode cX8_fewestBy 43 = .ok (.aload_n 0, 1) := by decide +kernel
theorem dX8_fewestBy_44 : decode cX8_fewestBy 44 = .ok (.getfield 62, 3) := by decide +kernel
theorem dX8_fewestBy_47 : decode cX8_fewestBy 47 = .ok (.iload 6, 2) := by decide +kernel
theorem dX8_fewestBy_49 : decode cX8_fewestBy 49 = .ok (.iaload, 1) := by decide +kernel
theorem dX8_fewestBy_50 : decode cX8_fewestBy 50 = .ok (.iadd, 1) := by decide +kernel
theorem dX8_fewestBy_51 : decode cX8_fewestBy 51 = .ok (.istore 5, 2) := by decide +kernel
theorem dX8_fewestBy_53 : decode cX8_fewestBy 53 = .ok (.iinc 6 1, 3) := by decide +kernel
theorem dX8_fewestBy_56 : decode cX8_fewestBy 56 = .ok (.goto (-41), 3) := by decide +kernel
theorem dX8_fewestBy_59 : decode cX8_fewestBy 59 = .ok (.iload_n 3, 1) := by decide +kernel
theorem dX8_fewestBy_60 : decode cX8_fewestBy 60 = .ok (.ifCond .ne 10, 3) := by decide +kernel
theorem dX8_fewestBy_63 : decode cX8_fewestBy 63 = .ok (.aload_n 0, 1) := by decide +kernel
theorem dX8_fewestBy_64 : decode cX8_fewestBy 64 = .ok (.getfield 279, 3) := by decide +kernel
theorem dX8_fewestBy_67 : decode cX8_fewestBy 67 = .ok (.goto 15, 3) := by decide +kernel
theorem dX8_fewestBy_70 : decode cX8_fewestBy 70 = .ok (.iload_n 3, 1) := by decide +kernel
theorem dX8_fewestBy_71 : decode cX8_fewestBy 71 = .ok (.iconst 1, 1) := by decide +kernel
theorem dX8_fewestBy_72 : decode cX8_fewestBy 72 = .ok (.if_icmp .ne 8, 3) := by decide +kernel
theorem dX8_fewestBy_75 : decode cX8_fewestBy 75 = .ok (.iload 4, 2) := by decide +kernel
theorem dX8_fewestBy_77 : decode cX8_fewestBy 77 = .ok (.goto 5, 3) := by decide +kernel
theorem dX8_fewestBy_80 : decode cX8_fewestBy 80 = .ok (.iload 5, 2) := by decide +kernel
theorem dX8_fewestBy_82 : decode cX8_fewestBy 82 = .ok (.ireturn, 1) := by decide +kernel
theorem dX8_fewest_0 : decode cX8_fewest 0 = .ok (.iload_n 1, 1) := by decide +kernel
theorem dX8_fewest_1 : decode cX8_fewest 1 = .ok (.invokestatic 226, 3) := by decide +kernel
theorem dX8_fewest_4 : decode cX8_fewest 4 = .ok (.ifCond .eq 37, 3) := by decide +kernel
theorem dX8_fewest_7 : decode cX8_fewest 7 = .ok (.iload_n 2, 1) := by decide +kernel
theorem dX8_fewest_8 : decode cX8_fewest 8 = .ok (.i2l, 1) := by decide +kernel
theorem dX8_fewest_9 : decode cX8_fewest 9 = .ok (.lconst 0, 1) := by decide +kernel
theorem dX8_fewest_10 : decode cX8_fewest 10 = .ok (.ldc2_w 165, 3) := by decide +kernel
theorem dX8_fewest_13 : decode cX8_fewest 13 = .ok (.invokestatic 72, 3) := by decide +kernel
theorem dX8_fewest_16 : decode cX8_fewest 16 = .ok (.ifCond .eq 25, 3) := by decide +kernel
theorem dX8_fewest_19 : decode cX8_fewest 19 = .ok (.iload_n 3, 1) := by decide +kernel
theorem dX8_fewest_20 : decode cX8_fewest 20 = .ok (.i2l, 1) := by decide +kernel
theorem dX8_fewest_21 : decode cX8_fewest 21 = .ok (.lconst 0, 1) := by decide +kernel
theorem dX8_fewest_22 : decode cX8_fewest 22 = .ok (.ldc2_w 201, 3) := by decide +kernel
theorem dX8_fewest_25 : decode cX8_fewest 25 = .ok (.invokestatic 72, 3) := by decide +kernel
theorem dX8_fewest_28 : decode cX8_fewest 28 = .ok (.ifCond .eq 13, 3) := by decide +kernel
theorem dX8_fewest_31 : decode cX8_fewest 31 = .ok (.aload_n 0, 1) := by decide +kernel
theorem dX8_fewest_32 : decode cX8_fewest 32 = .ok (.iload_n 1, 1) := by decide +kernel
theorem dX8_fewest_33 : decode cX8_fewest 33 = .ok (.iload_n 2, 1) := by decide +kernel
theorem dX8_fewest_34 : decode cX8_fewest 34 = .ok (.iload_n 3, 1) := by decide +kernel
theorem dX8_fewest_35 : decode cX8_fewest 35 = .ok (.invokevirtual 302, 3) := by decide +kernel
theorem dX8_fewest_38 : decode cX8_fewest 38 = .ok (.goto 5, 3) := by decide +kernel
theorem dX8_fewest_41 : decode cX8_fewest 41 = .ok (.bipush (-2), 2) := by decide +kernel
theorem dX8_fewest_43 : decode cX8_fewest 43 = .ok (.ireturn, 1) := by decide +kernel
theorem dX8_drillAll_0 : decode cX8_drillAll 0 = .ok (.iload_n 1, 1) := by decide +kernel
theorem dX8_drillAll_1 : decode cX8_drillAll 1 = .ok (.invokestatic 226, 3) := by decide +kernel
theorem dX8_drillAll_4 : decode cX8_drillAll 4 = .ok (.ifCond .eq 15, 3) := by decide +kernel
theorem dX8_drillAll_7 : decode cX8_drillAll 7 = .ok (.iload_n 2, 1) := by decide +kernel
theorem dX8_drillAll_8 : decode cX8_drillAll 8 = .ok (.i2l, 1) := by decide +kernel
theorem dX8_drillAll_9 : decode cX8_drillAll 9 = .ok (.lconst 0, 1) := by decide +kernel
theorem dX8_drillAll_10 : decode cX8_drillAll 10 = .ok (.ldc2_w 165, 3) := by decide +kernel
theorem dX8_drillAll_13 : decode cX8_drillAll 13 = .ok (.invokestatic 72, 3) := by decide +kernel
theorem dX8_drillAll_16 : decode cX8_drillAll 16 = .ok (.ifCond .ne 6, 3) := by decide +kernel
theorem dX8_drillAll_19 : decode cX8_drillAll 19 = .ok (.bipush (-2), 2) := by decide +kernel
theorem dX8_drillAll_21 : decode cX8_drillAll 21 = .ok (.ireturn, 1) := by decide +kernel
theorem dX8_drillAll_22 : decode cX8_drillAll 22 = .ok (.aload_n 0, 1) := by decide +kernel
theorem dX8_drillAll_23 : decode cX8_drillAll 23 = .ok (.iload_n 1, 1) := by decide +kernel
theorem dX8_drillAll_24 : decode cX8_drillAll 24 = .ok (.iload_n 2, 1) := by decide +kernel
theorem dX8_drillAll_25 : decode cX8_drillAll 25 = .ok (.invokevirtual 299, 3) := by decide +kernel
theorem dX8_drillAll_28 : decode cX8_drillAll 28 = .ok (.aload_n 0, 1) := by decide +kernel
theorem dX8_drillAll_29 : decode cX8_drillAll 29 = .ok (.getfield 279, 3) := by decide +kernel
theorem dX8_drillAll_32 : decode cX8_drillAll 32 = .ok (.iconst (-1), 1) := by decide +kernel
theorem dX8_drillAll_33 : decode cX8_drillAll 33 = .ok (.if_icmp .ne 6, 3) := by decide +kernel
theorem dX8_drillAll_36 : decode cX8_drillAll 36 = .ok (.bipush (-3), 2) := by decide +kernel
theorem dX8_drillAll_38 : decode cX8_drillAll 38 = .ok (.ireturn, 1) := by decide +kernel
theorem dX8_drillAll_39 : decode cX8_drillAll 39 = .ok (.iconst 0, 1) := by decide +kernel
theorem dX8_drillAll_40 : decode cX8_drillAll 40 = .ok (.istore_n 3, 1) := by decide +kernel
theorem dX8_drillAll_41 : decode cX8_drillAll 41 = .ok (.iload_n 3, 1) := by decide +kernel
theorem dX8_drillAll_42 : decode cX8_drillAll 42 = .ok (.aload_n 0, 1) := by decide +kernel
theorem dX8_drillAll_43 : decode cX8_drillAll 43 = .ok (.getfield 279, 3) := by decide +kernel
theorem dX8_drillAll_46 : decode cX8_drillAll 46 = .ok (.if_icmp .ge 35, 3) := by decide +kernel
theorem dX8_drillAll_49 : decode cX8_drillAll 49 = .ok (.aload_n 0, 1) := by decide +kernel
theorem dX8_drillAll_50 : decode cX8_drillAll 50 = .ok (.getfield 32, 3) := by decide +kernel
theorem dX8_drillAll_53 : decode cX8_drillAll 53 = .ok (.bipush 12, 2) := by decide +kernel
theorem dX8_drillAll_55 : decode cX8_drillAll 55 = .ok (.iload_n 1, 1) := by decide +kernel
theorem dX8_drillAll_56 : decode cX8_drillAll 56 = .ok (.imul, 1) := by decide +kernel
theorem dX8_drillAll_57 : decode cX8_drillAll 57 = .ok (.aload_n 0, 1) := by decide +kernel
theorem dX8_drillAll_58 : decode cX8_drillAll 58 = .ok (.getfield 59, 3) := by decide +kernel
theorem dX8_drillAll_61 : decode cX8_drillAll 61 = .ok (.iload_n 3, 1) := by decide +kernel
theorem dX8_drillAll_62 : decode cX8_drillAll 62 = .ok (.iaload, 1) := by decide +kernel
theorem dX8_drillAll_63 : decode cX8_drillAll 63 = .ok (.iadd, 1) := by decide +kernel
theorem dX8_drillAll_64 : decode cX8_drillAll 64 = .ok (.aload_n 0, 1) := by decide +kernel
theorem dX8_drillAll_65 : decode cX8_drillAll 65 = .ok (.getfield 62, 3) := by decide +kernel
theorem dX8_drillAll_68 : decode cX8_drillAll 68 = .ok (.iload_n 3, 1) := by decide +kernel
theorem dX8_drillAll_69 : decode cX8_drillAll 69 = .ok (.iaload, 1) := by decide +kernel
theorem dX8_drillAll_70 : decode cX8_drillAll 70 = .ok (.iastore, 1) := by decide +kernel
theorem dX8_drillAll_71 : decode cX8_drillAll 71 = .ok (.aload_n 0, 1) := by decide +kernel
theorem dX8_drillAll_72 : decode cX8_drillAll 72 = .ok (.invokevirtual 223, 3) := by decide +kernel
theorem dX8_drillAll_75 : decode cX8_drillAll 75 = .ok (.iinc 3 1, 3) := by decide +kernel
theorem dX8_drillAll_78 : decode cX8_drillAll 78 = .ok (.goto (-37), 3) := by decide +kernel
theorem dX8_drillAll_81 : decode cX8_drillAll 81 = .ok (.aload_n 0, 1) := by decide +kernel
theorem dX8_drillAll_82 : decode cX8_drillAll 82 = .ok (.getfield 279, 3) := by decide +kernel
theorem dX8_drillAll_85 : decode cX8_drillAll 85 = .ok (.ireturn, 1) := by decide +kernel
theorem dX8_far_0 : decode cX8_far 0 = .ok (.iconst 1, 1) := by decide +kernel
theorem dX8_far_1 : decode cX8_far 1 = .ok (.istore 4, 2) := by decide +kernel
theorem dX8_far_3 : decode cX8_far 3 = .ok (.iload 4, 2) := by decide +kernel
theorem dX8_far_5 : decode cX8_far 5 = .ok (.bipush 12, 2) := by decide +kernel
theorem dX8_far_7 : decode cX8_far 7 = .ok (.if_icmp .gt 37, 3) := by decide +kernel
theorem dX8_far_10 : decode cX8_far 10 = .ok (.aload_n 0, 1) := by decide +kernel
theorem dX8_far_11 : decode cX8_far 11 = .ok (.getfield 35, 3) := by decide +kernel
theorem dX8_far_14 : decode cX8_far 14 = .ok (.iload_n 1, 1) := by decide +kernel
theorem dX8_far_15 : decode cX8_far 15 = .ok (.iaload, 1) := by decide +kernel
theorem dX8_far_16 : decode cX8_far 16 = .ok (.iload_n 2, 1) := by decide +kernel
theorem dX8_far_17 : decode cX8_far 17 = .ok (.iload_n 3, 1) := by decide +kernel
theorem dX8_far_18 : decode cX8_far 18 = .ok (.iload 4, 2) := by decide +kernel
theorem dX8_far_20 : decode cX8_far 20 = .ok (.imul, 1) := by decide +kernel
theorem dX8_far_21 : decode cX8_far 21 = .ok (.iadd, 1) := by decide +kernel
theorem dX8_far_22 : decode cX8_far 22 = .ok (.bipush 12, 2) := by decide +kernel
theorem dX8_far_24 : decode cX8_far 24 = .ok (.iadd, 1) := by decide +kernel
theorem dX8_far_25 : decode cX8_far 25 = .ok (.bipush 12, 2) := by decide +kernel
theorem dX8_far_27 : decode cX8_far 27 = .ok (.irem, 1) := by decide +kernel
theorem dX8_far_28 : decode cX8_far 28 = .ok (.ishr, 1) := by decide +kernel
theorem dX8_far_29 : decode cX8_far 29 = .ok (.iconst 1, 1) := by decide +kernel
theorem dX8_far_30 : decode cX8_far 30 = .ok (.iand, 1) := by decide +kernel
theorem dX8_far_31 : decode cX8_far 31 = .ok (.iconst 1, 1) := by decide +kernel
theorem dX8_far_32 : decode cX8_far 32 = .ok (.if_icmp .ne 6, 3) := by decide +kernel
theorem dX8_far_35 : decode cX8_far 35 = .ok (.iload 4, 2) := by decide +kernel
theorem dX8_far_37 : decode cX8_far 37 = .ok (.ireturn, 1) := by decide +kernel
theorem dX8_far_38 : decode cX8_far 38 = .ok (.iinc 4 1, 3) := by decide +kernel
theorem dX8_far_41 : decode cX8_far 41 = .ok (.goto (-38), 3) := by decide +kernel
theorem dX8_far_44 : decode cX8_far 44 = .ok (.bipush 12, 2) := by decide +kernel
theorem dX8_far_46 : decode cX8_far 46 = .ok (.ireturn, 1) := by decide +kernel
theorem dX8_sine_0 : decode cX8_sine 0 = .ok (.iload_n 1, 1) := by decide +kernel
theorem dX8_sine_1 : decode cX8_sine 1 = .ok (.ifCond .eq 21, 3) := by decide +kernel
theorem dX8_sine_4 : decode cX8_sine 4 = .ok (.iload_n 0, 1) := by decide +kernel
theorem dX8_sine_5 : decode cX8_sine 5 = .ok (.iconst 2, 1) := by decide +kernel
theorem dX8_sine_6 : decode cX8_sine 6 = .ok (.if_icmp .eq 8, 3) := by decide +kernel
theorem dX8_sine_9 : decode cX8_sine 9 = .ok (.iload_n 0, 1) := by decide +kernel
theorem dX8_sine_10 : decode cX8_sine 10 = .ok (.iconst 4, 1) := by decide +kernel
theorem dX8_sine_11 : decode cX8_sine 11 = .ok (.if_icmp .ne 7, 3) := by decide +kernel
theorem dX8_sine_14 : decode cX8_sine 14 = .ok (.iconst 1, 1) := by decide +kernel
theorem dX8_sine_15 : decode cX8_sine 15 = .ok (.goto 31, 3) := by decide +kernel
theorem dX8_sine_18 : decode cX8_sine 18 = .ok (.iconst 0, 1) := by decide +kernel
theorem dX8_sine_19 : decode cX8_sine 19 = .ok (.goto 27, 3) := by decide +kernel
theorem dX8_sine_22 : decode cX8_sine 22 = .ok (.iload_n 0, 1) := by decide +kernel
theorem dX8_sine_23 : decode cX8_sine 23 = .ok (.iconst 3, 1) := by decide +kernel
theorem dX8_sine_24 : decode cX8_sine 24 = .ok (.if_icmp .ne 7, 3) := by decide +kernel
theorem dX8_sine_27 : decode cX8_sine 27 = .ok (.iconst 2, 1) := by decide +kernel
theorem dX8_sine_28 : decode cX8_sine 28 = .ok (.goto 18, 3) := by decide +kernel
theorem dX8_sine_31 : decode cX8_sine 31 = .ok (.iload_n 0, 1) := by decide +kernel
theorem dX8_sine_32 : decode cX8_sine 32 = .ok (.iconst 1, 1) := by decide +kernel
theorem dX8_sine_33 : decode cX8_sine 33 = .ok (.if_icmp .eq 8, 3) := by decide +kernel
theorem dX8_sine_36 : decode cX8_sine 36 = .ok (.iload_n 0, 1) := by decide +kernel
theorem dX8_sine_37 : decode cX8_sine 37 = .ok (.iconst 5, 1) := by decide +kernel
theorem dX8_sine_38 : decode cX8_sine 38 = .ok (.if_icmp .ne 7, 3) := by decide +kernel
theorem dX8_sine_41 : decode cX8_sine 41 = .ok (.iconst 1, 1) := by decide +kernel
theorem dX8_sine_42 : decode cX8_sine 42 = .ok (.goto 4, 3) := by decide +kernel
theorem dX8_sine_45 : decode cX8_sine 45 = .ok (.iconst 0, 1) := by decide +kernel
theorem dX8_sine_46 : decode cX8_sine 46 = .ok (.ireturn, 1) := by decide +kernel
theorem dX8_shares_0 : decode cX8_shares 0 = .ok (.iload_n 1, 1) := by decide +kernel
theorem dX8_shares_1 : decode cX8_shares 1 = .ok (.i2l, 1) := by decide +kernel
theorem dX8_shares_2 : decode cX8_shares 2 = .ok (.iload_n 2, 1) := by decide +kernel
theorem dX8_shares_3 : decode cX8_shares 3 = .ok (.iconst 0, 1) := by decide +kernel
theorem dX8_shares_4 : decode cX8_shares 4 = .ok (.invokestatic 306, 3) := by decide +kernel
theorem dX8_shares_7 : decode cX8_shares 7 = .ok (.i2l, 1) := by decide +kernel
theorem dX8_shares_8 : decode cX8_shares 8 = .ok (.lmul, 1) := by decide +kernel
theorem dX8_shares_9 : decode cX8_shares 9 = .ok (.lstore 4, 2) := by decide +kernel
theorem dX8_shares_11 : decode cX8_shares 11 = .ok (.iload_n 1, 1) := by decide +kernel
theorem dX8_shares_12 : decode cX8_shares 12 = .ok (.i2l, 1) := by decide +kernel
theorem dX8_shares_13 : decode cX8_shares 13 = .ok (.iload_n 2, 1) := by decide +kernel
theorem dX8_shares_14 : decode cX8_shares 14 = .ok (.iconst 1, 1) := by decide +kernel
theorem dX8_shares_15 : decode cX8_shares 15 = .ok (.invokestatic 306, 3) := by decide +kernel
theorem dX8_shares_18 : decode cX8_shares 18 = .ok (.i2l, 1) := by decide +kernel
theorem dX8_shares_19 : decode cX8_shares 19 = .ok (.lmul, 1) := by decide +kernel
theorem dX8_shares_20 : decode cX8_shares 20 = .ok (.lstore 6, 2) := by decide +kernel
theorem dX8_shares_22 : decode cX8_shares 22 = .ok (.iload_n 3, 1) := by decide +kernel
theorem dX8_shares_23 : decode cX8_shares 23 = .ok (.iconst 1, 1) := by decide +kernel
theorem dX8_shares_24 : decode cX8_shares 24 = .ok (.invokestatic 306, 3) := by decide +kernel
theorem dX8_shares_27 : decode cX8_shares 27 = .ok (.iconst 1, 1) := by decide +kernel
theorem dX8_shares_28 : decode cX8_shares 28 = .ok (.if_icmp .ne 25, 3) := by decide +kernel
theorem dX8_shares_31 : decode cX8_shares 31 = .ok (.aload_n 0, 1) := by decide +kernel
theorem dX8_shares_32 : decode cX8_shares 32 = .ok (.bipush 29, 2) := by decide +kernel
theorem dX8_shares_34 : decode cX8_shares 34 = .ok (.ldc2_w 83, 3) := by decide +kernel
theorem dX8_shares_37 : decode cX8_shares 37 = .ok (.lload 6, 2) := by decide +kernel
theorem dX8_shares_39 : decode cX8_shares 39 = .ok (.lmul, 1) := by decide +kernel
theorem dX8_shares_40 : decode cX8_shares 40 = .ok (.lload 4, 2) := by decide +kernel
theorem dX8_shares_42 : decode cX8_shares 42 = .ok (.lconst 0, 1) := by decide +kernel
theorem dX8_shares_43 : decode cX8_shares 43 = .ok (.lconst 0, 1) := by decide +kernel
theorem dX8_shares_44 : decode cX8_shares 44 = .ok (.ldc2_w 83, 3) := by decide +kernel
theorem dX8_shares_47 : decode cX8_shares 47 = .ok (.invokevirtual 134, 3) := by decide +kernel
theorem dX8_shares_50 : decode cX8_shares 50 = .ok (.goto 21, 3) := by decide +kernel
theorem dX8_shares_53 : decode cX8_shares 53 = .ok (.aload_n 0, 1) := by decide +kernel
theorem dX8_shares_54 : decode cX8_shares 54 = .ok (.bipush 29, 2) := by decide +kernel
theorem dX8_shares_56 : decode cX8_shares 56 = .ok (.lload 4, 2) := by decide +kernel
theorem dX8_shares_58 : decode cX8_shares 58 = .ok (.lload 6, 2) := by decide +kernel
theorem dX8_shares_60 : decode cX8_shares 60 = .ok (.lconst 0, 1) := by decide +kernel
theorem dX8_shares_61 : decode cX8_shares 61 = .ok (.lconst 0, 1) := by decide +kernel
theorem dX8_shares_62 : decode cX8_shares 62 = .ok (.iload_n 3, 1) := by decide +kernel
theorem dX8_shares_63 : decode cX8_shares 63 = .ok (.iconst 0, 1) := by decide +kernel
theorem dX8_shares_64 : decode cX8_shares 64 = .ok (.invokestatic 306, 3) := by decide +kernel
theorem dX8_shares_67 : decode cX8_shares 67 = .ok (.i2l, 1) := by decide +kernel
theorem dX8_shares_68 : decode cX8_shares 68 = .ok (.invokevirtual 134, 3) := by decide +kernel
theorem dX8_shares_71 : decode cX8_shares 71 = .ok (.return_, 1) := by decide +kernel
theorem dX8_shareBy_0 : decode cX8_shareBy 0 = .ok (.iload_n 1, 1) := by decide +kernel
theorem dX8_shareBy_1 : decode cX8_shareBy 1 = .ok (.ifCond .ne 13, 3) := by decide +kernel
theorem dX8_shareBy_4 : decode cX8_shareBy 4 = .ok (.aload_n 0, 1) := by decide +kernel
theorem dX8_shareBy_5 : decode cX8_shareBy 5 = .ok (.bipush 29, 2) := by decide +kernel
theorem dX8_shareBy_7 : decode cX8_shareBy 7 = .ok (.iconst 0, 1) := by decide +kernel
theorem dX8_shareBy_8 : decode cX8_shareBy 8 = .ok (.invokevirtual 120, 3) := by decide +kernel
theorem dX8_shareBy_11 : decode cX8_shareBy 11 = .ok (.goto 25, 3) := by decide +kernel
theorem dX8_shareBy_14 : decode cX8_shareBy 14 = .ok (.iload_n 1, 1) := by decide +kernel
theorem dX8_shareBy_15 : decode cX8_shareBy 15 = .ok (.iconst 1, 1) := by decide +kernel
theorem dX8_shareBy_16 : decode cX8_shareBy 16 = .ok (.if_icmp .ne 13, 3) := by decide +kernel
theorem dX8_shareBy_19 : decode cX8_shareBy 19 = .ok (.aload_n 0, 1) := by decide +kernel
theorem dX8_shareBy_20 : decode cX8_shareBy 20 = .ok (.bipush 29, 2) := by decide +kernel
theorem dX8_shareBy_22 : decode cX8_shareBy 22 = .ok (.iconst 1, 1) := by decide +kernel
theorem dX8_shareBy_23 : decode cX8_shareBy 23 = .ok (.invokevirtual 120, 3) := by decide +kernel
theorem dX8_shareBy_26 : decode cX8_shareBy 26 = .ok (.goto 10, 3) := by decide +kernel
theorem dX8_shareBy_29 : decode cX8_shareBy 29 = .ok (.aload_n 0, 1) := by decide +kernel
theorem dX8_shareBy_30 : decode cX8_shareBy 30 = .ok (.bipush 29, 2) := by decide +kernel
theorem dX8_shareBy_32 : decode cX8_shareBy 32 = .ok (.iconst 4, 1) := by decide +kernel
theorem dX8_shareBy_33 : decode cX8_shareBy 33 = .ok (.invokevirtual 120, 3) := by decide +kernel
theorem dX8_shareBy_36 : decode cX8_shareBy 36 = .ok (.l2i, 1) := by decide +kernel
theorem dX8_shareBy_37 : decode cX8_shareBy 37 = .ok (.ireturn, 1) := by decide +kernel
theorem dX8_splitBy_0 : decode cX8_splitBy 0 = .ok (.aload_n 0, 1) := by decide +kernel
theorem dX8_splitBy_1 : decode cX8_splitBy 1 = .ok (.getfield 35, 3) := by decide +kernel
theorem dX8_splitBy_4 : decode cX8_splitBy 4 = .ok (.iload_n 1, 1) := by decide +kernel
theorem dX8_splitBy_5 : decode cX8_splitBy 5 = .ok (.iaload, 1) := by decide +kernel
theorem dX8_splitBy_6 : decode cX8_splitBy 6 = .ok (.iload_n 2, 1) := by decide +kernel
theorem dX8_splitBy_7 : decode cX8_splitBy 7 = .ok (.ishr, 1) := by decide +kernel
theorem dX8_splitBy_8 : decode cX8_splitBy 8 = .ok (.iconst 1, 1) := by decide +kernel
theorem dX8_splitBy_9 : decode cX8_splitBy 9 = .ok (.iand, 1) := by decide +kernel
theorem dX8_splitBy_10 : decode cX8_splitBy 10 = .ok (.iconst 1, 1) := by decide +kernel
theorem dX8_splitBy_11 : decode cX8_splitBy 11 = .ok (.if_icmp .ne 51, 3) := by decide +kernel
theorem dX8_splitBy_14 : decode cX8_splitBy 14 = .ok (.iload 4, 2) := by decide +kernel
theorem dX8_splitBy_16 : decode cX8_splitBy 16 = .ok (.ifCond .ne 7, 3) := by decide +kernel
theorem dX8_splitBy_19 : decode cX8_splitBy 19 = .ok (.iload_n 2, 1) := by decide +kernel
theorem dX8_splitBy_20 : decode cX8_splitBy 20 = .ok (.goto 41, 3) := by decide +kernel
theorem dX8_splitBy_23 : decode cX8_splitBy 23 = .ok (.iload 4, 2) := by decide +kernel
theorem dX8_splitBy_25 : decode cX8_splitBy 25 = .ok (.iconst 4, 1) := by decide +kernel
theorem dX8_splitBy_26 : decode cX8_splitBy 26 = .ok (.if_icmp .ne 7, 3) := by decide +kernel
theorem dX8_splitBy_29 : decode cX8_splitBy 29 = .ok (.iconst (-1), 1) := by decide +kernel
theorem dX8_splitBy_30 : decode cX8_splitBy 30 = .ok (.goto 31, 3) := by decide +kernel
theorem dX8_splitBy_33 : decode cX8_splitBy 33 = .ok (.iload 4, 2) := by decide +kernel
theorem dX8_splitBy_35 : decode cX8_splitBy 35 = .ok (.iconst 1, 1) := by decide +kernel
theorem dX8_splitBy_36 : decode cX8_splitBy 36 = .ok (.if_icmp .ne 7, 3) := by decide +kernel
theorem dX8_splitBy_39 : decode cX8_splitBy 39 = .ok (.iload_n 3, 1) := by decide +kernel
theorem dX8_splitBy_40 : decode cX8_splitBy 40 = .ok (.goto 21, 3) := by decide +kernel
theorem dX8_splitBy_43 : decode cX8_splitBy 43 = .ok (.iload 4, 2) := by decide +kernel
theorem dX8_splitBy_45 : decode cX8_splitBy 45 = .ok (.iconst 3, 1) := by decide +kernel
theorem dX8_splitBy_46 : decode cX8_splitBy 46 = .ok (.if_icmp .eq 10, 3) := by decide +kernel
theorem dX8_splitBy_49 : decode cX8_splitBy 49 = .ok (.iload 4, 2) := by decide +kernel
theorem dX8_splitBy_51 : decode cX8_splitBy 51 = .ok (.bipush 7, 2) := by decide +kernel
theorem dX8_splitBy_53 : decode cX8_splitBy 53 = .ok (.if_icmp .ne 7, 3) := by decide +kernel
theorem dX8_splitBy_56 : decode cX8_splitBy 56 = .ok (.iconst 1, 1) := by decide +kernel
theorem dX8_splitBy_57 : decode cX8_splitBy 57 = .ok (.goto 4, 3) := by decide +kernel
theorem dX8_splitBy_60 : decode cX8_splitBy 60 = .ok (.iconst 0, 1) := by decide +kernel
theorem dX8_splitBy_61 : decode cX8_splitBy 61 = .ok (.ireturn, 1) := by decide +kernel
theorem dX8_splitBy_62 : decode cX8_splitBy 62 = .ok (.aload_n 0, 1) := by decide +kernel
theorem dX8_splitBy_63 : decode cX8_splitBy 63 = .ok (.iload_n 1, 1) := by decide +kernel
theorem dX8_splitBy_64 : decode cX8_splitBy 64 = .ok (.iload_n 2, 1) := by decide +kernel
theorem dX8_splitBy_65 : decode cX8_splitBy 65 = .ok (.iconst (-1), 1) := by decide +kernel
theorem dX8_splitBy_66 : decode cX8_splitBy 66 = .ok (.invokevirtual 310, 3) := by decide +kernel
theorem dX8_splitBy_69 : decode cX8_splitBy 69 = .ok (.istore 5, 2) := by decide +kernel
theorem dX8_splitBy_71 : decode cX8_splitBy 71 = .ok (.aload_n 0, 1) := by decide +kernel
theorem dX8_splitBy_72 : decode cX8_splitBy 72 = .ok (.iload_n 1, 1) := by decide +kernel
theorem dX8_splitBy_73 : decode cX8_splitBy 73 = .ok (.iload_n 2, 1) := by decide +kernel
theorem dX8_splitBy_74 : decode cX8_splitBy 74 = .ok (.iconst 1, 1) := by decide +kernel
theorem dX8_splitBy_75 : decode cX8_splitBy 75 = .ok (.invokevirtual 310, 3) := by decide +kernel
theorem dX8_splitBy_78 : decode cX8_splitBy 78 = .ok (.istore 6, 2) := by decide +kernel
theorem dX8_splitBy_80 : decode cX8_splitBy 80 = .ok (.iload 5, 2) := by decide +kernel
theorem dX8_splitBy_82 : decode cX8_splitBy 82 = .ok (.iload 6, 2) := by decide +kernel
theorem dX8_splitBy_84 : decode cX8_splitBy 84 = .ok (.iadd, 1) := by decide +kernel
theorem dX8_splitBy_85 : decode cX8_splitBy 85 = .ok (.bipush 6, 2) := by decide +kernel
theorem dX8_splitBy_87 : decode cX8_splitBy 87 = .ok (.if_icmp .lt 6, 3) := by decide +kernel
theorem dX8_splitBy_90 : decode cX8_splitBy 90 = .ok (.bipush (-3), 2) := by decide +kernel
theorem dX8_splitBy_92 : decode cX8_splitBy 92 = .ok (.ireturn, 1) := by decide +kernel
theorem dX8_splitBy_93 : decode cX8_splitBy 93 = .ok (.iload 4, 2) := by decide +kernel
theorem dX8_splitBy_95 : decode cX8_splitBy 95 = .ok (.iconst 4, 1) := by decide +kernel
theorem dX8_splitBy_96 : decode cX8_splitBy 96 = .ok (.irem, 1) := by decide +kernel
theorem dX8_splitBy_97 : decode cX8_splitBy 97 = .ok (.ifCond .ne 29, 3) := by decide +kernel
theorem dX8_splitBy_100 : decode cX8_splitBy 100 = .ok (.iload 4, 2) := by decide +kernel
theorem dX8_splitBy_102 : decode cX8_splitBy 102 = .ok (.ifCond .ne 16, 3) := by decide +kernel
theorem dX8_splitBy_105 : decode cX8_splitBy 105 = .ok (.iload_n 2, 1) := by decide +kernel
theorem dX8_splitBy_106 : decode cX8_splitBy 106 = .ok (.iload 5, 2) := by decide +kernel
theorem dX8_splitBy_108 : decode cX8_splitBy 108 = .ok (.isub, 1) := by decide +kernel
theorem dX8_splitBy_109 : decode cX8_splitBy 109 = .ok (.bipush 12, 2) := by decide +kernel
theorem dX8_splitBy_111 : decode cX8_splitBy 111 = .ok (.iadd, 1) := by decide +kernel
theorem dX8_splitBy_112 : decode cX8_splitBy 112 = .ok (.bipush 12, 2) := by decide +kernel
theorem dX8_splitBy_114 : decode cX8_splitBy 114 = .ok (.irem, 1) := by decide +kernel
theorem dX8_splitBy_115 : decode cX8_splitBy 115 = .ok (.goto 10, 3) := by decide +kernel
theorem dX8_splitBy_118 : decode cX8_splitBy 118 = .ok (.iload_n 2, 1) := by decide +kernel
theorem dX8_splitBy_119 : decode cX8_splitBy 119 = .ok (.iload 6, 2) := by decide +kernel
theorem dX8_splitBy_121 : decode cX8_splitBy 121 = .ok (.iadd, 1) := by decide +kernel
theorem dX8_splitBy_122 : decode cX8_splitBy 122 = .ok (.bipush 12, 2) := by decide +kernel
theorem dX8_splitBy_124 : decode cX8_splitBy 124 = .ok (.irem, 1) := by decide +kernel
theorem dX8_splitBy_125 : decode cX8_splitBy 125 = .ok (.ireturn, 1) := by decide +kernel
theorem dX8_splitBy_126 : decode cX8_splitBy 126 = .ok (.aload_n 0, 1) := by decide +kernel
theorem dX8_splitBy_127 : decode cX8_splitBy 127 = .ok (.iload_n 3, 1) := by decide +kernel
theorem dX8_splitBy_128 : decode cX8_splitBy 128 = .ok (.iload 4, 2) := by decide +kernel
theorem dX8_splitBy_130 : decode cX8_splitBy 130 = .ok (.iconst 4, 1) := by decide +kernel
theorem dX8_splitBy_131 : decode cX8_splitBy 131 = .ok (.if_icmp .ge 8, 3) := by decide +kernel
theorem dX8_splitBy_134 : decode cX8_splitBy 134 = .ok (.iload 6, 2) := by decide +kernel
theorem dX8_splitBy_136 : decode cX8_splitBy 136 = .ok (.goto 5, 3) := by decide +kernel
theorem dX8_splitBy_139 : decode cX8_splitBy 139 = .ok (.iload 5, 2) := by decide +kernel
theorem dX8_splitBy_141 : decode cX8_splitBy 141 = .ok (.iload 5, 2) := by decide +kernel
theorem dX8_splitBy_143 : decode cX8_splitBy 143 = .ok (.iload 6, 2) := by decide +kernel
theorem dX8_splitBy_145 : decode cX8_splitBy 145 = .ok (.iadd, 1) := by decide +kernel
theorem dX8_splitBy_146 : decode cX8_splitBy 146 = .ok (.invokevirtual 313, 3) := by decide +kernel
theorem dX8_splitBy_149 : decode cX8_splitBy 149 = .ok (.aload_n 0, 1) := by decide +kernel
theorem dX8_splitBy_150 : decode cX8_splitBy 150 = .ok (.iload 4, 2) := by decide +kernel
theorem dX8_splitBy_152 : decode cX8_splitBy 152 = .ok (.iconst 4, 1) := by decide +kernel
theorem dX8_splitBy_153 : decode cX8_splitBy 153 = .ok (.irem, 1) := by decide +kernel
theorem dX8_splitBy_154 : decode cX8_splitBy 154 = .ok (.iconst 1, 1) := by decide +kernel
theorem dX8_splitBy_155 : decode cX8_splitBy 155 = .ok (.isub, 1) := by decide +kernel
theorem dX8_splitBy_156 : decode cX8_splitBy 156 = .ok (.invokevirtual 316, 3) := by decide +kernel
theorem dX8_splitBy_159 : decode cX8_splitBy 159 = .ok (.ireturn, 1) := by decide +kernel
theorem dX8_split_0 : decode cX8_split 0 = .ok (.iload_n 1, 1) := by decide +kernel
theorem dX8_split_1 : decode cX8_split 1 = .ok (.invokestatic 226, 3) := by decide +kernel
theorem dX8_split_4 : decode cX8_split 4 = .ok (.ifCond .eq 47, 3) := by decide +kernel
theorem dX8_split_7 : decode cX8_split 7 = .ok (.iload_n 2, 1) := by decide +kernel
theorem dX8_split_8 : decode cX8_split 8 = .ok (.invokestatic 218, 3) := by decide +kernel
theorem dX8_split_11 : decode cX8_split 11 = .ok (.ifCond .eq 40, 3) := by decide +kernel
theorem dX8_split_14 : decode cX8_split 14 = .ok (.iload_n 3, 1) := by decide +kernel
theorem dX8_split_15 : decode cX8_split 15 = .ok (.i2l, 1) := by decide +kernel
theorem dX8_split_16 : decode cX8_split 16 = .ok (.lconst 1, 1) := by decide +kernel
theorem dX8_split_17 : decode cX8_split 17 = .ok (.ldc2_w 216, 3) := by decide +kernel
theorem dX8_split_20 : decode cX8_split 20 = .ok (.invokestatic 72, 3) := by decide +kernel
theorem dX8_split_23 : decode cX8_split 23 = .ok (.ifCond .eq 28, 3) := by decide +kernel
theorem dX8_split_26 : decode cX8_split 26 = .ok (.iload 4, 2) := by decide +kernel
theorem dX8_split_28 : decode cX8_split 28 = .ok (.i2l, 1) := by decide +kernel
theorem dX8_split_29 : decode cX8_split 29 = .ok (.lconst 0, 1) := by decide +kernel
theorem dX8_split_30 : decode cX8_split 30 = .ok (.ldc2_w 319, 3) := by decide +kernel
theorem dX8_split_33 : decode cX8_split 33 = .ok (.invokestatic 72, 3) := by decide +kernel
theorem dX8_split_36 : decode cX8_split 36 = .ok (.ifCond .eq 15, 3) := by decide +kernel
theorem dX8_split_39 : decode cX8_split 39 = .ok (.aload_n 0, 1) := by decide +kernel
theorem dX8_split_40 : decode cX8_split 40 = .ok (.iload_n 1, 1) := by decide +kernel
theorem dX8_split_41 : decode cX8_split 41 = .ok (.iload_n 2, 1) := by decide +kernel
theorem dX8_split_42 : decode cX8_split 42 = .ok (.iload_n 3, 1) := by decide +kernel
theorem dX8_split_43 : decode cX8_split 43 = .ok (.iload 4, 2) := by decide +kernel
theorem dX8_split_45 : decode cX8_split 45 = .ok (.invokevirtual 321, 3) := by decide +kernel
theorem dX8_split_48 : decode cX8_split 48 = .ok (.goto 5, 3) := by decide +kernel
theorem dX8_split_51 : decode cX8_split 51 = .ok (.bipush (-2), 2) := by decide +kernel
theorem dX8_split_53 : decode cX8_split 53 = .ok (.ireturn, 1) := by decide +kernel
theorem dX8_nearestBy_0 : decode cX8_nearestBy 0 = .ok (.iload_n 2, 1) := by decide +kernel
theorem dX8_nearestBy_1 : decode cX8_nearestBy 1 = .ok (.i2f, 1) := by decide +kernel
theorem dX8_nearestBy_2 : decode cX8_nearestBy 2 = .ok (.ldc_w 325, 3) := by decide +kernel
theorem dX8_nearestBy_5 : decode cX8_nearestBy 5 = .ok (.fdiv, 1) := by decide +kernel
theorem dX8_nearestBy_6 : decode cX8_nearestBy 6 = .ok (.ldc_w 326, 3) := by decide +kernel
theorem dX8_nearestBy_9 : decode cX8_nearestBy 9 = .ok (.frem, 1) := by decide +kernel
theorem dX8_nearestBy_10 : decode cX8_nearestBy 10 = .ok (.fstore_n 3, 1) := by decide +kernel
theorem dX8_nearestBy_11 : decode cX8_nearestBy 11 = .ok (.fload_n 3, 1) := by decide +kernel
theorem dX8_nearestBy_12 : decode cX8_nearestBy 12 = .ok (.fconst 0, 1) := by decide +kernel
theorem dX8_nearestBy_13 : decode cX8_nearestBy 13 = .ok (.fcmp .g, 1) := by decide +kernel
theorem dX8_nearestBy_14 : decode cX8_nearestBy 14 = .ok (.ifCond .ge 9, 3) := by decide +kernel
theorem dX8_nearestBy_17 : decode cX8_nearestBy 17 = .ok (.fload_n 3, 1) := by decide +kernel
theorem dX8_nearestBy_18 : decode cX8_nearestBy 18 = .ok (.ldc_w 326, 3) := by decide +kernel
theorem dX8_nearestBy_21 : decode cX8_nearestBy 21 = .ok (.fadd, 1) := by decide +kernel
theorem dX8_nearestBy_22 : decode cX8_nearestBy 22 = .ok (.fstore_n 3, 1) := by decide +kernel
theorem dX8_nearestBy_23 : decode cX8_nearestBy 23 = .ok (.iconst (-1), 1) := by decide +kernel
theorem dX8_nearestBy_24 : decode cX8_nearestBy 24 = .ok (.istore 4, 2) := by decide +kernel
theorem dX8_nearestBy_26 : decode cX8_nearestBy 26 = .ok (.fconst 0, 1) := by decide +kernel
theorem dX8_nearestBy_27 : decode cX8_nearestBy 27 = .ok (.fstore 5, 2) := by decide +kernel
theorem dX8_nearestBy_29 : decode cX8_nearestBy 29 = .ok (.iconst 0, 1) := by decide +kernel
theorem dX8_nearestBy_30 : decode cX8_nearestBy 30 = .ok (.istore 6, 2) := by decide +kernel
theorem dX8_nearestBy_32 : decode cX8_nearestBy 32 = .ok (.iload 6, 2) := by decide +kernel
theorem dX8_nearestBy_34 : decode cX8_nearestBy 34 = .ok (.bipush 12, 2) := by decide +kernel
theorem dX8_nearestBy_36 : decode cX8_nearestBy 36 = .ok (.if_icmp .ge 100, 3) := by decide +kernel
theorem dX8_nearestBy_39 : decode cX8_nearestBy 39 = .ok (.fload_n 3, 1) := by decide +kernel
theorem dX8_nearestBy_40 : decode cX8_nearestBy 40 = .ok (.ldc_w 327, 3) := by decide +kernel
theorem dX8_nearestBy_43 : decode cX8_nearestBy 43 = .ok (.iload 6, 2) := by decide +kernel
theorem dX8_nearestBy_45 : decode cX8_nearestBy 45 = .ok (.i2f, 1) := by decide +kernel
theorem dX8_nearestBy_46 : decode cX8_nearestBy 46 = .ok (.fmul, 1) := by decide +kernel
theorem dX8_nearestBy_47 : decode cX8_nearestBy 47 = .ok (.fsub, 1) := by decide +kernel
theorem dX8_nearestBy_48 : decode cX8_nearestBy 48 = .ok (.fstore 7, 2) := by decide +kernel
theorem dX8_nearestBy_50 : decode cX8_nearestBy 50 = .ok (.fload 7, 2) := by decide +kernel
theorem dX8_nearestBy_52 : decode cX8_nearestBy 52 = .ok (.fconst 0, 1) := by decide +kernel
theorem dX8_nearestBy_53 : decode cX8_nearestBy 53 = .ok (.fcmp .g, 1) := by decide +kernel
theorem dX8_nearestBy_54 : decode cX8_nearestBy 54 = .ok (.ifCond .ge 10, 3) := by decide +kernel
theorem dX8_nearestBy_57 : decode cX8_nearestBy 57 = .ok (.fconst 0, 1) := by decide +kernel
theorem dX8_nearestBy_58 : decode cX8_nearestBy 58 = .ok (.fload 7, 2) := by decide +kernel
theorem dX8_nearestBy_60 : decode cX8_nearestBy 60 = .ok (.fsub, 1) := by decide +kernel
theorem dX8_nearestBy_61 : decode cX8_nearestBy 61 = .ok (.goto 5, 3) := by decide +kernel
theorem dX8_nearestBy_64 : decode cX8_nearestBy 64 = .ok (.fload 7, 2) := by decide +kernel
theorem dX8_nearestBy_66 : decode cX8_nearestBy 66 = .ok (.fstore 7, 2) := by decide +kernel
theorem dX8_nearestBy_68 : decode cX8_nearestBy 68 = .ok (.ldc_w 326, 3) := by decide +kernel
theorem dX8_nearestBy_71 : decode cX8_nearestBy 71 = .ok (.fload 7, 2) := by decide +kernel
theorem dX8_nearestBy_73 : decode cX8_nearestBy 73 = .ok (.fsub, 1) := by decide +kernel
theorem dX8_nearestBy_74 : decode cX8_nearestBy 74 = .ok (.fstore 8, 2) := by decide +kernel
theorem dX8_nearestBy_76 : decode cX8_nearestBy 76 = .ok (.fload 8, 2) := by decide +kernel
theorem dX8_nearestBy_78 : decode cX8_nearestBy 78 = .ok (.fload 7, 2) := by decide +kernel
theorem dX8_nearestBy_80 : decode cX8_nearestBy 80 = .ok (.fcmp .g, 1) := by decide +kernel
theorem dX8_nearestBy_81 : decode cX8_nearestBy 81 = .ok (.ifCond .ge 8, 3) := by decide +kernel
theorem dX8_nearestBy_84 : decode cX8_nearestBy 84 = .ok (.fload 8, 2) := by decide +kernel
theorem dX8_nearestBy_86 : decode cX8_nearestBy 86 = .ok (.goto 5, 3) := by decide +kernel
theorem dX8_nearestBy_89 : decode cX8_nearestBy 89 = .ok (.fload 7, 2) := by decide +kernel
theorem dX8_nearestBy_91 : decode cX8_nearestBy 91 = .ok (.fstore 7, 2) := by decide +kernel
theorem dX8_nearestBy_93 : decode cX8_nearestBy 93 = .ok (.aload_n 0, 1) := by decide +kernel
theorem dX8_nearestBy_94 : decode cX8_nearestBy 94 = .ok (.getfield 35, 3) := by decide +kernel
theorem dX8_nearestBy_97 : decode cX8_nearestBy 97 = .ok (.iload_n 1, 1) := by decide +kernel
theorem dX8_nearestBy_98 : decode cX8_nearestBy 98 = .ok (.iaload, 1) := by decide +kernel
theorem dX8_nearestBy_99 : decode cX8_nearestBy 99 = .ok (.iload 6, 2) := by decide +kernel
theorem dX8_nearestBy_101 : decode cX8_nearestBy 101 = .ok (.ishr, 1) := by decide +kernel
theorem dX8_nearestBy_102 : decode cX8_nearestBy 102 = .ok (.iconst 1, 1) := by decide +kernel
theorem dX8_nearestBy_103 : decode cX8_nearestBy 103 = .ok (.iand, 1) := by decide +kernel
theorem dX8_nearestBy_104 : decode cX8_nearestBy 104 = .ok (.iconst 1, 1) := by decide +kernel
theorem dX8_nearestBy_105 : decode cX8_nearestBy 105 = .ok (.if_icmp .ne 25, 3) := by decide +kernel
theorem dX8_nearestBy_108 : decode cX8_nearestBy 108 = .ok (.iload 4, 2) := by decide +kernel
theorem dX8_nearestBy_110 : decode cX8_nearestBy 110 = .ok (.iconst (-1), 1) := by decide +kernel
theorem dX8_nearestBy_111 : decode cX8_nearestBy 111 = .ok (.if_icmp .eq 11, 3) := by decide +kernel
theorem dX8_nearestBy_114 : decode cX8_nearestBy 114 = .ok (.fload 7, 2) := by decide +kernel
theorem dX8_nearestBy_116 : decode cX8_nearestBy 116 = .ok (.fload 5, 2) := by decide +kernel
theorem dX8_nearestBy_118 : decode cX8_nearestBy 118 = .ok (.fcmp .g, 1) := by decide +kernel
theorem dX8_nearestBy_119 : decode cX8_nearestBy 119 = .ok (.ifCond .ge 11, 3) := by decide +kernel
theorem dX8_nearestBy_122 : decode cX8_nearestBy 122 = .ok (.iload 6, 2) := by decide +kernel
theorem dX8_nearestBy_124 : decode cX8_nearestBy 124 = .ok (.istore 4, 2) := by decide +kernel
theorem dX8_nearestBy_126 : decode cX8_nearestBy 126 = .ok (.fload 7, 2) := by decide +kernel
theorem dX8_nearestBy_128 : decode cX8_nearestBy 128 = .ok (.fstore 5, 2) := by decide +kernel
theorem dX8_nearestBy_130 : decode cX8_nearestBy 130 = .ok (.iinc 6 1, 3) := by decide +kernel
theorem dX8_nearestBy_133 : decode cX8_nearestBy 133 = .ok (.goto (-101), 3) := by decide +kernel
theorem dX8_nearestBy_136 : decode cX8_nearestBy 136 = .ok (.iload 4, 2) := by decide +kernel
theorem dX8_nearestBy_138 : decode cX8_nearestBy 138 = .ok (.ireturn, 1) := by decide +kernel
theorem dX8_nearest_0 : decode cX8_nearest 0 = .ok (.iload_n 1, 1) := by decide +kernel
theorem dX8_nearest_1 : decode cX8_nearest 1 = .ok (.invokestatic 226, 3) := by decide +kernel
theorem dX8_nearest_4 : decode cX8_nearest 4 = .ok (.ifCond .eq 12, 3) := by decide +kernel
theorem dX8_nearest_7 : decode cX8_nearest 7 = .ok (.aload_n 0, 1) := by decide +kernel
theorem dX8_nearest_8 : decode cX8_nearest 8 = .ok (.iload_n 1, 1) := by decide +kernel
theorem dX8_nearest_9 : decode cX8_nearest 9 = .ok (.iload_n 2, 1) := by decide +kernel
theorem dX8_nearest_10 : decode cX8_nearest 10 = .ok (.invokevirtual 328, 3) := by decide +kernel
theorem dX8_nearest_13 : decode cX8_nearest 13 = .ok (.goto 5, 3) := by decide +kernel
theorem dX8_nearest_16 : decode cX8_nearest 16 = .ok (.bipush (-2), 2) := by decide +kernel
theorem dX8_nearest_18 : decode cX8_nearest 18 = .ok (.ireturn, 1) := by decide +kernel
theorem dX8_write_0 : decode cX8_write 0 = .ok (.iload_n 1, 1) := by decide +kernel
theorem dX8_write_1 : decode cX8_write 1 = .ok (.invokestatic 85, 3) := by decide +kernel
theorem dX8_write_4 : decode cX8_write 4 = .ok (.ifCond .ne 6, 3) := by decide +kernel
theorem dX8_write_7 : decode cX8_write 7 = .ok (.bipush (-2), 2) := by decide +kernel
theorem dX8_write_9 : decode cX8_write 9 = .ok (.ireturn, 1) := by decide +kernel
theorem dX8_write_10 : decode cX8_write 10 = .ok (.aload_n 0, 1) := by decide +kernel
theorem dX8_write_11 : decode cX8_write 11 = .ok (.getfield 7, 3) := by decide +kernel
theorem dX8_write_14 : decode cX8_write 14 = .ok (.iload_n 1, 1) := by decide +kernel
theorem dX8_write_15 : decode cX8_write 15 = .ok (.iaload, 1) := by decide +kernel
theorem dX8_write_16 : decode cX8_write 16 = .ok (.iconst (-1), 1) := by decide +kernel
theorem dX8_write_17 : decode cX8_write 17 = .ok (.if_icmp .ne 9, 3) := by decide +kernel
theorem dX8_write_20 : decode cX8_write 20 = .ok (.aload_n 0, 1) := by decide +kernel
theorem dX8_write_21 : decode cX8_write 21 = .ok (.iconst 1, 1) := by decide +kernel
theorem dX8_write_22 : decode cX8_write 22 = .ok (.invokevirtual 89, 3) := by decide +kernel
theorem dX8_write_25 : decode cX8_write 25 = .ok (.ireturn, 1) := by decide +kernel
theorem dX8_write_26 : decode cX8_write 26 = .ok (.aload_n 0, 1) := by decide +kernel
theorem dX8_write_27 : decode cX8_write 27 = .ok (.getfield 7, 3) := by decide +kernel
theorem dX8_write_30 : decode cX8_write 30 = .ok (.iload_n 1, 1) := by decide +kernel
theorem dX8_write_31 : decode cX8_write 31 = .ok (.iaload, 1) := by decide +kernel
theorem dX8_write_32 : decode cX8_write 32 = .ok (.bipush 30, 2) := by decide +kernel
theorem dX8_write_34 : decode cX8_write 34 = .ok (.if_icmp .ge 12, 3) := by decide +kernel
theorem dX8_write_37 : decode cX8_write 37 = .ok (.aload_n 0, 1) := by decide +kernel
theorem dX8_write_38 : decode cX8_write 38 = .ok (.getfield 7, 3) := by decide +kernel
theorem dX8_write_41 : decode cX8_write 41 = .ok (.iload_n 1, 1) := by decide +kernel
theorem dX8_write_42 : decode cX8_write 42 = .ok (.iaload, 1) := by decide +kernel
theorem dX8_write_43 : decode cX8_write 43 = .ok (.goto 5, 3) := by decide +kernel
theorem dX8_write_46 : decode cX8_write 46 = .ok (.bipush 30, 2) := by decide +kernel
theorem dX8_write_48 : decode cX8_write 48 = .ok (.istore_n 2, 1) := by decide +kernel
theorem dX8_write_49 : decode cX8_write 49 = .ok (.iconst 0, 1) := by decide +kernel
theorem dX8_write_50 : decode cX8_write 50 = .ok (.istore_n 3, 1) := by decide +kernel
theorem dX8_write_51 : decode cX8_write 51 = .ok (.iload_n 3, 1) := by decide +kernel
theorem dX8_write_52 : decode cX8_write 52 = .ok (.iload_n 2, 1) := by decide +kernel
theorem dX8_write_53 : decode cX8_write 53 = .ok (.if_icmp .ge 26, 3) := by decide +kernel
theorem dX8_write_56 : decode cX8_write 56 = .ok (.aload_n 0, 1) := by decide +kernel
theorem dX8_write_57 : decode cX8_write 57 = .ok (.getfield 13, 3) := by decide +kernel
theorem dX8_write_60 : decode cX8_write 60 = .ok (.bipush 40, 2) := by decide +kernel
theorem dX8_write_62 : decode cX8_write 62 = .ok (.iload_n 1, 1) := by decide +kernel
theorem dX8_write_63 : decode cX8_write 63 = .ok (.imul, 1) := by decide +kernel
theorem dX8_write_64 : decode cX8_write 64 = .ok (.iload_n 3, 1) := by decide +kernel
theorem dX8_write_65 : decode cX8_write 65 = .ok (.iadd, 1) := by decide +kernel
theorem dX8_write_66 : decode cX8_write 66 = .ok (.aload_n 0, 1) := by decide +kernel
theorem dX8_write_67 : decode cX8_write 67 = .ok (.getfield 20, 3) := by decide +kernel
theorem dX8_write_70 : decode cX8_write 70 = .ok (.iload_n 3, 1) := by decide +kernel
theorem dX8_write_71 : decode cX8_write 71 = .ok (.laload, 1) := by decide +kernel
theorem dX8_write_72 : decode cX8_write 72 = .ok (.lastore, 1) := by decide +kernel
theorem dX8_write_73 : decode cX8_write 73 = .ok (.iinc 3 1, 3) := by decide +kernel
theorem dX8_write_76 : decode cX8_write 76 = .ok (.goto (-25), 3) := by decide +kernel
theorem dX8_write_79 : decode cX8_write 79 = .ok (.iload_n 2, 1) := by decide +kernel
theorem dX8_write_80 : decode cX8_write 80 = .ok (.ireturn, 1) := by decide +kernel
theorem dX8_count_0 : decode cX8_count 0 = .ok (.iload_n 1, 1) := by decide +kernel
theorem dX8_count_1 : decode cX8_count 1 = .ok (.tableswitch 100 0 8 #[51, 56, 62, 68, 73, 79, 85, 90, 95], 51) := by decide +kernel
theorem dX8_count_52 : decode cX8_count 52 = .ok (.aload_n 0, 1) := by decide +kernel
theorem dX8_count_53 : decode cX8_count 53 = .ok (.getfield 192, 3) := by decide +kernel
theorem dX8_count_56 : decode cX8_count 56 = .ok (.ireturn, 1) := by decide +kernel
theorem dX8_count_57 : decode cX8_count 57 = .ok (.aload_n 0, 1) := by decide +kernel
theorem dX8_count_58 : decode cX8_count 58 = .ok (.iconst 0, 1) := by decide +kernel
theorem dX8_count_59 : decode cX8_count 59 = .ok (.invokevirtual 235, 3) := by decide +kernel
theorem dX8_count_62 : decode cX8_count 62 = .ok (.ireturn, 1) := by decide +kernel
theorem dX8_count_63 : decode cX8_count 63 = .ok (.aload_n 0, 1) := by decide +kernel
theorem dX8_count_64 : decode cX8_count 64 = .ok (.iconst 1, 1) := by decide +kernel
theorem dX8_count_65 : decode cX8_count 65 = .ok (.invokevirtual 235, 3) := by decide +kernel
theorem dX8_count_68 : decode cX8_count 68 = .ok (.ireturn, 1) := by decide +kernel
theorem dX8_count_69 : decode cX8_count 69 = .ok (.aload_n 0, 1) := by decide +kernel
theorem dX8_count_70 : decode cX8_count 70 = .ok (.invokevirtual 261, 3) := by decide +kernel
theorem dX8_count_73 : decode cX8_count 73 = .ok (.ireturn, 1) := by decide +kernel
theorem dX8_count_74 : decode cX8_count 74 = .ok (.aload_n 0, 1) := by decide +kernel
theorem dX8_count_75 : decode cX8_count 75 = .ok (.iconst 0, 1) := by decide +kernel
theorem dX8_count_76 : decode cX8_count 76 = .ok (.invokevirtual 252, 3) := by decide +kernel
theorem dX8_count_79 : decode cX8_count 79 = .ok (.ireturn, 1) := by decide +kernel
theorem dX8_count_80 : decode cX8_count 80 = .ok (.aload_n 0, 1) := by decide +kernel
theorem dX8_count_81 : decode cX8_count 81 = .ok (.iconst 1, 1) := by decide +kernel
theorem dX8_count_82 : decode cX8_count 82 = .ok (.invokevirtual 252, 3) := by decide +kernel
theorem dX8_count_85 : decode cX8_count 85 = .ok (.ireturn, 1) := by decide +kernel
theorem dX8_count_86 : decode cX8_count 86 = .ok (.aload_n 0, 1) := by decide +kernel
theorem dX8_count_87 : decode cX8_count 87 = .ok (.getfield 69, 3) := by decide +kernel
theorem dX8_count_90 : decode cX8_count 90 = .ok (.ireturn, 1) := by decide +kernel
theorem dX8_count_91 : decode cX8_count 91 = .ok (.aload_n 0, 1) := by decide +kernel
theorem dX8_count_92 : decode cX8_count 92 = .ok (.getfield 65, 3) := by decide +kernel
theorem dX8_count_95 : decode cX8_count 95 = .ok (.ireturn, 1) := by decide +kernel
theorem dX8_count_96 : decode cX8_count 96 = .ok (.aload_n 0, 1) := by decide +kernel
theorem dX8_count_97 : decode cX8_count 97 = .ok (.getfield 80, 3) := by decide +kernel
theorem dX8_count_100 : decode cX8_count 100 = .ok (.ireturn, 1) := by decide +kernel
theorem dX8_count_101 : decode cX8_count 101 = .ok (.bipush (-2), 2) := by decide +kernel
theorem dX8_count_103 : decode cX8_count 103 = .ok (.ireturn, 1) := by decide +kernel
theorem dX8_planeTells_0 : decode cX8_planeTells 0 = .ok (.lload_n 1, 1) := by decide +kernel
theorem dX8_planeTells_1 : decode cX8_planeTells 1 = .ok (.lstore 4, 2) := by decide +kernel
theorem dX8_planeTells_3 : decode cX8_planeTells 3 = .ok (.iconst 0, 1) := by decide +kernel
theorem dX8_planeTells_4 : decode cX8_planeTells 4 = .ok (.istore 6, 2) := by decide +kernel
theorem dX8_planeTells_6 : decode cX8_planeTells 6 = .ok (.iload 6, 2) := by decide +kernel
theorem dX8_planeTells_8 : decode cX8_planeTells 8 = .ok (.bipush 10, 2) := by decide +kernel
theorem dX8_planeTells_10 : decode cX8_planeTells 10 = .ok (.if_icmp .ge 25, 3) := by decide +kernel
theorem dX8_planeTells_13 : decode cX8_planeTells 13 = .ok (.ldc2_w 331, 3) := by decide +kernel
theorem dX8_planeTells_16 : decode cX8_planeTells 16 = .ok (.lload 4, 2) := by decide +kernel
theorem dX8_planeTells_18 : decode cX8_planeTells 18 = .ok (.lmul, 1) := by decide +kernel
theorem dX8_planeTells_19 : decode cX8_planeTells 19 = .ok (.aload_n 0, 1) := by decide +kernel
theorem dX8_planeTells_20 : decode cX8_planeTells 20 = .ok (.iload_n 3, 1) := by decide +kernel
theorem dX8_planeTells_21 : decode cX8_planeTells 21 = .ok (.iload 6, 2) := by decide +kernel
theorem dX8_planeTells_23 : decode cX8_planeTells 23 = .ok (.invokevirtual 245, 3) := by decide +kernel
theorem dX8_planeTells_26 : decode cX8_planeTells 26 = .ok (.ladd, 1) := by decide +kernel
theorem dX8_planeTells_27 : decode cX8_planeTells 27 = .ok (.lstore 4, 2) := by decide +kernel
theorem dX8_planeTells_29 : decode cX8_planeTells 29 = .ok (.iinc 6 1, 3) := by decide +kernel
theorem dX8_planeTells_32 : decode cX8_planeTells 32 = .ok (.goto (-26), 3) := by decide +kernel
theorem dX8_planeTells_35 : decode cX8_planeTells 35 = .ok (.iconst 0, 1) := by decide +kernel
theorem dX8_planeTells_36 : decode cX8_planeTells 36 = .ok (.istore 6, 2) := by decide +kernel
theorem dX8_planeTells_38 : decode cX8_planeTells 38 = .ok (.iload 6, 2) := by decide +kernel
theorem dX8_planeTells_40 : decode cX8_planeTells 40 = .ok (.bipush 12, 2) := by decide +kernel
theorem dX8_planeTells_42 : decode cX8_planeTells 42 = .ok (.if_icmp .ge 69, 3) := by decide +kernel
theorem dX8_planeTells_45 : decode cX8_planeTells 45 = .ok (.ldc2_w 331, 3) := by decide +kernel
theorem dX8_planeTells_48 : decode cX8_planeTells 48 = .ok (.lload 4, 2) := by decide +kernel
theorem dX8_planeTells_50 : decode cX8_planeTells 50 = .ok (.lmul, 1) := by decide +kernel
theorem dX8_planeTells_51 : decode cX8_planeTells 51 = .ok (.aload_n 0, 1) := by decide +kernel
theorem dX8_planeTells_52 : decode cX8_planeTells 52 = .ok (.getfield 32, 3) := by decide +kernel
theorem dX8_planeTells_55 : decode cX8_planeTells 55 = .ok (.bipush 12, 2) := by decide +kernel
theorem dX8_planeTells_57 : decode cX8_planeTells 57 = .ok (.iload_n 3, 1) := by decide +kernel
theorem dX8_planeTells_58 : decode cX8_planeTells 58 = .ok (.imul, 1) := by decide +kernel
theorem dX8_planeTells_59 : decode cX8_planeTells 59 = .ok (.iload 6, 2) := by decide +kernel
theorem dX8_planeTells_61 : decode cX8_planeTells 61 = .ok (.iadd, 1) := by decide +kernel
theorem dX8_planeTells_62 : decode cX8_planeTells 62 = .ok (.iaload, 1) := by decide +kernel
theorem dX8_planeTells_63 : decode cX8_planeTells 63 = .ok (.i2l, 1) := by decide +kernel
theorem dX8_planeTells_64 : decode cX8_planeTells 64 = .ok (.ladd, 1) := by decide +kernel
theorem dX8_planeTells_65 : decode cX8_planeTells 65 = .ok (.lstore 4, 2) := by decide +kernel
theorem dX8_planeTells_67 : decode cX8_planeTells 67 = .ok (.ldc2_w 331, 3) := by decide +kernel
theorem dX8_planeTells_70 : decode cX8_planeTells 70 = .ok (.lload 4, 2) := by decide +kernel
theorem dX8_planeTells_72 : decode cX8_planeTells 72 = .ok (.lmul, 1) := by decide +kernel
theorem dX8_planeTells_73 : decode cX8_planeTells 73 = .ok (.aload_n 0, 1) := by decide +kernel
theorem dX8_planeTells_74 : decode cX8_planeTells 74 = .ok (.iload_n 3, 1) := by decide +kernel
theorem dX8_planeTells_75 : decode cX8_planeTells 75 = .ok (.iload 6, 2) := by decide +kernel
theorem dX8_planeTells_77 : decode cX8_planeTells 77 = .ok (.iconst 5, 1) := by decide +kernel
theorem dX8_planeTells_78 : decode cX8_planeTells 78 = .ok (.iconst 0, 1) := by decide +kernel
theorem dX8_planeTells_79 : decode cX8_planeTells 79 = .ok (.invokevirtual 321, 3) := by decide +kernel
theorem dX8_planeTells_82 : decode cX8_planeTells 82 = .ok (.i2l, 1) := by decide +kernel
theorem dX8_planeTells_83 : decode cX8_planeTells 83 = .ok (.ladd, 1) := by decide +kernel
theorem dX8_planeTells_84 : decode cX8_planeTells 84 = .ok (.lstore 4, 2) := by decide +kernel
theorem dX8_planeTells_86 : decode cX8_planeTells 86 = .ok (.ldc2_w 331, 3) := by decide +kernel
theorem dX8_planeTells_89 : decode cX8_planeTells 89 = .ok (.lload 4, 2) := by decide +kernel
theorem dX8_planeTells_91 : decode cX8_planeTells 91 = .ok (.lmul, 1) := by decide +kernel
theorem dX8_planeTells_92 : decode cX8_planeTells 92 = .ok (.aload_n 0, 1) := by decide +kernel
theorem dX8_planeTells_93 : decode cX8_planeTells 93 = .ok (.iload_n 3, 1) := by decide +kernel
theorem dX8_planeTells_94 : decode cX8_planeTells 94 = .ok (.iload 6, 2) := by decide +kernel
theorem dX8_planeTells_96 : decode cX8_planeTells 96 = .ok (.iconst 5, 1) := by decide +kernel
theorem dX8_planeTells_97 : decode cX8_planeTells 97 = .ok (.iconst 4, 1) := by decide +kernel
theorem dX8_planeTells_98 : decode cX8_planeTells 98 = .ok (.invokevirtual 321, 3) := by decide +kernel
theorem dX8_planeTells_101 : decode cX8_planeTells 101 = .ok (.i2l, 1) := by decide +kernel
theorem dX8_planeTells_102 : decode cX8_planeTells 102 = .ok (.ladd, 1) := by decide +kernel
theorem dX8_planeTells_103 : decode cX8_planeTells 103 = .ok (.lstore 4, 2) := by decide +kernel
theorem dX8_planeTells_105 : decode cX8_planeTells 105 = .ok (.iinc 6 1, 3) := by decide +kernel
theorem dX8_planeTells_108 : decode cX8_planeTells 108 = .ok (.goto (-70), 3) := by decide +kernel
theorem dX8_planeTells_111 : decode cX8_planeTells 111 = .ok (.iconst 0, 1) := by decide +kernel
theorem dX8_planeTells_112 : decode cX8_planeTells 112 = .ok (.istore 6, 2) := by decide +kernel
theorem dX8_planeTells_114 : decode cX8_planeTells 114 = .ok (.iload 6, 2) := by decide +kernel
theorem dX8_planeTells_116 : decode cX8_planeTells 116 = .ok (.iconst 3, 1) := by decide +kernel
theorem dX8_planeTells_117 : decode cX8_planeTells 117 = .ok (.if_icmp .ge 27, 3) := by decide +kernel
theorem dX8_planeTells_120 : decode cX8_planeTells 120 = .ok (.ldc2_w 331, 3) := by decide +kernel
theorem dX8_planeTells_123 : decode cX8_planeTells 123 = .ok (.lload 4, 2) := by decide +kernel
theorem dX8_planeTells_125 : decode cX8_planeTells 125 = .ok (.lmul, 1) := by decide +kernel
theorem dX8_planeTells_126 : decode cX8_planeTells 126 = .ok (.aload_n 0, 1) := by decide +kernel
theorem dX8_planeTells_127 : decode cX8_planeTells 127 = .ok (.iload_n 3, 1) := by decide +kernel
theorem dX8_planeTells_128 : decode cX8_planeTells 128 = .ok (.iconst 2, 1) := by decide +kernel
theorem dX8_planeTells_129 : decode cX8_planeTells 129 = .ok (.iload 6, 2) := by decide +kernel
theorem dX8_planeTells_131 : decode cX8_planeTells 131 = .ok (.invokevirtual 302, 3) := by decide +kernel
theorem dX8_planeTells_134 : decode cX8_planeTells 134 = .ok (.i2l, 1) := by decide +kernel
theorem dX8_planeTells_135 : decode cX8_planeTells 135 = .ok (.ladd, 1) := by decide +kernel
theorem dX8_planeTells_136 : decode cX8_planeTells 136 = .ok (.lstore 4, 2) := by decide +kernel
theorem dX8_planeTells_138 : decode cX8_planeTells 138 = .ok (.iinc 6 1, 3) := by decide +kernel
theorem dX8_planeTells_141 : decode cX8_planeTells 141 = .ok (.goto (-27), 3) := by decide +kernel
theorem dX8_planeTells_144 : decode cX8_planeTells 144 = .ok (.lload 4, 2) := by decide +kernel
theorem dX8_planeTells_146 : decode cX8_planeTells 146 = .ok (.lreturn, 1) := by decide +kernel
theorem dX8_digest_0 : decode cX8_digest 0 = .ok (.ldc2_w 333, 3) := by decide +kernel
theorem dX8_digest_3 : decode cX8_digest 3 = .ok (.lstore_n 1, 1) := by decide +kernel
theorem dX8_digest_4 : decode cX8_digest 4 = .ok (.iconst 0, 1) := by decide +kernel
theorem dX8_digest_5 : decode cX8_digest 5 = .ok (.istore_n 3, 1) := by decide +kernel
theorem dX8_digest_6 : decode cX8_digest 6 = .ok (.iload_n 3, 1) := by decide +kernel
theorem dX8_digest_7 : decode cX8_digest 7 = .ok (.bipush 8, 2) := by decide +kernel
theorem dX8_digest_9 : decode cX8_digest 9 = .ok (.if_icmp .ge 22, 3) := by decide +kernel
theorem dX8_digest_12 : decode cX8_digest 12 = .ok (.ldc2_w 331, 3) := by decide +kernel
theorem dX8_digest_15 : decode cX8_digest 15 = .ok (.lload_n 1, 1) := by decide +kernel
theorem dX8_digest_16 : decode cX8_digest 16 = .ok (.lmul, 1) := by decide +kernel
theorem dX8_digest_17 : decode cX8_digest 17 = .ok (.aload_n 0, 1) := by decide +kernel
theorem dX8_digest_18 : decode cX8_digest 18 = .ok (.iload_n 3, 1) := by decide +kernel
theorem dX8_digest_19 : decode cX8_digest 19 = .ok (.invokevirtual 335, 3) := by decide +kernel
theorem dX8_digest_22 : decode cX8_digest 22 = .ok (.i2l, 1) := by decide +kernel
theorem dX8_digest_23 : decode cX8_digest 23 = .ok (.ladd, 1) := by decide +kernel
theorem dX8_digest_24 : decode cX8_digest 24 = .ok (.lstore_n 1, 1) := by decide +kernel
theorem dX8_digest_25 : decode cX8_digest 25 = .ok (.iinc 3 1, 3) := by decide +kernel
theorem dX8_digest_28 : decode cX8_digest 28 = .ok (.goto (-22), 3) := by decide +kernel
theorem dX8_digest_31 : decode cX8_digest 31 = .ok (.iconst 0, 1) := by decide +kernel
theorem dX8_digest_32 : decode cX8_digest 32 = .ok (.istore_n 3, 1) := by decide +kernel
theorem dX8_digest_33 : decode cX8_digest 33 = .ok (.iload_n 3, 1) := by decide +kernel
theorem dX8_digest_34 : decode cX8_digest 34 = .ok (.bipush 30, 2) := by decide +kernel
theorem dX8_digest_36 : decode cX8_digest 36 = .ok (.if_icmp .ge 22, 3) := by decide +kernel
theorem dX8_digest_39 : decode cX8_digest 39 = .ok (.ldc2_w 331, 3) := by decide +kernel
theorem dX8_digest_42 : decode cX8_digest 42 = .ok (.lload_n 1, 1) := by decide +kernel
theorem dX8_digest_43 : decode cX8_digest 43 = .ok (.lmul, 1) := by decide +kernel
theorem dX8_digest_44 : decode cX8_digest 44 = .ok (.aload_n 0, 1) := by decide +kernel
theorem dX8_digest_45 : decode cX8_digest 45 = .ok (.getfield 20, 3) := by decide +kernel
theorem dX8_digest_48 : decode cX8_digest 48 = .ok (.iload_n 3, 1) := by decide +kernel
theorem dX8_digest_49 : decode cX8_digest 49 = .ok (.laload, 1) := by decide +kernel
theorem dX8_digest_50 : decode cX8_digest 50 = .ok (.ladd, 1) := by decide +kernel
theorem dX8_digest_51 : decode cX8_digest 51 = .ok (.lstore_n 1, 1) := by decide +kernel
theorem dX8_digest_52 : decode cX8_digest 52 = .ok (.iinc 3 1, 3) := by decide +kernel
theorem dX8_digest_55 : decode cX8_digest 55 = .ok (.goto (-22), 3) := by decide +kernel
theorem dX8_digest_58 : decode cX8_digest 58 = .ok (.iconst 0, 1) := by decide +kernel
theorem dX8_digest_59 : decode cX8_digest 59 = .ok (.istore_n 3, 1) := by decide +kernel
theorem dX8_digest_60 : decode cX8_digest 60 = .ok (.iload_n 3, 1) := by decide +kernel
theorem dX8_digest_61 : decode cX8_digest 61 = .ok (.iconst 2, 1) := by decide +kernel
theorem dX8_digest_62 : decode cX8_digest 62 = .ok (.if_icmp .ge 16, 3) := by decide +kernel
theorem dX8_digest_65 : decode cX8_digest 65 = .ok (.aload_n 0, 1) := by decide +kernel
theorem dX8_digest_66 : decode cX8_digest 66 = .ok (.lload_n 1, 1) := by decide +kernel
theorem dX8_digest_67 : decode cX8_digest 67 = .ok (.iload_n 3, 1) := by decide +kernel
theorem dX8_digest_68 : decode cX8_digest 68 = .ok (.invokevirtual 338, 3) := by decide +kernel
theorem dX8_digest_71 : decode cX8_digest 71 = .ok (.lstore_n 1, 1) := by decide +kernel
theorem dX8_digest_72 : decode cX8_digest 72 = .ok (.iinc 3 1, 3) := by decide +kernel
theorem dX8_digest_75 : decode cX8_digest 75 = .ok (.goto (-15), 3) := by decide +kernel
theorem dX8_digest_78 : decode cX8_digest 78 = .ok (.iconst 0, 1) := by decide +kernel
theorem dX8_digest_79 : decode cX8_digest 79 = .ok (.istore_n 3, 1) := by decide +kernel
theorem dX8_digest_80 : decode cX8_digest 80 = .ok (.iload_n 3, 1) := by decide +kernel
theorem dX8_digest_81 : decode cX8_digest 81 = .ok (.iconst 3, 1) := by decide +kernel
theorem dX8_digest_82 : decode cX8_digest 82 = .ok (.if_icmp .ge 55, 3) := by decide +kernel
theorem dX8_digest_85 : decode cX8_digest 85 = .ok (.iconst 0, 1) := by decide +kernel
theorem dX8_digest_86 : decode cX8_digest 86 = .ok (.istore 4, 2) := by decide +kernel
theorem dX8_digest_88 : decode cX8_digest 88 = .ok (.iload 4, 2) := by decide +kernel
theorem dX8_digest_90 : decode cX8_digest 90 = .ok (.iconst 2, 1) := by decide +kernel
theorem dX8_digest_91 : decode cX8_digest 91 = .ok (.if_icmp .ge 40, 3) := by decide +kernel
theorem dX8_digest_94 : decode cX8_digest 94 = .ok (.iconst 0, 1) := by decide +kernel
theorem dX8_digest_95 : decode cX8_digest 95 = .ok (.istore 5, 2) := by decide +kernel
theorem dX8_digest_97 : decode cX8_digest 97 = .ok (.iload 5, 2) := by decide +kernel
theorem dX8_digest_99 : decode cX8_digest 99 = .ok (.iconst 5, 1) := by decide +kernel
theorem dX8_digest_100 : decode cX8_digest 100 = .ok (.if_icmp .ge 25, 3) := by decide +kernel
theorem dX8_digest_103 : decode cX8_digest 103 = .ok (.ldc2_w 331, 3) := by decide +kernel
theorem dX8_digest_106 : decode cX8_digest 106 = .ok (.lload_n 1, 1) := by decide +kernel
theorem dX8_digest_107 : decode cX8_digest 107 = .ok (.lmul, 1) := by decide +kernel
theorem dX8_digest_108 : decode cX8_digest 108 = .ok (.aload_n 0, 1) := by decide +kernel
theorem dX8_digest_109 : decode cX8_digest 109 = .ok (.iload_n 3, 1) := by decide +kernel
theorem dX8_digest_110 : decode cX8_digest 110 = .ok (.iload 4, 2) := by decide +kernel
theorem dX8_digest_112 : decode cX8_digest 112 = .ok (.iload 5, 2) := by decide +kernel
theorem dX8_digest_114 : decode cX8_digest 114 = .ok (.invokevirtual 268, 3) := by decide +kernel
theorem dX8_digest_117 : decode cX8_digest 117 = .ok (.ladd, 1) := by decide +kernel
theorem dX8_digest_118 : decode cX8_digest 118 = .ok (.lstore_n 1, 1) := by decide +kernel
theorem dX8_digest_119 : decode cX8_digest 119 = .ok (.iinc 5 1, 3) := by decide +kernel
theorem dX8_digest_122 : decode cX8_digest 122 = .ok (.goto (-25), 3) := by decide +kernel
theorem dX8_digest_125 : decode cX8_digest 125 = .ok (.iinc 4 1, 3) := by decide +kernel
theorem dX8_digest_128 : decode cX8_digest 128 = .ok (.goto (-40), 3) := by decide +kernel
theorem dX8_digest_131 : decode cX8_digest 131 = .ok (.iinc 3 1, 3) := by decide +kernel
theorem dX8_digest_134 : decode cX8_digest 134 = .ok (.goto (-54), 3) := by decide +kernel
theorem dX8_digest_137 : decode cX8_digest 137 = .ok (.lload_n 1, 1) := by decide +kernel
theorem dX8_digest_138 : decode cX8_digest 138 = .ok (.lreturn, 1) := by decide +kernel
