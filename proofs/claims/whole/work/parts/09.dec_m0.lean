theorem dX8_init_0 : decode cX8_init 0 = .ok (.aload_n 0, 1) := by decide +kernel
theorem dX8_init_1 : decode cX8_init 1 = .ok (.invokespecial 1, 3) := by decide +kernel
theorem dX8_init_4 : decode cX8_init 4 = .ok (.aload_n 0, 1) := by decide +kernel
theorem dX8_init_5 : decode cX8_init 5 = .ok (.iconst 4, 1) := by decide +kernel
theorem dX8_init_6 : decode cX8_init 6 = .ok (.newarray .int, 2) := by decide +kernel
theorem dX8_init_8 : decode cX8_init 8 = .ok (.putfield 7, 3) := by decide +kernel
theorem dX8_init_11 : decode cX8_init 11 = .ok (.aload_n 0, 1) := by decide +kernel
theorem dX8_init_12 : decode cX8_init 12 = .ok (.sipush 160, 3) := by decide +kernel
theorem dX8_init_15 : decode cX8_init 15 = .ok (.newarray .long, 2) := by decide +kernel
theorem dX8_init_17 : decode cX8_init 17 = .ok (.putfield 13, 3) := by decide +kernel
theorem dX8_init_20 : decode cX8_init 20 = .ok (.aload_n 0, 1) := by decide +kernel
theorem dX8_init_21 : decode cX8_init 21 = .ok (.bipush 40, 2) := by decide +kernel
theorem dX8_init_23 : decode cX8_init 23 = .ok (.newarray .long, 2) := by decide +kernel
theorem dX8_init_25 : decode cX8_init 25 = .ok (.putfield 17, 3) := by decide +kernel
theorem dX8_init_28 : decode cX8_init 28 = .ok (.aload_n 0, 1) := by decide +kernel
theorem dX8_init_29 : decode cX8_init 29 = .ok (.sipush 200, 3) := by decide +kernel
theorem dX8_init_32 : decode cX8_init 32 = .ok (.newarray .long, 2) := by decide +kernel
theorem dX8_init_34 : decode cX8_init 34 = .ok (.putfield 20, 3) := by decide +kernel
theorem dX8_init_37 : decode cX8_init 37 = .ok (.aload_n 0, 1) := by decide +kernel
theorem dX8_init_38 : decode cX8_init 38 = .ok (.bipush 8, 2) := by decide +kernel
theorem dX8_init_40 : decode cX8_init 40 = .ok (.newarray .int, 2) := by decide +kernel
theorem dX8_init_42 : decode cX8_init 42 = .ok (.putfield 23, 3) := by decide +kernel
theorem dX8_init_45 : decode cX8_init 45 = .ok (.aload_n 0, 1) := by decide +kernel
theorem dX8_init_46 : decode cX8_init 46 = .ok (.bipush 8, 2) := by decide +kernel
theorem dX8_init_48 : decode cX8_init 48 = .ok (.newarray .int, 2) := by decide +kernel
theorem dX8_init_50 : decode cX8_init 50 = .ok (.putfield 26, 3) := by decide +kernel
theorem dX8_init_53 : decode cX8_init 53 = .ok (.aload_n 0, 1) := by decide +kernel
theorem dX8_init_54 : decode cX8_init 54 = .ok (.bipush 8, 2) := by decide +kernel
theorem dX8_init_56 : decode cX8_init 56 = .ok (.newarray .int, 2) := by decide +kernel
theorem dX8_init_58 : decode cX8_init 58 = .ok (.putfield 29, 3) := by decide +kernel
theorem dX8_init_61 : decode cX8_init 61 = .ok (.aload_n 0, 1) := by decide +kernel
theorem dX8_init_62 : decode cX8_init 62 = .ok (.bipush 24, 2) := by decide +kernel
theorem dX8_init_64 : decode cX8_init 64 = .ok (.newarray .int, 2) := by decide +kernel
theorem dX8_init_66 : decode cX8_init 66 = .ok (.putfield 32, 3) := by decide +kernel
theorem dX8_init_69 : decode cX8_init 69 = .ok (.aload_n 0, 1) := by decide +kernel
theorem dX8_init_70 : decode cX8_init 70 = .ok (.iconst 2, 1) := by decide +kernel
theorem dX8_init_71 : decode cX8_init 71 = .ok (.newarray .int, 2) := by decide +kernel
theorem dX8_init_73 : decode cX8_init 73 = .ok (.putfield 35, 3) := by decide +kernel
theorem dX8_init_76 : decode cX8_init 76 = .ok (.aload_n 0, 1) := by decide +kernel
theorem dX8_init_77 : decode cX8_init 77 = .ok (.iconst 4, 1) := by decide +kernel
theorem dX8_init_78 : decode cX8_init 78 = .ok (.newarray .long, 2) := by decide +kernel
theorem dX8_init_80 : decode cX8_init 80 = .ok (.putfield 38, 3) := by decide +kernel
theorem dX8_init_83 : decode cX8_init 83 = .ok (.aload_n 0, 1) := by decide +kernel
theorem dX8_init_84 : decode cX8_init 84 = .ok (.iconst 4, 1) := by decide +kernel
theorem dX8_init_85 : decode cX8_init 85 = .ok (.newarray .int, 2) := by decide +kernel
theorem dX8_init_87 : decode cX8_init 87 = .ok (.putfield 41, 3) := by decide +kernel
theorem dX8_init_90 : decode cX8_init 90 = .ok (.aload_n 0, 1) := by decide +kernel
theorem dX8_init_91 : decode cX8_init 91 = .ok (.iconst 4, 1) := by decide +kernel
theorem dX8_init_92 : decode cX8_init 92 = .ok (.newarray .int, 2) := by decide +kernel
theorem dX8_init_94 : decode cX8_init 94 = .ok (.putfield 44, 3) := by decide +kernel
theorem dX8_init_97 : decode cX8_init 97 = .ok (.aload_n 0, 1) := by decide +kernel
theorem dX8_init_98 : decode cX8_init 98 = .ok (.iconst 3, 1) := by decide +kernel
theorem dX8_init_99 : decode cX8_init 99 = .ok (.newarray .int, 2) := by decide +kernel
theorem dX8_init_101 : decode cX8_init 101 = .ok (.putfield 47, 3) := by decide +kernel
theorem dX8_init_104 : decode cX8_init 104 = .ok (.aload_n 0, 1) := by decide +kernel
theorem dX8_init_105 : decode cX8_init 105 = .ok (.iconst 3, 1) := by decide +kernel
theorem dX8_init_106 : decode cX8_init 106 = .ok (.newarray .int, 2) := by decide +kernel
theorem dX8_init_108 : decode cX8_init 108 = .ok (.putfield 50, 3) := by decide +kernel
theorem dX8_init_111 : decode cX8_init 111 = .ok (.aload_n 0, 1) := by decide +kernel
theorem dX8_init_112 : decode cX8_init 112 = .ok (.iconst 4, 1) := by decide +kernel
theorem dX8_init_113 : decode cX8_init 113 = .ok (.newarray .int, 2) := by decide +kernel
theorem dX8_init_115 : decode cX8_init 115 = .ok (.putfield 53, 3) := by decide +kernel
theorem dX8_init_118 : decode cX8_init 118 = .ok (.aload_n 0, 1) := by decide +kernel
theorem dX8_init_119 : decode cX8_init 119 = .ok (.iconst 4, 1) := by decide +kernel
theorem dX8_init_120 : decode cX8_init 120 = .ok (.newarray .int, 2) := by decide +kernel
theorem dX8_init_122 : decode cX8_init 122 = .ok (.putfield 56, 3) := by decide +kernel
theorem dX8_init_125 : decode cX8_init 125 = .ok (.aload_n 0, 1) := by decide +kernel
theorem dX8_init_126 : decode cX8_init 126 = .ok (.iconst 4, 1) := by decide +kernel
theorem dX8_init_127 : decode cX8_init 127 = .ok (.newarray .int, 2) := by decide +kernel
theorem dX8_init_129 : decode cX8_init 129 = .ok (.putfield 59, 3) := by decide +kernel
theorem dX8_init_132 : decode cX8_init 132 = .ok (.aload_n 0, 1) := by decide +kernel
theorem dX8_init_133 : decode cX8_init 133 = .ok (.iconst 4, 1) := by decide +kernel
theorem dX8_init_134 : decode cX8_init 134 = .ok (.newarray .int, 2) := by decide +kernel
theorem dX8_init_136 : decode cX8_init 136 = .ok (.putfield 62, 3) := by decide +kernel
theorem dX8_init_139 : decode cX8_init 139 = .ok (.iconst 0, 1) := by decide +kernel
theorem dX8_init_140 : decode cX8_init 140 = .ok (.istore_n 1, 1) := by decide +kernel
theorem dX8_init_141 : decode cX8_init 141 = .ok (.iload_n 1, 1) := by decide +kernel
theorem dX8_init_142 : decode cX8_init 142 = .ok (.bipush 40, 2) := by decide +kernel
theorem dX8_init_144 : decode cX8_init 144 = .ok (.if_icmp .ge 20, 3) := by decide +kernel
theorem dX8_init_147 : decode cX8_init 147 = .ok (.aload_n 0, 1) := by decide +kernel
theorem dX8_init_148 : decode cX8_init 148 = .ok (.getfield 20, 3) := by decide +kernel
theorem dX8_init_151 : decode cX8_init 151 = .ok (.iconst 5, 1) := by decide +kernel
theorem dX8_init_152 : decode cX8_init 152 = .ok (.iload_n 1, 1) := by decide +kernel
theorem dX8_init_153 : decode cX8_init 153 = .ok (.imul, 1) := by decide +kernel
theorem dX8_init_154 : decode cX8_init 154 = .ok (.iconst 4, 1) := by decide +kernel
theorem dX8_init_155 : decode cX8_init 155 = .ok (.iadd, 1) := by decide +kernel
theorem dX8_init_156 : decode cX8_init 156 = .ok (.lconst 1, 1) := by decide +kernel
theorem dX8_init_157 : decode cX8_init 157 = .ok (.lastore, 1) := by decide +kernel
theorem dX8_init_158 : decode cX8_init 158 = .ok (.iinc 1 1, 3) := by decide +kernel
theorem dX8_init_161 : decode cX8_init 161 = .ok (.goto (-20), 3) := by decide +kernel
theorem dX8_init_164 : decode cX8_init 164 = .ok (.iconst 0, 1) := by decide +kernel
theorem dX8_init_165 : decode cX8_init 165 = .ok (.istore_n 1, 1) := by decide +kernel
theorem dX8_init_166 : decode cX8_init 166 = .ok (.iload_n 1, 1) := by decide +kernel
theorem dX8_init_167 : decode cX8_init 167 = .ok (.iconst 4, 1) := by decide +kernel
theorem dX8_init_168 : decode cX8_init 168 = .ok (.if_icmp .ge 36, 3) := by decide +kernel
theorem dX8_init_171 : decode cX8_init 171 = .ok (.aload_n 0, 1) := by decide +kernel
theorem dX8_init_172 : decode cX8_init 172 = .ok (.getfield 7, 3) := by decide +kernel
theorem dX8_init_175 : decode cX8_init 175 = .ok (.iload_n 1, 1) := by decide +kernel
theorem dX8_init_176 : decode cX8_init 176 = .ok (.iconst (-1), 1) := by decide +kernel
theorem dX8_init_177 : decode cX8_init 177 = .ok (.iastore, 1) := by decide +kernel
theorem dX8_init_178 : decode cX8_init 178 = .ok (.aload_n 0, 1) := by decide +kernel
theorem dX8_init_179 : decode cX8_init 179 = .ok (.getfield 41, 3) := by decide +kernel
theorem dX8_init_182 : decode cX8_init 182 = .ok (.iload_n 1, 1) := by decide +kernel
theorem dX8_init_183 : decode cX8_init 183 = .ok (.iload_n 1, 1) := by decide +kernel
theorem dX8_init_184 : decode cX8_init 184 = .ok (.ifCond .eq 8, 3) := by decide +kernel
theorem dX8_init_187 : decode cX8_init 187 = .ok (.iload_n 1, 1) := by decide +kernel
theorem dX8_init_188 : decode cX8_init 188 = .ok (.iconst 3, 1) := by decide +kernel
theorem dX8_init_189 : decode cX8_init 189 = .ok (.if_icmp .ne 7, 3) := by decide +kernel
theorem dX8_init_192 : decode cX8_init 192 = .ok (.iconst 2, 1) := by decide +kernel
theorem dX8_init_193 : decode cX8_init 193 = .ok (.goto 4, 3) := by decide +kernel
theorem dX8_init_196 : decode cX8_init 196 = .ok (.iconst 1, 1) := by decide +kernel
theorem dX8_init_197 : decode cX8_init 197 = .ok (.iastore, 1) := by decide +kernel
theorem dX8_init_198 : decode cX8_init 198 = .ok (.iinc 1 1, 3) := by decide +kernel
theorem dX8_init_201 : decode cX8_init 201 = .ok (.goto (-35), 3) := by decide +kernel
theorem dX8_init_204 : decode cX8_init 204 = .ok (.aload_n 0, 1) := by decide +kernel
theorem dX8_init_205 : decode cX8_init 205 = .ok (.getfield 35, 3) := by decide +kernel
theorem dX8_init_208 : decode cX8_init 208 = .ok (.iconst 0, 1) := by decide +kernel
theorem dX8_init_209 : decode cX8_init 209 = .ok (.sipush 4095, 3) := by decide +kernel
theorem dX8_init_212 : decode cX8_init 212 = .ok (.iastore, 1) := by decide +kernel
theorem dX8_init_213 : decode cX8_init 213 = .ok (.aload_n 0, 1) := by decide +kernel
theorem dX8_init_214 : decode cX8_init 214 = .ok (.getfield 35, 3) := by decide +kernel
theorem dX8_init_217 : decode cX8_init 217 = .ok (.iconst 1, 1) := by decide +kernel
theorem dX8_init_218 : decode cX8_init 218 = .ok (.sipush 4095, 3) := by decide +kernel
theorem dX8_init_221 : decode cX8_init 221 = .ok (.iastore, 1) := by decide +kernel
theorem dX8_init_222 : decode cX8_init 222 = .ok (.aload_n 0, 1) := by decide +kernel
theorem dX8_init_223 : decode cX8_init 223 = .ok (.bipush 22, 2) := by decide +kernel
theorem dX8_init_225 : decode cX8_init 225 = .ok (.putfield 65, 3) := by decide +kernel
theorem dX8_init_228 : decode cX8_init 228 = .ok (.aload_n 0, 1) := by decide +kernel
theorem dX8_init_229 : decode cX8_init 229 = .ok (.iconst 1, 1) := by decide +kernel
theorem dX8_init_230 : decode cX8_init 230 = .ok (.putfield 69, 3) := by decide +kernel
theorem dX8_init_233 : decode cX8_init 233 = .ok (.return_, 1) := by decide +kernel
theorem dX8_in_0 : decode cX8_in 0 = .ok (.lload_n 0, 1) := by decide +kernel
theorem dX8_in_1 : decode cX8_in 1 = .ok (.lload_n 2, 1) := by decide +kernel
theorem dX8_in_2 : decode cX8_in 2 = .ok (.lcmp, 1) := by decide +kernel
theorem dX8_in_3 : decode cX8_in 3 = .ok (.ifCond .lt 14, 3) := by decide +kernel
theorem dX8_in_6 : decode cX8_in 6 = .ok (.lload_n 0, 1) := by decide +kernel
theorem dX8_in_7 : decode cX8_in 7 = .ok (.lload 4, 2) := by decide +kernel
theorem dX8_in_9 : decode cX8_in 9 = .ok (.lcmp, 1) := by decide +kernel
theorem dX8_in_10 : decode cX8_in 10 = .ok (.ifCond .gt 7, 3) := by decide +kernel
theorem dX8_in_13 : decode cX8_in 13 = .ok (.iconst 1, 1) := by decide +kernel
theorem dX8_in_14 : decode cX8_in 14 = .ok (.goto 4, 3) := by decide +kernel
theorem dX8_in_17 : decode cX8_in 17 = .ok (.iconst 0, 1) := by decide +kernel
theorem dX8_in_18 : decode cX8_in 18 = .ok (.ireturn, 1) := by decide +kernel
theorem dX8_isTwo_0 : decode cX8_isTwo 0 = .ok (.iload_n 0, 1) := by decide +kernel
theorem dX8_isTwo_1 : decode cX8_isTwo 1 = .ok (.i2l, 1) := by decide +kernel
theorem dX8_isTwo_2 : decode cX8_isTwo 2 = .ok (.lconst 0, 1) := by decide +kernel
theorem dX8_isTwo_3 : decode cX8_isTwo 3 = .ok (.lconst 1, 1) := by decide +kernel
theorem dX8_isTwo_4 : decode cX8_isTwo 4 = .ok (.invokestatic 72, 3) := by decide +kernel
theorem dX8_isTwo_7 : decode cX8_isTwo 7 = .ok (.ireturn, 1) := by decide +kernel
theorem dX8_isAngle_0 : decode cX8_isAngle 0 = .ok (.iload_n 0, 1) := by decide +kernel
theorem dX8_isAngle_1 : decode cX8_isAngle 1 = .ok (.i2l, 1) := by decide +kernel
theorem dX8_isAngle_2 : decode cX8_isAngle 2 = .ok (.lconst 0, 1) := by decide +kernel
theorem dX8_isAngle_3 : decode cX8_isAngle 3 = .ok (.ldc2_w 76, 3) := by decide +kernel
theorem dX8_isAngle_6 : decode cX8_isAngle 6 = .ok (.invokestatic 72, 3) := by decide +kernel
theorem dX8_isAngle_9 : decode cX8_isAngle 9 = .ok (.ireturn, 1) := by decide +kernel
theorem dX8_no_0 : decode cX8_no 0 = .ok (.ldc2_w 78, 3) := by decide +kernel
theorem dX8_no_3 : decode cX8_no 3 = .ok (.iload_n 0, 1) := by decide +kernel
theorem dX8_no_4 : decode cX8_no 4 = .ok (.i2l, 1) := by decide +kernel
theorem dX8_no_5 : decode cX8_no 5 = .ok (.lsub, 1) := by decide +kernel
theorem dX8_no_6 : decode cX8_no 6 = .ok (.lreturn, 1) := by decide +kernel
theorem dX8_finds_0 : decode cX8_finds 0 = .ok (.aload_n 0, 1) := by decide +kernel
theorem dX8_finds_1 : decode cX8_finds 1 = .ok (.iload_n 1, 1) := by decide +kernel
theorem dX8_finds_2 : decode cX8_finds 2 = .ok (.putfield 80, 3) := by decide +kernel
theorem dX8_finds_5 : decode cX8_finds 5 = .ok (.bipush (-10), 2) := by decide +kernel
theorem dX8_finds_7 : decode cX8_finds 7 = .ok (.iload_n 1, 1) := by decide +kernel
theorem dX8_finds_8 : decode cX8_finds 8 = .ok (.isub, 1) := by decide +kernel
theorem dX8_finds_9 : decode cX8_finds 9 = .ok (.ireturn, 1) := by decide +kernel
theorem dX8_isSheet_0 : decode cX8_isSheet 0 = .ok (.iload_n 0, 1) := by decide +kernel
theorem dX8_isSheet_1 : decode cX8_isSheet 1 = .ok (.i2l, 1) := by decide +kernel
theorem dX8_isSheet_2 : decode cX8_isSheet 2 = .ok (.lconst 0, 1) := by decide +kernel
theorem dX8_isSheet_3 : decode cX8_isSheet 3 = .ok (.ldc2_w 83, 3) := by decide +kernel
theorem dX8_isSheet_6 : decode cX8_isSheet 6 = .ok (.invokestatic 72, 3) := by decide +kernel
theorem dX8_isSheet_9 : decode cX8_isSheet 9 = .ok (.ireturn, 1) := by decide +kernel
theorem dX8_sheet_0 : decode cX8_sheet 0 = .ok (.iload_n 1, 1) := by decide +kernel
theorem dX8_sheet_1 : decode cX8_sheet 1 = .ok (.invokestatic 85, 3) := by decide +kernel
theorem dX8_sheet_4 : decode cX8_sheet 4 = .ok (.ifCond .eq 9, 3) := by decide +kernel
theorem dX8_sheet_7 : decode cX8_sheet 7 = .ok (.iload_n 2, 1) := by decide +kernel
theorem dX8_sheet_8 : decode cX8_sheet 8 = .ok (.bipush 40, 2) := by decide +kernel
theorem dX8_sheet_10 : decode cX8_sheet 10 = .ok (.if_icmp .le 6, 3) := by decide +kernel
theorem dX8_sheet_13 : decode cX8_sheet 13 = .ok (.bipush (-2), 2) := by decide +kernel
theorem dX8_sheet_15 : decode cX8_sheet 15 = .ok (.ireturn, 1) := by decide +kernel
theorem dX8_sheet_16 : decode cX8_sheet 16 = .ok (.iload_n 2, 1) := by decide +kernel
theorem dX8_sheet_17 : decode cX8_sheet 17 = .ok (.ifCond .ge 9, 3) := by decide +kernel
theorem dX8_sheet_20 : decode cX8_sheet 20 = .ok (.aload_n 0, 1) := by decide +kernel
theorem dX8_sheet_21 : decode cX8_sheet 21 = .ok (.iconst 3, 1) := by decide +kernel
theorem dX8_sheet_22 : decode cX8_sheet 22 = .ok (.invokevirtual 89, 3) := by decide +kernel
theorem dX8_sheet_25 : decode cX8_sheet 25 = .ok (.ireturn, 1) := by decide +kernel
theorem dX8_sheet_26 : decode cX8_sheet 26 = .ok (.aload_n 0, 1) := by decide +kernel
theorem dX8_sheet_27 : decode cX8_sheet 27 = .ok (.getfield 7, 3) := by decide +kernel
theorem dX8_sheet_30 : decode cX8_sheet 30 = .ok (.iload_n 1, 1) := by decide +kernel
theorem dX8_sheet_31 : decode cX8_sheet 31 = .ok (.iload_n 2, 1) := by decide +kernel
theorem dX8_sheet_32 : decode cX8_sheet 32 = .ok (.iastore, 1) := by decide +kernel
theorem dX8_sheet_33 : decode cX8_sheet 33 = .ok (.iconst 0, 1) := by decide +kernel
theorem dX8_sheet_34 : decode cX8_sheet 34 = .ok (.istore_n 3, 1) := by decide +kernel
theorem dX8_sheet_35 : decode cX8_sheet 35 = .ok (.iload_n 3, 1) := by decide +kernel
theorem dX8_sheet_36 : decode cX8_sheet 36 = .ok (.iload_n 2, 1) := by decide +kernel
theorem dX8_sheet_37 : decode cX8_sheet 37 = .ok (.if_icmp .ge 21, 3) := by decide +kernel
theorem dX8_sheet_40 : decode cX8_sheet 40 = .ok (.aload_n 0, 1) := by decide +kernel
theorem dX8_sheet_41 : decode cX8_sheet 41 = .ok (.getfield 13, 3) := by decide +kernel
theorem dX8_sheet_44 : decode cX8_sheet 44 = .ok (.bipush 40, 2) := by decide +kernel
theorem dX8_sheet_46 : decode cX8_sheet 46 = .ok (.iload_n 1, 1) := by decide +kernel
theorem dX8_sheet_47 : decode cX8_sheet 47 = .ok (.imul, 1) := by decide +kernel
theorem dX8_sheet_48 : decode cX8_sheet 48 = .ok (.iload_n 3, 1) := by decide +kernel
theorem dX8_sheet_49 : decode cX8_sheet 49 = .ok (.iadd, 1) := by decide +kernel
theorem dX8_sheet_50 : decode cX8_sheet 50 = .ok (.lconst 0, 1) := by decide +kernel
theorem dX8_sheet_51 : decode cX8_sheet 51 = .ok (.lastore, 1) := by decide +kernel
theorem dX8_sheet_52 : decode cX8_sheet 52 = .ok (.iinc 3 1, 3) := by decide +kernel
theorem dX8_sheet_55 : decode cX8_sheet 55 = .ok (.goto (-20), 3) := by decide +kernel
theorem dX8_sheet_58 : decode cX8_sheet 58 = .ok (.iload_n 2, 1) := by decide +kernel
theorem dX8_sheet_59 : decode cX8_sheet 59 = .ok (.ireturn, 1) := by decide +kernel
theorem dX8_lose_0 : decode cX8_lose 0 = .ok (.iload_n 1, 1) := by decide +kernel
theorem dX8_lose_1 : decode cX8_lose 1 = .ok (.invokestatic 85, 3) := by decide +kernel
theorem dX8_lose_4 : decode cX8_lose 4 = .ok (.ifCond .ne 6, 3) := by decide +kernel
theorem dX8_lose_7 : decode cX8_lose 7 = .ok (.bipush (-2), 2) := by decide +kernel
theorem dX8_lose_9 : decode cX8_lose 9 = .ok (.ireturn, 1) := by decide +kernel
theorem dX8_lose_10 : decode cX8_lose 10 = .ok (.aload_n 0, 1) := by decide +kernel
theorem dX8_lose_11 : decode cX8_lose 11 = .ok (.getfield 7, 3) := by decide +kernel
theorem dX8_lose_14 : decode cX8_lose 14 = .ok (.iload_n 1, 1) := by decide +kernel
theorem dX8_lose_15 : decode cX8_lose 15 = .ok (.iaload, 1) := by decide +kernel
theorem dX8_lose_16 : decode cX8_lose 16 = .ok (.iconst (-1), 1) := by decide +kernel
theorem dX8_lose_17 : decode cX8_lose 17 = .ok (.if_icmp .ne 9, 3) := by decide +kernel
theorem dX8_lose_20 : decode cX8_lose 20 = .ok (.aload_n 0, 1) := by decide +kernel
theorem dX8_lose_21 : decode cX8_lose 21 = .ok (.iconst 1, 1) := by decide +kernel
theorem dX8_lose_22 : decode cX8_lose 22 = .ok (.invokevirtual 89, 3) := by decide +kernel
theorem dX8_lose_25 : decode cX8_lose 25 = .ok (.ireturn, 1) := by decide +kernel
theorem dX8_lose_26 : decode cX8_lose 26 = .ok (.aload_n 0, 1) := by decide +kernel
theorem dX8_lose_27 : decode cX8_lose 27 = .ok (.getfield 7, 3) := by decide +kernel
theorem dX8_lose_30 : decode cX8_lose 30 = .ok (.iload_n 1, 1) := by decide +kernel
theorem dX8_lose_31 : decode cX8_lose 31 = .ok (.iaload, 1) := by decide +kernel
theorem dX8_lose_32 : decode cX8_lose 32 = .ok (.istore_n 2, 1) := by decide +kernel
theorem dX8_lose_33 : decode cX8_lose 33 = .ok (.aload_n 0, 1) := by decide +kernel
theorem dX8_lose_34 : decode cX8_lose 34 = .ok (.getfield 7, 3) := by decide +kernel
theorem dX8_lose_37 : decode cX8_lose 37 = .ok (.iload_n 1, 1) := by decide +kernel
theorem dX8_lose_38 : decode cX8_lose 38 = .ok (.iconst (-1), 1) := by decide +kernel
theorem dX8_lose_39 : decode cX8_lose 39 = .ok (.iastore, 1) := by decide +kernel
theorem dX8_lose_40 : decode cX8_lose 40 = .ok (.iload_n 2, 1) := by decide +kernel
theorem dX8_lose_41 : decode cX8_lose 41 = .ok (.ireturn, 1) := by decide +kernel
theorem dX8_lacks_0 : decode cX8_lacks 0 = .ok (.aload_n 0, 1) := by decide +kernel
theorem dX8_lacks_1 : decode cX8_lacks 1 = .ok (.getfield 7, 3) := by decide +kernel
theorem dX8_lacks_4 : decode cX8_lacks 4 = .ok (.iload_n 1, 1) := by decide +kernel
theorem dX8_lacks_5 : decode cX8_lacks 5 = .ok (.iaload, 1) := by decide +kernel
theorem dX8_lacks_6 : decode cX8_lacks 6 = .ok (.iconst (-1), 1) := by decide +kernel
theorem dX8_lacks_7 : decode cX8_lacks 7 = .ok (.if_icmp .ne 11, 3) := by decide +kernel
theorem dX8_lacks_10 : decode cX8_lacks 10 = .ok (.aload_n 0, 1) := by decide +kernel
theorem dX8_lacks_11 : decode cX8_lacks 11 = .ok (.iconst 1, 1) := by decide +kernel
theorem dX8_lacks_12 : decode cX8_lacks 12 = .ok (.invokevirtual 89, 3) := by decide +kernel
theorem dX8_lacks_15 : decode cX8_lacks 15 = .ok (.goto 30, 3) := by decide +kernel
theorem dX8_lacks_18 : decode cX8_lacks 18 = .ok (.iload_n 2, 1) := by decide +kernel
theorem dX8_lacks_19 : decode cX8_lacks 19 = .ok (.i2l, 1) := by decide +kernel
theorem dX8_lacks_20 : decode cX8_lacks 20 = .ok (.lconst 0, 1) := by decide +kernel
theorem dX8_lacks_21 : decode cX8_lacks 21 = .ok (.aload_n 0, 1) := by decide +kernel
theorem dX8_lacks_22 : decode cX8_lacks 22 = .ok (.getfield 7, 3) := by decide +kernel
theorem dX8_lacks_25 : decode cX8_lacks 25 = .ok (.iload_n 1, 1) := by decide +kernel
theorem dX8_lacks_26 : decode cX8_lacks 26 = .ok (.iaload, 1) := by decide +kernel
theorem dX8_lacks_27 : decode cX8_lacks 27 = .ok (.iconst 1, 1) := by decide +kernel
theorem dX8_lacks_28 : decode cX8_lacks 28 = .ok (.isub, 1) := by decide +kernel
theorem dX8_lacks_29 : decode cX8_lacks 29 = .ok (.i2l, 1) := by decide +kernel
theorem dX8_lacks_30 : decode cX8_lacks 30 = .ok (.invokestatic 72, 3) := by decide +kernel
theorem dX8_lacks_33 : decode cX8_lacks 33 = .ok (.ifCond .eq 7, 3) := by decide +kernel
theorem dX8_lacks_36 : decode cX8_lacks 36 = .ok (.iconst 0, 1) := by decide +kernel
theorem dX8_lacks_37 : decode cX8_lacks 37 = .ok (.goto 8, 3) := by decide +kernel
theorem dX8_lacks_40 : decode cX8_lacks 40 = .ok (.aload_n 0, 1) := by decide +kernel
theorem dX8_lacks_41 : decode cX8_lacks 41 = .ok (.iconst 2, 1) := by decide +kernel
theorem dX8_lacks_42 : decode cX8_lacks 42 = .ok (.invokevirtual 89, 3) := by decide +kernel
theorem dX8_lacks_45 : decode cX8_lacks 45 = .ok (.ireturn, 1) := by decide +kernel
theorem dX8_lay_0 : decode cX8_lay 0 = .ok (.iload_n 1, 1) := by decide +kernel
theorem dX8_lay_1 : decode cX8_lay 1 = .ok (.invokestatic 85, 3) := by decide +kernel
theorem dX8_lay_4 : decode cX8_lay 4 = .ok (.ifCond .eq 16, 3) := by decide +kernel
theorem dX8_lay_7 : decode cX8_lay 7 = .ok (.iload 4, 2) := by decide +kernel
theorem dX8_lay_9 : decode cX8_lay 9 = .ok (.i2l, 1) := by decide +kernel
theorem dX8_lay_10 : decode cX8_lay 10 = .ok (.lconst 0, 1) := by decide +kernel
theorem dX8_lay_11 : decode cX8_lay 11 = .ok (.ldc2_w 93, 3) := by decide +kernel
theorem dX8_lay_14 : decode cX8_lay 14 = .ok (.invokestatic 72, 3) := by decide +kernel
theorem dX8_lay_17 : decode cX8_lay 17 = .ok (.ifCond .ne 6, 3) := by decide +kernel
theorem dX8_lay_20 : decode cX8_lay 20 = .ok (.bipush (-2), 2) := by decide +kernel
theorem dX8_lay_22 : decode cX8_lay 22 = .ok (.ireturn, 1) := by decide +kernel
theorem dX8_lay_23 : decode cX8_lay 23 = .ok (.aload_n 0, 1) := by decide +kernel
theorem dX8_lay_24 : decode cX8_lay 24 = .ok (.iload_n 1, 1) := by decide +kernel
theorem dX8_lay_25 : decode cX8_lay 25 = .ok (.iload_n 2, 1) := by decide +kernel
theorem dX8_lay_26 : decode cX8_lay 26 = .ok (.invokevirtual 95, 3) := by decide +kernel
theorem dX8_lay_29 : decode cX8_lay 29 = .ok (.istore 5, 2) := by decide +kernel
theorem dX8_lay_31 : decode cX8_lay 31 = .ok (.iload 5, 2) := by decide +kernel
theorem dX8_lay_33 : decode cX8_lay 33 = .ok (.ifCond .eq 6, 3) := by decide +kernel
theorem dX8_lay_36 : decode cX8_lay 36 = .ok (.iload 5, 2) := by decide +kernel
theorem dX8_lay_38 : decode cX8_lay 38 = .ok (.ireturn, 1) := by decide +kernel
theorem dX8_lay_39 : decode cX8_lay 39 = .ok (.aload_n 0, 1) := by decide +kernel
theorem dX8_lay_40 : decode cX8_lay 40 = .ok (.getfield 13, 3) := by decide +kernel
theorem dX8_lay_43 : decode cX8_lay 43 = .ok (.bipush 40, 2) := by decide +kernel
theorem dX8_lay_45 : decode cX8_lay 45 = .ok (.iload_n 1, 1) := by decide +kernel
theorem dX8_lay_46 : decode cX8_lay 46 = .ok (.imul, 1) := by decide +kernel
theorem dX8_lay_47 : decode cX8_lay 47 = .ok (.iload_n 2, 1) := by decide +kernel
theorem dX8_lay_48 : decode cX8_lay 48 = .ok (.iadd, 1) := by decide +kernel
theorem dX8_lay_49 : decode cX8_lay 49 = .ok (.iload_n 3, 1) := by decide +kernel
theorem dX8_lay_50 : decode cX8_lay 50 = .ok (.i2l, 1) := by decide +kernel
theorem dX8_lay_51 : decode cX8_lay 51 = .ok (.iload 4, 2) := by decide +kernel
theorem dX8_lay_53 : decode cX8_lay 53 = .ok (.lshl, 1) := by decide +kernel
theorem dX8_lay_54 : decode cX8_lay 54 = .ok (.lastore, 1) := by decide +kernel
theorem dX8_lay_55 : decode cX8_lay 55 = .ok (.iconst 1, 1) := by decide +kernel
theorem dX8_lay_56 : decode cX8_lay 56 = .ok (.ireturn, 1) := by decide +kernel
theorem dX8_get_0 : decode cX8_get 0 = .ok (.iload_n 1, 1) := by decide +kernel
theorem dX8_get_1 : decode cX8_get 1 = .ok (.invokestatic 85, 3) := by decide +kernel
theorem dX8_get_4 : decode cX8_get 4 = .ok (.ifCond .ne 9, 3) := by decide +kernel
theorem dX8_get_7 : decode cX8_get 7 = .ok (.bipush (-2), 2) := by decide +kernel
theorem dX8_get_9 : decode cX8_get 9 = .ok (.invokestatic 99, 3) := by decide +kernel
theorem dX8_get_12 : decode cX8_get 12 = .ok (.lreturn, 1) := by decide +kernel
theorem dX8_get_13 : decode cX8_get 13 = .ok (.aload_n 0, 1) := by decide +kernel
theorem dX8_get_14 : decode cX8_get 14 = .ok (.iload_n 1, 1) := by decide +kernel
theorem dX8_get_15 : decode cX8_get 15 = .ok (.iload_n 2, 1) := by decide +kernel
theorem dX8_get_16 : decode cX8_get 16 = .ok (.invokevirtual 95, 3) := by decide +kernel
theorem dX8_get_19 : decode cX8_get 19 = .ok (.istore_n 3, 1) := by decide +kernel
theorem dX8_get_20 : decode cX8_get 20 = .ok (.iload_n 3, 1) := by decide +kernel
theorem dX8_get_21 : decode cX8_get 21 = .ok (.ifCond .eq 10, 3) := by decide +kernel
theorem dX8_get_24 : decode cX8_get 24 = .ok (.iload_n 3, 1) := by decide +kernel
theorem dX8_get_25 : decode cX8_get 25 = .ok (.invokestatic 99, 3) := by decide +kernel
theorem dX8_get_28 : decode cX8_get 28 = .ok (.goto 14, 3) := by decide +kernel
theorem dX8_get_31 : decode cX8_get 31 = .ok (.aload_n 0, 1) := by decide +kernel
theorem dX8_get_32 : decode cX8_get 32 = .ok (.getfield 13, 3) := by decide +kernel
theorem dX8_get_35 : decode cX8_get 35 = .ok (.bipush 40, 2) := by decide +kernel
theorem dX8_get_37 : decode cX8_get 37 = .ok (.iload_n 1, 1) := by decide +kernel
theorem dX8_get_38 : decode cX8_get 38 = .ok (.imul, 1) := by decide +kernel
theorem dX8_get_39 : decode cX8_get 39 = .ok (.iload_n 2, 1) := by decide +kernel
theorem dX8_get_40 : decode cX8_get 40 = .ok (.iadd, 1) := by decide +kernel
theorem dX8_get_41 : decode cX8_get 41 = .ok (.laload, 1) := by decide +kernel
theorem dX8_get_42 : decode cX8_get 42 = .ok (.lreturn, 1) := by decide +kernel
theorem dX8_copy_0 : decode cX8_copy 0 = .ok (.iload_n 1, 1) := by decide +kernel
theorem dX8_copy_1 : decode cX8_copy 1 = .ok (.invokestatic 85, 3) := by decide +kernel
theorem dX8_copy_4 : decode cX8_copy 4 = .ok (.ifCond .eq 10, 3) := by decide +kernel
theorem dX8_copy_7 : decode cX8_copy 7 = .ok (.iload_n 3, 1) := by decide +kernel
theorem dX8_copy_8 : decode cX8_copy 8 = .ok (.invokestatic 85, 3) := by decide +kernel
theorem dX8_copy_11 : decode cX8_copy 11 = .ok (.ifCond .ne 6, 3) := by decide +kernel
theorem dX8_copy_14 : decode cX8_copy 14 = .ok (.bipush (-2), 2) := by decide +kernel
theorem dX8_copy_16 : decode cX8_copy 16 = .ok (.ireturn, 1) := by decide +kernel
theorem dX8_copy_17 : decode cX8_copy 17 = .ok (.aload_n 0, 1) := by decide +kernel
theorem dX8_copy_18 : decode cX8_copy 18 = .ok (.getfield 7, 3) := by decide +kernel
theorem dX8_copy_21 : decode cX8_copy 21 = .ok (.iload_n 1, 1) := by decide +kernel
theorem dX8_copy_22 : decode cX8_copy 22 = .ok (.iaload, 1) := by decide +kernel
theorem dX8_copy_23 : decode cX8_copy 23 = .ok (.iconst (-1), 1) := by decide +kernel
theorem dX8_copy_24 : decode cX8_copy 24 = .ok (.if_icmp .eq 13, 3) := by decide +kernel
theorem dX8_copy_27 : decode cX8_copy 27 = .ok (.aload_n 0, 1) := by decide +kernel
theorem dX8_copy_28 : decode cX8_copy 28 = .ok (.getfield 7, 3) := by decide +kernel
theorem dX8_copy_31 : decode cX8_copy 31 = .ok (.iload_n 3, 1) := by decide +kernel
theorem dX8_copy_32 : decode cX8_copy 32 = .ok (.iaload, 1) := by decide +kernel
theorem dX8_copy_33 : decode cX8_copy 33 = .ok (.iconst (-1), 1) := by decide +kernel
theorem dX8_copy_34 : decode cX8_copy 34 = .ok (.if_icmp .ne 9, 3) := by decide +kernel
theorem dX8_copy_37 : decode cX8_copy 37 = .ok (.aload_n 0, 1) := by decide +kernel
theorem dX8_copy_38 : decode cX8_copy 38 = .ok (.iconst 1, 1) := by decide +kernel
theorem dX8_copy_39 : decode cX8_copy 39 = .ok (.invokevirtual 89, 3) := by decide +kernel
theorem dX8_copy_42 : decode cX8_copy 42 = .ok (.ireturn, 1) := by decide +kernel
theorem dX8_copy_43 : decode cX8_copy 43 = .ok (.iload_n 2, 1) := by decide +kernel
theorem dX8_copy_44 : decode cX8_copy 44 = .ok (.ifCond .lt 48, 3) := by decide +kernel
theorem dX8_copy_47 : decode cX8_copy 47 = .ok (.iload 4, 2) := by decide +kernel
theorem dX8_copy_49 : decode cX8_copy 49 = .ok (.ifCond .lt 43, 3) := by decide +kernel
theorem dX8_copy_52 : decode cX8_copy 52 = .ok (.iload 5, 2) := by decide +kernel
theorem dX8_copy_54 : decode cX8_copy 54 = .ok (.ifCond .lt 38, 3) := by decide +kernel
theorem dX8_copy_57 : decode cX8_copy 57 = .ok (.iload_n 2, 1) := by decide +kernel
theorem dX8_copy_58 : decode cX8_copy 58 = .ok (.i2l, 1) := by decide +kernel
theorem dX8_copy_59 : decode cX8_copy 59 = .ok (.iload 5, 2) := by decide +kernel
theorem dX8_copy_61 : decode cX8_copy 61 = .ok (.i2l, 1) := by decide +kernel
theorem dX8_copy_62 : decode cX8_copy 62 = .ok (.ladd, 1) := by decide +kernel
theorem dX8_copy_63 : decode cX8_copy 63 = .ok (.aload_n 0, 1) := by decide +kernel
theorem dX8_copy_64 : decode cX8_copy 64 = .ok (.getfield 7, 3) := by decide +kernel
theorem dX8_copy_67 : decode cX8_copy 67 = .ok (.iload_n 1, 1) := by decide +kernel
theorem dX8_copy_68 : decode cX8_copy 68 = .ok (.iaload, 1) := by decide +kernel
theorem dX8_copy_69 : decode cX8_copy 69 = .ok (.i2l, 1) := by decide +kernel
theorem dX8_copy_70 : decode cX8_copy 70 = .ok (.lcmp, 1) := by decide +kernel
theorem dX8_copy_71 : decode cX8_copy 71 = .ok (.ifCond .gt 21, 3) := by decide +kernel
theorem dX8_copy_74 : decode cX8_copy 74 = .ok (.iload 4, 2) := by decide +kernel
theorem dX8_copy_76 : decode cX8_copy 76 = .ok (.i2l, 1) := by decide +kernel
theorem dX8_copy_77 : decode cX8_copy 77 = .ok (.iload 5, 2) := by decide +kernel
theorem dX8_copy_79 : decode cX8_copy 79 = .ok (.i2l, 1) := by decide +kernel
theorem dX8_copy_80 : decode cX8_copy 80 = .ok (.ladd, 1) := by decide +kernel
theorem dX8_copy_81 : decode cX8_copy 81 = .ok (.aload_n 0, 1) := by decide +kernel
theorem dX8_copy_82 : decode cX8_copy 82 = .ok (.getfield 7, 3) := by decide +kernel
theorem dX8_copy_85 : decode cX8_copy 85 = .ok (.iload_n 3, 1) := by decide +kernel
theorem dX8_copy_86 : decode cX8_copy 86 = .ok (.iaload, 1) := by decide +kernel
theorem dX8_copy_87 : decode cX8_copy 87 = .ok (.i2l, 1) := by decide +kernel
theorem dX8_copy_88 : decode cX8_copy 88 = .ok (.lcmp, 1) := by decide +kernel
theorem dX8_copy_89 : decode cX8_copy 89 = .ok (.ifCond .le 9, 3) := by decide +kernel
theorem dX8_copy_92 : decode cX8_copy 92 = .ok (.aload_n 0, 1) := by decide +kernel
theorem dX8_copy_93 : decode cX8_copy 93 = .ok (.iconst 2, 1) := by decide +kernel
theorem dX8_copy_94 : decode cX8_copy 94 = .ok (.invokevirtual 89, 3) := by decide +kernel
theorem dX8_copy_97 : decode cX8_copy 97 = .ok (.ireturn, 1) := by decide +kernel
theorem dX8_copy_98 : decode cX8_copy 98 = .ok (.iconst 0, 1) := by decide +kernel
theorem dX8_copy_99 : decode cX8_copy 99 = .ok (.istore 6, 2) := by decide +kernel
theorem dX8_copy_101 : decode cX8_copy 101 = .ok (.iload 6, 2) := by decide +kernel
theorem dX8_copy_103 : decode cX8_copy 103 = .ok (.iload 5, 2) := by decide +kernel
theorem dX8_copy_105 : decode cX8_copy 105 = .ok (.if_icmp .ge 30, 3) := by decide +kernel
theorem dX8_copy_108 : decode cX8_copy 108 = .ok (.aload_n 0, 1) := by decide +kernel
theorem dX8_copy_109 : decode cX8_copy 109 = .ok (.getfield 17, 3) := by decide +kernel
theorem dX8_copy_112 : decode cX8_copy 112 = .ok (.iload 6, 2) := by decide +kernel
theorem dX8_copy_114 : decode cX8_copy 114 = .ok (.aload_n 0, 1) := by decide +kernel
theorem dX8_copy_115 : decode cX8_copy 115 = .ok (.getfield 13, 3) := by decide +kernel
theorem dX8_copy_118 : decode cX8_copy 118 = .ok (.bipush 40, 2) := by decide +kernel
theorem dX8_copy_120 : decode cX8_copy 120 = .ok (.iload_n 1, 1) := by decide +kernel
theorem dX8_copy_121 : decode cX8_copy 121 = .ok (.imul, 1) := by decide +kernel
theorem dX8_copy_122 : decode cX8_copy 122 = .ok (.iload_n 2, 1) := by decide +kernel
theorem dX8_copy_123 : decode cX8_copy 123 = .ok (.iadd, 1) := by decide +kernel
theorem dX8_copy_124 : decode cX8_copy 124 = .ok (.iload 6, 2) := by decide +kernel
theorem dX8_copy_126 : decode cX8_copy 126 = .ok (.iadd, 1) := by decide +kernel
theorem dX8_copy_127 : decode cX8_copy 127 = .ok (.laload, 1) := by decide +kernel
theorem dX8_copy_128 : decode cX8_copy 128 = .ok (.lastore, 1) := by decide +kernel
theorem dX8_copy_129 : decode cX8_copy 129 = .ok (.iinc 6 1, 3) := by decide +kernel
theorem dX8_copy_132 : decode cX8_copy 132 = .ok (.goto (-31), 3) := by decide +kernel
theorem dX8_copy_135 : decode cX8_copy 135 = .ok (.iconst 0, 1) := by decide +kernel
theorem dX8_copy_136 : decode cX8_copy 136 = .ok (.istore 6, 2) := by decide +kernel
theorem dX8_copy_138 : decode cX8_copy 138 = .ok (.iload 6, 2) := by decide +kernel
theorem dX8_copy_140 : decode cX8_copy 140 = .ok (.iload 5, 2) := by decide +kernel
theorem dX8_copy_142 : decode cX8_copy 142 = .ok (.if_icmp .ge 31, 3) := by decide +kernel
theorem dX8_copy_145 : decode cX8_copy 145 = .ok (.aload_n 0, 1) := by decide +kernel
theorem dX8_copy_146 : decode cX8_copy 146 = .ok (.getfield 13, 3) := by decide +kernel
theorem dX8_copy_149 : decode cX8_copy 149 = .ok (.bipush 40, 2) := by decide +kernel
theorem dX8_copy_151 : decode cX8_copy 151 = .ok (.iload_n 3, 1) := by decide +kernel
theorem dX8_copy_152 : decode cX8_copy 152 = .ok (.imul, 1) := by decide +kernel
theorem dX8_copy_153 : decode cX8_copy 153 = .ok (.iload 4, 2) := by decide +kernel
theorem dX8_copy_155 : decode cX8_copy 155 = .ok (.iadd, 1) := by decide +kernel
theorem dX8_copy_156 : decode cX8_copy 156 = .ok (.iload 6, 2) := by decide +kernel
theorem dX8_copy_158 : decode cX8_copy 158 = .ok (.iadd, 1) := by decide +kernel
theorem dX8_copy_159 : decode cX8_copy 159 = .ok (.aload_n 0, 1) := by decide +kernel
theorem dX8_copy_160 : decode cX8_copy 160 = .ok (.getfield 17, 3) := by decide +kernel
theorem dX8_copy_163 : decode cX8_copy 163 = .ok (.iload 6, 2) := by decide +kernel
theorem dX8_copy_165 : decode cX8_copy 165 = .ok (.laload, 1) := by decide +kernel
theorem dX8_copy_166 : decode cX8_copy 166 = .ok (.lastore, 1) := by decide +kernel
theorem dX8_copy_167 : decode cX8_copy 167 = .ok (.iinc 6 1, 3) := by decide +kernel
theorem dX8_copy_170 : decode cX8_copy 170 = .ok (.goto (-32), 3) := by decide +kernel
theorem dX8_copy_173 : decode cX8_copy 173 = .ok (.iconst 1, 1) := by decide +kernel
theorem dX8_copy_174 : decode cX8_copy 174 = .ok (.ireturn, 1) := by decide +kernel
theorem dX8_times_0 : decode cX8_times 0 = .ok (.lload_n 1, 1) := by decide +kernel
theorem dX8_times_1 : decode cX8_times 1 = .ok (.lload_n 3, 1) := by decide +kernel
theorem dX8_times_2 : decode cX8_times 2 = .ok (.lmul, 1) := by decide +kernel
theorem dX8_times_3 : decode cX8_times 3 = .ok (.lstore 5, 2) := by decide +kernel
theorem dX8_times_5 : decode cX8_times 5 = .ok (.lload_n 1, 1) := by decide +kernel
theorem dX8_times_6 : decode cX8_times 6 = .ok (.lconst 0, 1) := by decide +kernel
theorem dX8_times_7 : decode cX8_times 7 = .ok (.lcmp, 1) := by decide +kernel
theorem dX8_times_8 : decode cX8_times 8 = .ok (.ifCond .eq 78, 3) := by decide +kernel
theorem dX8_times_11 : decode cX8_times 11 = .ok (.lload_n 3, 1) := by decide +kernel
theorem dX8_times_12 : decode cX8_times 12 = .ok (.lconst 0, 1) := by decide +kernel
theorem dX8_times_13 : decode cX8_times 13 = .ok (.lcmp, 1) := by decide +kernel
theorem dX8_times_14 : decode cX8_times 14 = .ok (.ifCond .eq 72, 3) := by decide +kernel
theorem dX8_times_17 : decode cX8_times 17 = .ok (.lload_n 1, 1) := by decide +kernel
theorem dX8_times_18 : decode cX8_times 18 = .ok (.ldc2_w 103, 3) := by decide +kernel
theorem dX8_times_21 : decode cX8_times 21 = .ok (.lcmp, 1) := by decide +kernel
theorem dX8_times_22 : decode cX8_times 22 = .ok (.ifCond .ne 11, 3) := by decide +kernel
theorem dX8_times_25 : decode cX8_times 25 = .ok (.lload_n 3, 1) := by decide +kernel
theorem dX8_times_26 : decode cX8_times 26 = .ok (.ldc2_w 78, 3) := by decide +kernel
theorem dX8_times_29 : decode cX8_times 29 = .ok (.lcmp, 1) := by decide +kernel
theorem dX8_times_30 : decode cX8_times 30 = .ok (.ifCond .eq 19, 3) := by decide +kernel
theorem dX8_times_33 : decode cX8_times 33 = .ok (.lload_n 3, 1) := by decide +kernel
theorem dX8_times_34 : decode cX8_times 34 = .ok (.ldc2_w 103, 3) := by decide +kernel
theorem dX8_times_37 : decode cX8_times 37 = .ok (.lcmp, 1) := by decide +kernel
theorem dX8_times_38 : decode cX8_times 38 = .ok (.ifCond .ne 15, 3) := by decide +kernel
theorem dX8_times_41 : decode cX8_times 41 = .ok (.lload_n 1, 1) := by decide +kernel
theorem dX8_times_42 : decode cX8_times 42 = .ok (.ldc2_w 78, 3) := by decide +kernel
theorem dX8_times_45 : decode cX8_times 45 = .ok (.lcmp, 1) := by decide +kernel
theorem dX8_times_46 : decode cX8_times 46 = .ok (.ifCond .ne 7, 3) := by decide +kernel
theorem dX8_times_49 : decode cX8_times 49 = .ok (.iconst 1, 1) := by decide +kernel
theorem dX8_times_50 : decode cX8_times 50 = .ok (.goto 4, 3) := by decide +kernel
theorem dX8_times_53 : decode cX8_times 53 = .ok (.iconst 0, 1) := by decide +kernel
theorem dX8_times_54 : decode cX8_times 54 = .ok (.istore 7, 2) := by decide +kernel
theorem dX8_times_56 : decode cX8_times 56 = .ok (.aload_n 0, 1) := by decide +kernel
theorem dX8_times_57 : decode cX8_times 57 = .ok (.aload_n 0, 1) := by decide +kernel
theorem dX8_times_58 : decode cX8_times 58 = .ok (.getfield 105, 3) := by decide +kernel
theorem dX8_times_61 : decode cX8_times 61 = .ok (.ifCond .ne 17, 3) := by decide +kernel
theorem dX8_times_64 : decode cX8_times 64 = .ok (.iload 7, 2) := by decide +kernel
theorem dX8_times_66 : decode cX8_times 66 = .ok (.ifCond .ne 12, 3) := by decide +kernel
theorem dX8_times_69 : decode cX8_times 69 = .ok (.lload 5, 2) := by decide +kernel
theorem dX8_times_71 : decode cX8_times 71 = .ok (.lload_n 3, 1) := by decide +kernel
theorem dX8_times_72 : decode cX8_times 72 = .ok (.ldiv, 1) := by decide +kernel
theorem dX8_times_73 : decode cX8_times 73 = .ok (.lload_n 1, 1) := by decide +kernel
theorem dX8_times_74 : decode cX8_times 74 = .ok (.lcmp, 1) := by decide +kernel
theorem dX8_times_75 : decode cX8_times 75 = .ok (.ifCond .eq 7, 3) := by decide +kernel
theorem dX8_times_78 : decode cX8_times 78 = .ok (.iconst 1, 1) := by decide +kernel
theorem dX8_times_79 : decode cX8_times 79 = .ok (.goto 4, 3) := by decide +kernel
theorem dX8_times_82 : decode cX8_times 82 = .ok (.iconst 0, 1) := by decide +kernel
theorem dX8_times_83 : decode cX8_times 83 = .ok (.putfield 105, 3) := by decide +kernel
theorem dX8_times_86 : decode cX8_times 86 = .ok (.lload 5, 2) := by decide +kernel
theorem dX8_times_88 : decode cX8_times 88 = .ok (.lreturn, 1) := by decide +kernel
theorem dX8_and_0 : decode cX8_and 0 = .ok (.lload_n 1, 1) := by decide +kernel
theorem dX8_and_1 : decode cX8_and 1 = .ok (.lload_n 3, 1) := by decide +kernel
theorem dX8_and_2 : decode cX8_and 2 = .ok (.ladd, 1) := by decide +kernel
theorem dX8_and_3 : decode cX8_and 3 = .ok (.lstore 5, 2) := by decide +kernel
theorem dX8_and_5 : decode cX8_and 5 = .ok (.aload_n 0, 1) := by decide +kernel
theorem dX8_and_6 : decode cX8_and 6 = .ok (.aload_n 0, 1) := by decide +kernel
theorem dX8_and_7 : decode cX8_and 7 = .ok (.getfield 105, 3) := by decide +kernel
theorem dX8_and_10 : decode cX8_and 10 = .ok (.ifCond .ne 17, 3) := by decide +kernel
theorem dX8_and_13 : decode cX8_and 13 = .ok (.lload_n 1, 1) := by decide +kernel
theorem dX8_and_14 : decode cX8_and 14 = .ok (.lload 5, 2) := by decide +kernel
theorem dX8_and_16 : decode cX8_and 16 = .ok (.lxor, 1) := by decide +kernel
theorem dX8_and_17 : decode cX8_and 17 = .ok (.lload_n 3, 1) := by decide +kernel
theorem dX8_and_18 : decode cX8_and 18 = .ok (.lload 5, 2) := by decide +kernel
theorem dX8_and_20 : decode cX8_and 20 = .ok (.lxor, 1) := by decide +kernel
theorem dX8_and_21 : decode cX8_and 21 = .ok (.land, 1) := by decide +kernel
theorem dX8_and_22 : decode cX8_and 22 = .ok (.lconst 0, 1) := by decide +kernel
theorem dX8_and_23 : decode cX8_and 23 = .ok (.lcmp, 1) := by decide +kernel
theorem dX8_and_24 : decode cX8_and 24 = .ok (.ifCond .ge 7, 3) := by decide +kernel
theorem dX8_and_27 : decode cX8_and 27 = .ok (.iconst 1, 1) := by decide +kernel
theorem dX8_and_28 : decode cX8_and 28 = .ok (.goto 4, 3) := by decide +kernel
theorem dX8_and_31 : decode cX8_and 31 = .ok (.iconst 0, 1) := by decide +kernel
theorem dX8_and_32 : decode cX8_and 32 = .ok (.putfield 105, 3) := by decide +kernel
theorem dX8_and_35 : decode cX8_and 35 = .ok (.lload 5, 2) := by decide +kernel
theorem dX8_and_37 : decode cX8_and 37 = .ok (.lreturn, 1) := by decide +kernel
theorem dX8_less_0 : decode cX8_less 0 = .ok (.lload_n 1, 1) := by decide +kernel
theorem dX8_less_1 : decode cX8_less 1 = .ok (.lload_n 3, 1) := by decide +kernel
theorem dX8_less_2 : decode cX8_less 2 = .ok (.lsub, 1) := by decide +kernel
theorem dX8_less_3 : decode cX8_less 3 = .ok (.lstore 5, 2) := by decide +kernel
theorem dX8_less_5 : decode cX8_less 5 = .ok (.aload_n 0, 1) := by decide +kernel
theorem dX8_less_6 : decode cX8_less 6 = .ok (.aload_n 0, 1) := by decide +kernel
theorem dX8_less_7 : decode cX8_less 7 = .ok (.getfield 105, 3) := by decide +kernel
theorem dX8_less_10 : decode cX8_less 10 = .ok (.ifCond .ne 16, 3) := by decide +kernel
theorem dX8_less_13 : decode cX8_less 13 = .ok (.lload_n 1, 1) := by decide +kernel
theorem dX8_less_14 : decode cX8_less 14 = .ok (.lload_n 3, 1) := by decide +kernel
theorem dX8_less_15 : decode cX8_less 15 = .ok (.lxor, 1) := by decide +kernel
theorem dX8_less_16 : decode cX8_less 16 = .ok (.lload_n 1, 1) := by decide +kernel
theorem dX8_less_17 : decode cX8_less 17 = .ok (.lload 5, 2) := by decide +kernel
theorem dX8_less_19 : decode cX8_less 19 = .ok (.lxor, 1) := by decide +kernel
theorem dX8_less_20 : decode cX8_less 20 = .ok (.land, 1) := by decide +kernel
theorem dX8_less_21 : decode cX8_less 21 = .ok (.lconst 0, 1) := by decide +kernel
theorem dX8_less_22 : decode cX8_less 22 = .ok (.lcmp, 1) := by decide +kernel
theorem dX8_less_23 : decode cX8_less 23 = .ok (.ifCond .ge 7, 3) := by decide +kernel
theorem dX8_less_26 : decode cX8_less 26 = .ok (.iconst 1, 1) := by decide +kernel
theorem dX8_less_27 : decode cX8_less 27 = .ok (.goto 4, 3) := by decide +kernel
theorem dX8_less_30 : decode cX8_less 30 = .ok (.iconst 0, 1) := by decide +kernel
theorem dX8_less_31 : decode cX8_less 31 = .ok (.putfield 105, 3) := by decide +kernel
theorem dX8_less_34 : decode cX8_less 34 = .ok (.lload 5, 2) := by decide +kernel
theorem dX8_less_36 : decode cX8_less 36 = .ok (.lreturn, 1) := by decide +kernel
theorem dX8_turned_0 : decode cX8_turned 0 = .ok (.aload_n 0, 1) := by decide +kernel
theorem dX8_turned_1 : decode cX8_turned 1 = .ok (.lconst 0, 1) := by decide +kernel
theorem dX8_turned_2 : decode cX8_turned 2 = .ok (.lload_n 1, 1) := by decide +kernel
theorem dX8_turned_3 : decode cX8_turned 3 = .ok (.invokevirtual 109, 3) := by decide +kernel
theorem dX8_turned_6 : decode cX8_turned 6 = .ok (.lreturn, 1) := by decide +kernel
theorem dX8_shared_0 : decode cX8_shared 0 = .ok (.lload_n 0, 1) := by decide +kernel
theorem dX8_shared_1 : decode cX8_shared 1 = .ok (.lstore 4, 2) := by decide +kernel
theorem dX8_shared_3 : decode cX8_shared 3 = .ok (.lload_n 2, 1) := by decide +kernel
theorem dX8_shared_4 : decode cX8_shared 4 = .ok (.lstore 6, 2) := by decide +kernel
theorem dX8_shared_6 : decode cX8_shared 6 = .ok (.iconst 0, 1) := by decide +kernel
theorem dX8_shared_7 : decode cX8_shared 7 = .ok (.istore 8, 2) := by decide +kernel
theorem dX8_shared_9 : decode cX8_shared 9 = .ok (.iload 8, 2) := by decide +kernel
theorem dX8_shared_11 : decode cX8_shared 11 = .ok (.sipush 200, 3) := by decide +kernel
theorem dX8_shared_14 : decode cX8_shared 14 = .ok (.if_icmp .ge 31, 3) := by decide +kernel
theorem dX8_shared_17 : decode cX8_shared 17 = .ok (.lload 6, 2) := by decide +kernel
theorem dX8_shared_19 : decode cX8_shared 19 = .ok (.lconst 0, 1) := by decide +kernel
theorem dX8_shared_20 : decode cX8_shared 20 = .ok (.lcmp, 1) := by decide +kernel
theorem dX8_shared_21 : decode cX8_shared 21 = .ok (.ifCond .eq 24, 3) := by decide +kernel
theorem dX8_shared_24 : decode cX8_shared 24 = .ok (.lload 4, 2) := by decide +kernel
theorem dX8_shared_26 : decode cX8_shared 26 = .ok (.lload 6, 2) := by decide +kernel
theorem dX8_shared_28 : decode cX8_shared 28 = .ok (.lrem, 1) := by decide +kernel
theorem dX8_shared_29 : decode cX8_shared 29 = .ok (.lstore 9, 2) := by decide +kernel
theorem dX8_shared_31 : decode cX8_shared 31 = .ok (.lload 6, 2) := by decide +kernel
theorem dX8_shared_33 : decode cX8_shared 33 = .ok (.lstore 4, 2) := by decide +kernel
theorem dX8_shared_35 : decode cX8_shared 35 = .ok (.lload 9, 2) := by decide +kernel
theorem dX8_shared_37 : decode cX8_shared 37 = .ok (.lstore 6, 2) := by decide +kernel
theorem dX8_shared_39 : decode cX8_shared 39 = .ok (.iinc 8 1, 3) := by decide +kernel
theorem dX8_shared_42 : decode cX8_shared 42 = .ok (.goto (-33), 3) := by decide +kernel
theorem dX8_shared_45 : decode cX8_shared 45 = .ok (.lload 4, 2) := by decide +kernel
theorem dX8_shared_47 : decode cX8_shared 47 = .ok (.lreturn, 1) := by decide +kernel
theorem dX8_below_0 : decode cX8_below 0 = .ok (.lload_n 0, 1) := by decide +kernel
theorem dX8_below_1 : decode cX8_below 1 = .ok (.lconst 0, 1) := by decide +kernel
theorem dX8_below_2 : decode cX8_below 2 = .ok (.lcmp, 1) := by decide +kernel
theorem dX8_below_3 : decode cX8_below 3 = .ok (.ifCond .le 9, 3) := by decide +kernel
theorem dX8_below_6 : decode cX8_below 6 = .ok (.lconst 0, 1) := by decide +kernel
theorem dX8_below_7 : decode cX8_below 7 = .ok (.lload_n 0, 1) := by decide +kernel
theorem dX8_below_8 : decode cX8_below 8 = .ok (.lsub, 1) := by decide +kernel
theorem dX8_below_9 : decode cX8_below 9 = .ok (.goto 4, 3) := by decide +kernel
theorem dX8_below_12 : decode cX8_below 12 = .ok (.lload_n 0, 1) := by decide +kernel
theorem dX8_below_13 : decode cX8_below 13 = .ok (.lreturn, 1) := by decide +kernel
theorem dX8_lays_0 : decode cX8_lays 0 = .ok (.lload 10, 2) := by decide +kernel
theorem dX8_lays_2 : decode cX8_lays 2 = .ok (.invokestatic 113, 3) := by decide +kernel
theorem dX8_lays_5 : decode cX8_lays 5 = .ok (.lstore 12, 2) := by decide +kernel
theorem dX8_lays_7 : decode cX8_lays 7 = .ok (.lload 12, 2) := by decide +kernel
theorem dX8_lays_9 : decode cX8_lays 9 = .ok (.lload_n 2, 1) := by decide +kernel
theorem dX8_lays_10 : decode cX8_lays 10 = .ok (.invokestatic 113, 3) := by decide +kernel
theorem dX8_lays_13 : decode cX8_lays 13 = .ok (.invokestatic 117, 3) := by decide +kernel
theorem dX8_lays_16 : decode cX8_lays 16 = .ok (.lstore 12, 2) := by decide +kernel
theorem dX8_lays_18 : decode cX8_lays 18 = .ok (.lload 12, 2) := by decide +kernel
theorem dX8_lays_20 : decode cX8_lays 20 = .ok (.lload 4, 2) := by decide +kernel
theorem dX8_lays_22 : decode cX8_lays 22 = .ok (.invokestatic 113, 3) := by decide +kernel
theorem dX8_lays_25 : decode cX8_lays 25 = .ok (.invokestatic 117, 3) := by decide +kernel
theorem dX8_lays_28 : decode cX8_lays 28 = .ok (.lstore 12, 2) := by decide +kernel
theorem dX8_lays_30 : decode cX8_lays 30 = .ok (.lload 12, 2) := by decide +kernel
theorem dX8_lays_32 : decode cX8_lays 32 = .ok (.lload 6, 2) := by decide +kernel
theorem dX8_lays_34 : decode cX8_lays 34 = .ok (.invokestatic 113, 3) := by decide +kernel
theorem dX8_lays_37 : decode cX8_lays 37 = .ok (.invokestatic 117, 3) := by decide +kernel
theorem dX8_lays_40 : decode cX8_lays 40 = .ok (.lstore 12, 2) := by decide +kernel
theorem dX8_lays_42 : decode cX8_lays 42 = .ok (.lload 12, 2) := by decide +kernel
theorem dX8_lays_44 : decode cX8_lays 44 = .ok (.lload 8, 2) := by decide +kernel
theorem dX8_lays_46 : decode cX8_lays 46 = .ok (.invokestatic 113, 3) := by decide +kernel
theorem dX8_lays_49 : decode cX8_lays 49 = .ok (.invokestatic 117, 3) := by decide +kernel
theorem dX8_lays_52 : decode cX8_lays 52 = .ok (.lstore 12, 2) := by decide +kernel
theorem dX8_lays_54 : decode cX8_lays 54 = .ok (.lconst 0, 1) := by decide +kernel
theorem dX8_lays_55 : decode cX8_lays 55 = .ok (.lload 12, 2) := by decide +kernel
theorem dX8_lays_57 : decode cX8_lays 57 = .ok (.lsub, 1) := by decide +kernel
theorem dX8_lays_58 : decode cX8_lays 58 = .ok (.lstore 12, 2) := by decide +kernel
theorem dX8_lays_60 : decode cX8_lays 60 = .ok (.aload_n 0, 1) := by decide +kernel
theorem dX8_lays_61 : decode cX8_lays 61 = .ok (.getfield 20, 3) := by decide +kernel
theorem dX8_lays_64 : decode cX8_lays 64 = .ok (.iconst 5, 1) := by decide +kernel
theorem dX8_lays_65 : decode cX8_lays 65 = .ok (.iload_n 1, 1) := by decide +kernel
theorem dX8_lays_66 : decode cX8_lays 66 = .ok (.imul, 1) := by decide +kernel
theorem dX8_lays_67 : decode cX8_lays 67 = .ok (.lload_n 2, 1) := by decide +kernel
theorem dX8_lays_68 : decode cX8_lays 68 = .ok (.lload 12, 2) := by decide +kernel
theorem dX8_lays_70 : decode cX8_lays 70 = .ok (.ldiv, 1) := by decide +kernel
theorem dX8_lays_71 : decode cX8_lays 71 = .ok (.lastore, 1) := by decide +kernel
theorem dX8_lays_72 : decode cX8_lays 72 = .ok (.aload_n 0, 1) := by decide +kernel
theorem dX8_lays_73 : decode cX8_lays 73 = .ok (.getfield 20, 3) := by decide +kernel
theorem dX8_lays_76 : decode cX8_lays 76 = .ok (.iconst 5, 1) := by decide +kernel
theorem dX8_lays_77 : decode cX8_lays 77 = .ok (.iload_n 1, 1) := by decide +kernel
theorem dX8_lays_78 : decode cX8_lays 78 = .ok (.imul, 1) := by decide +kernel
theorem dX8_lays_79 : decode cX8_lays 79 = .ok (.iconst 1, 1) := by decide +kernel
theorem dX8_lays_80 : decode cX8_lays 80 = .ok (.iadd, 1) := by decide +kernel
theorem dX8_lays_81 : decode cX8_lays 81 = .ok (.lload 4, 2) := by decide +kernel
theorem dX8_lays_83 : decode cX8_lays 83 = .ok (.lload 12, 2) := by decide +kernel
theorem dX8_lays_85 : decode cX8_lays 85 = .ok (.ldiv, 1) := by decide +kernel
theorem dX8_lays_86 : decode cX8_lays 86 = .ok (.lastore, 1) := by decide +kernel
theorem dX8_lays_87 : decode cX8_lays 87 = .ok (.aload_n 0, 1) := by decide +kernel
theorem dX8_lays_88 : decode cX8_lays 88 = .ok (.getfield 20, 3) := by decide +kernel
theorem dX8_lays_91 : decode cX8_lays 91 = .ok (.iconst 5, 1) := by decide +kernel
theorem dX8_lays_92 : decode cX8_lays 92 = .ok (.iload_n 1, 1) := by decide +kernel
theorem dX8_lays_93 : decode cX8_lays 93 = .ok (.imul, 1) := by decide +kernel
theorem dX8_lays_94 : decode cX8_lays 94 = .ok (.iconst 2, 1) := by decide +kernel
theorem dX8_lays_95 : decode cX8_lays 95 = .ok (.iadd, 1) := by decide +kernel
theorem dX8_lays_96 : decode cX8_lays 96 = .ok (.lload 6, 2) := by decide +kernel
theorem dX8_lays_98 : decode cX8_lays 98 = .ok (.lload 12, 2) := by decide +kernel
theorem dX8_lays_100 : decode cX8_lays 100 = .ok (.ldiv, 1) := by decide +kernel
theorem dX8_lays_101 : decode cX8_lays 101 = .ok (.lastore, 1) := by decide +kernel
theorem dX8_lays_102 : decode cX8_lays 102 = .ok (.aload_n 0, 1) := by decide +kernel
theorem dX8_lays_103 : decode cX8_lays 103 = .ok (.getfield 20, 3) := by decide +kernel
theorem dX8_lays_106 : decode cX8_lays 106 = .ok (.iconst 5, 1) := by decide +kernel
theorem dX8_lays_107 : decode cX8_lays 107 = .ok (.iload_n 1, 1) := by decide +kernel
theorem dX8_lays_108 : decode cX8_lays 108 = .ok (.imul, 1) := by decide +kernel
theorem dX8_lays_109 : decode cX8_lays 109 = .ok (.iconst 3, 1) := by decide +kernel
theorem dX8_lays_110 : decode cX8_lays 110 = .ok (.iadd, 1) := by decide +kernel
theorem dX8_lays_111 : decode cX8_lays 111 = .ok (.lload 8, 2) := by decide +kernel
theorem dX8_lays_113 : decode cX8_lays 113 = .ok (.lload 12, 2) := by decide +kernel
theorem dX8_lays_115 : decode cX8_lays 115 = .ok (.ldiv, 1) := by decide +kernel
theorem dX8_lays_116 : decode cX8_lays 116 = .ok (.lastore, 1) := by decide +kernel
theorem dX8_lays_117 : decode cX8_lays 117 = .ok (.aload_n 0, 1) := by decide +kernel
theorem dX8_lays_118 : decode cX8_lays 118 = .ok (.getfield 20, 3) := by decide +kernel
theorem dX8_lays_121 : decode cX8_lays 121 = .ok (.iconst 5, 1) := by decide +kernel
theorem dX8_lays_122 : decode cX8_lays 122 = .ok (.iload_n 1, 1) := by decide +kernel
theorem dX8_lays_123 : decode cX8_lays 123 = .ok (.imul, 1) := by decide +kernel
theorem dX8_lays_124 : decode cX8_lays 124 = .ok (.iconst 4, 1) := by decide +kernel
theorem dX8_lays_125 : decode cX8_lays 125 = .ok (.iadd, 1) := by decide +kernel
theorem dX8_lays_126 : decode cX8_lays 126 = .ok (.lload 10, 2) := by decide +kernel
theorem dX8_lays_128 : decode cX8_lays 128 = .ok (.lload 12, 2) := by decide +kernel
theorem dX8_lays_130 : decode cX8_lays 130 = .ok (.ldiv, 1) := by decide +kernel
theorem dX8_lays_131 : decode cX8_lays 131 = .ok (.lastore, 1) := by decide +kernel
theorem dX8_lays_132 : decode cX8_lays 132 = .ok (.return_, 1) := by decide +kernel
theorem dX8_at_0 : decode cX8_at 0 = .ok (.aload_n 0, 1) := by decide +kernel
theorem dX8_at_1 : decode cX8_at 1 = .ok (.getfield 20, 3) := by decide +kernel
theorem dX8_at_4 : decode cX8_at 4 = .ok (.iconst 5, 1) := by decide +kernel
theorem dX8_at_5 : decode cX8_at 5 = .ok (.iload_n 1, 1) := by decide +kernel
theorem dX8_at_6 : decode cX8_at 6 = .ok (.imul, 1) := by decide +kernel
theorem dX8_at_7 : decode cX8_at 7 = .ok (.iload_n 2, 1) := by decide +kernel
theorem dX8_at_8 : decode cX8_at 8 = .ok (.iadd, 1) := by decide +kernel
theorem dX8_at_9 : decode cX8_at 9 = .ok (.laload, 1) := by decide +kernel
theorem dX8_at_10 : decode cX8_at 10 = .ok (.lreturn, 1) := by decide +kernel
theorem dX8_scaledSum_0 : decode cX8_scaledSum 0 = .ok (.aload_n 0, 1) := by decide +kernel
theorem dX8_scaledSum_1 : decode cX8_scaledSum 1 = .ok (.aload_n 0, 1) := by decide +kernel
theorem dX8_scaledSum_2 : decode cX8_scaledSum 2 = .ok (.iload_n 1, 1) := by decide +kernel
theorem dX8_scaledSum_3 : decode cX8_scaledSum 3 = .ok (.iload_n 3, 1) := by decide +kernel
theorem dX8_scaledSum_4 : decode cX8_scaledSum 4 = .ok (.invokevirtual 120, 3) := by decide +kernel
theorem dX8_scaledSum_7 : decode cX8_scaledSum 7 = .ok (.aload_n 0, 1) := by decide +kernel
theorem dX8_scaledSum_8 : decode cX8_scaledSum 8 = .ok (.iload_n 2, 1) := by decide +kernel
theorem dX8_scaledSum_9 : decode cX8_scaledSum 9 = .ok (.iconst 4, 1) := by decide +kernel
theorem dX8_scaledSum_10 : decode cX8_scaledSum 10 = .ok (.invokevirtual 120, 3) := by decide +kernel
theorem dX8_scaledSum_13 : decode cX8_scaledSum 13 = .ok (.invokevirtual 124, 3) := by decide +kernel
theorem dX8_scaledSum_16 : decode cX8_scaledSum 16 = .ok (.lstore 5, 2) := by decide +kernel
theorem dX8_scaledSum_18 : decode cX8_scaledSum 18 = .ok (.aload_n 0, 1) := by decide +kernel
theorem dX8_scaledSum_19 : decode cX8_scaledSum 19 = .ok (.aload_n 0, 1) := by decide +kernel
theorem dX8_scaledSum_20 : decode cX8_scaledSum 20 = .ok (.iload_n 2, 1) := by decide +kernel
theorem dX8_scaledSum_21 : decode cX8_scaledSum 21 = .ok (.iload_n 3, 1) := by decide +kernel
theorem dX8_scaledSum_22 : decode cX8_scaledSum 22 = .ok (.invokevirtual 120, 3) := by decide +kernel
theorem dX8_scaledSum_25 : decode cX8_scaledSum 25 = .ok (.aload_n 0, 1) := by decide +kernel
theorem dX8_scaledSum_26 : decode cX8_scaledSum 26 = .ok (.iload_n 1, 1) := by decide +kernel
theorem dX8_scaledSum_27 : decode cX8_scaledSum 27 = .ok (.iconst 4, 1) := by decide +kernel
theorem dX8_scaledSum_28 : decode cX8_scaledSum 28 = .ok (.invokevirtual 120, 3) := by decide +kernel
theorem dX8_scaledSum_31 : decode cX8_scaledSum 31 = .ok (.invokevirtual 124, 3) := by decide +kernel
theorem dX8_scaledSum_34 : decode cX8_scaledSum 34 = .ok (.lstore 7, 2) := by decide +kernel
theorem dX8_scaledSum_36 : decode cX8_scaledSum 36 = .ok (.iload 4, 2) := by decide +kernel
theorem dX8_scaledSum_38 : decode cX8_scaledSum 38 = .ok (.ifCond .eq 14, 3) := by decide +kernel
theorem dX8_scaledSum_41 : decode cX8_scaledSum 41 = .ok (.aload_n 0, 1) := by decide +kernel
theorem dX8_scaledSum_42 : decode cX8_scaledSum 42 = .ok (.lload 5, 2) := by decide +kernel
theorem dX8_scaledSum_44 : decode cX8_scaledSum 44 = .ok (.lload 7, 2) := by decide +kernel
theorem dX8_scaledSum_46 : decode cX8_scaledSum 46 = .ok (.invokevirtual 109, 3) := by decide +kernel
theorem dX8_scaledSum_49 : decode cX8_scaledSum 49 = .ok (.goto 11, 3) := by decide +kernel
theorem dX8_scaledSum_52 : decode cX8_scaledSum 52 = .ok (.aload_n 0, 1) := by decide +kernel
theorem dX8_scaledSum_53 : decode cX8_scaledSum 53 = .ok (.lload 5, 2) := by decide +kernel
theorem dX8_scaledSum_55 : decode cX8_scaledSum 55 = .ok (.lload 7, 2) := by decide +kernel
theorem dX8_scaledSum_57 : decode cX8_scaledSum 57 = .ok (.invokevirtual 127, 3) := by decide +kernel
theorem dX8_scaledSum_60 : decode cX8_scaledSum 60 = .ok (.lreturn, 1) := by decide +kernel
theorem dX8_sum_0 : decode cX8_sum 0 = .ok (.aload_n 0, 1) := by decide +kernel
theorem dX8_sum_1 : decode cX8_sum 1 = .ok (.iload_n 2, 1) := by decide +kernel
theorem dX8_sum_2 : decode cX8_sum 2 = .ok (.iload_n 3, 1) := by decide +kernel
theorem dX8_sum_3 : decode cX8_sum 3 = .ok (.iconst 0, 1) := by decide +kernel
theorem dX8_sum_4 : decode cX8_sum 4 = .ok (.iload 4, 2) := by decide +kernel
theorem dX8_sum_6 : decode cX8_sum 6 = .ok (.invokevirtual 130, 3) := by decide +kernel
theorem dX8_sum_9 : decode cX8_sum 9 = .ok (.lstore 5, 2) := by decide +kernel
theorem dX8_sum_11 : decode cX8_sum 11 = .ok (.aload_n 0, 1) := by decide +kernel
theorem dX8_sum_12 : decode cX8_sum 12 = .ok (.iload_n 2, 1) := by decide +kernel
theorem dX8_sum_13 : decode cX8_sum 13 = .ok (.iload_n 3, 1) := by decide +kernel
theorem dX8_sum_14 : decode cX8_sum 14 = .ok (.iconst 1, 1) := by decide +kernel
theorem dX8_sum_15 : decode cX8_sum 15 = .ok (.iload 4, 2) := by decide +kernel
theorem dX8_sum_17 : decode cX8_sum 17 = .ok (.invokevirtual 130, 3) := by decide +kernel
theorem dX8_sum_20 : decode cX8_sum 20 = .ok (.lstore 7, 2) := by decide +kernel
theorem dX8_sum_22 : decode cX8_sum 22 = .ok (.aload_n 0, 1) := by decide +kernel
theorem dX8_sum_23 : decode cX8_sum 23 = .ok (.iload_n 2, 1) := by decide +kernel
theorem dX8_sum_24 : decode cX8_sum 24 = .ok (.iload_n 3, 1) := by decide +kernel
theorem dX8_sum_25 : decode cX8_sum 25 = .ok (.iconst 2, 1) := by decide +kernel
theorem dX8_sum_26 : decode cX8_sum 26 = .ok (.iload 4, 2) := by decide +kernel
theorem dX8_sum_28 : decode cX8_sum 28 = .ok (.invokevirtual 130, 3) := by decide +kernel
theorem dX8_sum_31 : decode cX8_sum 31 = .ok (.lstore 9, 2) := by decide +kernel
theorem dX8_sum_33 : decode cX8_sum 33 = .ok (.aload_n 0, 1) := by decide +kernel
theorem dX8_sum_34 : decode cX8_sum 34 = .ok (.iload_n 2, 1) := by decide +kernel
theorem dX8_sum_35 : decode cX8_sum 35 = .ok (.iload_n 3, 1) := by decide +kernel
theorem dX8_sum_36 : decode cX8_sum 36 = .ok (.iconst 3, 1) := by decide +kernel
theorem dX8_sum_37 : decode cX8_sum 37 = .ok (.iload 4, 2) := by decide +kernel
theorem dX8_sum_39 : decode cX8_sum 39 = .ok (.invokevirtual 130, 3) := by decide +kernel
theorem dX8_sum_42 : decode cX8_sum 42 = .ok (.lstore 11, 2) := by decide +kernel
theorem dX8_sum_44 : decode cX8_sum 44 = .ok (.aload_n 0, 1) := by decide +kernel
theorem dX8_sum_45 : decode cX8_sum 45 = .ok (.aload_n 0, 1) := by decide +kernel
theorem dX8_sum_46 : decode cX8_sum 46 = .ok (.iload_n 2, 1) := by decide +kernel
theorem dX8_sum_47 : decode cX8_sum 47 = .ok (.iconst 4, 1) := by decide +kernel
theorem dX8_sum_48 : decode cX8_sum 48 = .ok (.invokevirtual 120, 3) := by decide +kernel
theorem dX8_sum_51 : decode cX8_sum 51 = .ok (.aload_n 0, 1) := by decide +kernel
theorem dX8_sum_52 : decode cX8_sum 52 = .ok (.iload_n 3, 1) := by decide +kernel
theorem dX8_sum_53 : decode cX8_sum 53 = .ok (.iconst 4, 1) := by decide +kernel
theorem dX8_sum_54 : decode cX8_sum 54 = .ok (.invokevirtual 120, 3) := by decide +kernel
theorem dX8_sum_57 : decode cX8_sum 57 = .ok (.invokevirtual 124, 3) := by decide +kernel
theorem dX8_sum_60 : decode cX8_sum 60 = .ok (.lstore 13, 2) := by decide +kernel
theorem dX8_sum_62 : decode cX8_sum 62 = .ok (.aload_n 0, 1) := by decide +kernel
theorem dX8_sum_63 : decode cX8_sum 63 = .ok (.getfield 105, 3) := by decide +kernel
theorem dX8_sum_66 : decode cX8_sum 66 = .ok (.ifCond .ne 18, 3) := by decide +kernel
theorem dX8_sum_69 : decode cX8_sum 69 = .ok (.aload_n 0, 1) := by decide +kernel
theorem dX8_sum_70 : decode cX8_sum 70 = .ok (.iload_n 1, 1) := by decide +kernel
theorem dX8_sum_71 : decode cX8_sum 71 = .ok (.lload 5, 2) := by decide +kernel
theorem dX8_sum_73 : decode cX8_sum 73 = .ok (.lload 7, 2) := by decide +kernel
theorem dX8_sum_75 : decode cX8_sum 75 = .ok (.lload 9, 2) := by decide +kernel
theorem dX8_sum_77 : decode cX8_sum 77 = .ok (.lload 11, 2) := by decide +kernel
theorem dX8_sum_79 : decode cX8_sum 79 = .ok (.lload 13, 2) := by decide +kernel
theorem dX8_sum_81 : decode cX8_sum 81 = .ok (.invokevirtual 134, 3) := by decide +kernel
theorem dX8_sum_84 : decode cX8_sum 84 = .ok (.return_, 1) := by decide +kernel
theorem dX8_three_0 : decode cX8_three 0 = .ok (.aload_n 0, 1) := by decide +kernel
theorem dX8_three_1 : decode cX8_three 1 = .ok (.aload_n 0, 1) := by decide +kernel
theorem dX8_three_2 : decode cX8_three 2 = .ok (.ldc2_w 83, 3) := by decide +kernel
theorem dX8_three_5 : decode cX8_three 5 = .ok (.lload_n 1, 1) := by decide +kernel
theorem dX8_three_6 : decode cX8_three 6 = .ok (.invokevirtual 124, 3) := by decide +kernel
theorem dX8_three_9 : decode cX8_three 9 = .ok (.lload_n 3, 1) := by decide +kernel
theorem dX8_three_10 : decode cX8_three 10 = .ok (.invokevirtual 124, 3) := by decide +kernel
theorem dX8_three_13 : decode cX8_three 13 = .ok (.lreturn, 1) := by decide +kernel
theorem dX8_product_0 : decode cX8_product 0 = .ok (.aload_n 0, 1) := by decide +kernel
theorem dX8_product_1 : decode cX8_product 1 = .ok (.iload_n 2, 1) := by decide +kernel
theorem dX8_product_2 : decode cX8_product 2 = .ok (.iconst 0, 1) := by decide +kernel
theorem dX8_product_3 : decode cX8_product 3 = .ok (.invokevirtual 120, 3) := by decide +kernel
theorem dX8_product_6 : decode cX8_product 6 = .ok (.lstore 4, 2) := by decide +kernel
theorem dX8_product_8 : decode cX8_product 8 = .ok (.aload_n 0, 1) := by decide +kernel
theorem dX8_product_9 : decode cX8_product 9 = .ok (.iload_n 2, 1) := by decide +kernel
theorem dX8_product_10 : decode cX8_product 10 = .ok (.iconst 1, 1) := by decide +kernel
theorem dX8_product_11 : decode cX8_product 11 = .ok (.invokevirtual 120, 3) := by decide +kernel
theorem dX8_product_14 : decode cX8_product 14 = .ok (.lstore 6, 2) := by decide +kernel
theorem dX8_product_16 : decode cX8_product 16 = .ok (.aload_n 0, 1) := by decide +kernel
theorem dX8_product_17 : decode cX8_product 17 = .ok (.iload_n 2, 1) := by decide +kernel
theorem dX8_product_18 : decode cX8_product 18 = .ok (.iconst 2, 1) := by decide +kernel
theorem dX8_product_19 : decode cX8_product 19 = .ok (.invokevirtual 120, 3) := by decide +kernel
theorem dX8_product_22 : decode cX8_product 22 = .ok (.lstore 8, 2) := by decide +kernel
theorem dX8_product_24 : decode cX8_product 24 = .ok (.aload_n 0, 1) := by decide +kernel
theorem dX8_product_25 : decode cX8_product 25 = .ok (.iload_n 2, 1) := by decide +kernel
theorem dX8_product_26 : decode cX8_product 26 = .ok (.iconst 3, 1) := by decide +kernel
theorem dX8_product_27 : decode cX8_product 27 = .ok (.invokevirtual 120, 3) := by decide +kernel
theorem dX8_product_30 : decode cX8_product 30 = .ok (.lstore 10, 2) := by decide +kernel
theorem dX8_product_32 : decode cX8_product 32 = .ok (.aload_n 0, 1) := by decide +kernel
theorem dX8_product_33 : decode cX8_product 33 = .ok (.iload_n 3, 1) := by decide +kernel
theorem dX8_product_34 : decode cX8_product 34 = .ok (.iconst 0, 1) := by decide +kernel
theorem dX8_product_35 : decode cX8_product 35 = .ok (.invokevirtual 120, 3) := by decide +kernel
theorem dX8_product_38 : decode cX8_product 38 = .ok (.lstore 12, 2) := by decide +kernel
theorem dX8_product_40 : decode cX8_product 40 = .ok (.aload_n 0, 1) := by decide +kernel
theorem dX8_product_41 : decode cX8_product 41 = .ok (.iload_n 3, 1) := by decide +kernel
theorem dX8_product_42 : decode cX8_product 42 = .ok (.iconst 1, 1) := by decide +kernel
theorem dX8_product_43 : decode cX8_product 43 = .ok (.invokevirtual 120, 3) := by decide +kernel
theorem dX8_product_46 : decode cX8_product 46 = .ok (.lstore 14, 2) := by decide +kernel
theorem dX8_product_48 : decode cX8_product 48 = .ok (.aload_n 0, 1) := by decide +kernel
theorem dX8_product_49 : decode cX8_product 49 = .ok (.iload_n 3, 1) := by decide +kernel
theorem dX8_product_50 : decode cX8_product 50 = .ok (.iconst 2, 1) := by decide +kernel
theorem dX8_product_51 : decode cX8_product 51 = .ok (.invokevirtual 120, 3) := by decide +kernel
theorem dX8_product_54 : decode cX8_product 54 = .ok (.lstore 16, 2) := by decide +kernel
theorem dX8_product_56 : decode cX8_product 56 = .ok (.aload_n 0, 1) := by decide +kernel
theorem dX8_product_57 : decode cX8_product 57 = .ok (.iload_n 3, 1) := by decide +kernel
theorem dX8_product_58 : decode cX8_product 58 = .ok (.iconst 3, 1) := by decide +kernel
theorem dX8_product_59 : decode cX8_product 59 = .ok (.invokevirtual 120, 3) := by decide +kernel
theorem dX8_product_62 : decode cX8_product 62 = .ok (.lstore 18, 2) := by decide +kernel
theorem dX8_product_64 : decode cX8_product 64 = .ok (.aload_n 0, 1) := by decide +kernel
theorem dX8_product_65 : decode cX8_product 65 = .ok (.aload_n 0, 1) := by decide +kernel
theorem dX8_product_66 : decode cX8_product 66 = .ok (.aload_n 0, 1) := by decide +kernel
theorem dX8_product_67 : decode cX8_product 67 = .ok (.lload 4, 2) := by decide +kernel
theorem dX8_product_69 : decode cX8_product 69 = .ok (.lload 12, 2) := by decide +kernel
theorem dX8_product_71 : decode cX8_product 71 = .ok (.invokevirtual 124, 3) := by decide +kernel
theorem dX8_product_74 : decode cX8_product 74 = .ok (.aload_n 0, 1) := by decide +kernel
theorem dX8_product_75 : decode cX8_product 75 = .ok (.lload 6, 2) := by decide +kernel
theorem dX8_product_77 : decode cX8_product 77 = .ok (.lload 14, 2) := by decide +kernel
theorem dX8_product_79 : decode cX8_product 79 = .ok (.invokevirtual 138, 3) := by decide +kernel
theorem dX8_product_82 : decode cX8_product 82 = .ok (.invokevirtual 127, 3) := by decide +kernel
theorem dX8_product_85 : decode cX8_product 85 = .ok (.aload_n 0, 1) := by decide +kernel
theorem dX8_product_86 : decode cX8_product 86 = .ok (.aload_n 0, 1) := by decide +kernel
theorem dX8_product_87 : decode cX8_product 87 = .ok (.lload 8, 2) := by decide +kernel
theorem dX8_product_89 : decode cX8_product 89 = .ok (.lload 16, 2) := by decide +kernel
theorem dX8_product_91 : decode cX8_product 91 = .ok (.invokevirtual 124, 3) := by decide +kernel
theorem dX8_product_94 : decode cX8_product 94 = .ok (.aload_n 0, 1) := by decide +kernel
theorem dX8_product_95 : decode cX8_product 95 = .ok (.lload 10, 2) := by decide +kernel
theorem dX8_product_97 : decode cX8_product 97 = .ok (.lload 18, 2) := by decide +kernel
theorem dX8_product_99 : decode cX8_product 99 = .ok (.invokevirtual 138, 3) := by decide +kernel
theorem dX8_product_102 : decode cX8_product 102 = .ok (.invokevirtual 127, 3) := by decide +kernel
theorem dX8_product_105 : decode cX8_product 105 = .ok (.invokevirtual 109, 3) := by decide +kernel
theorem dX8_product_108 : decode cX8_product 108 = .ok (.lstore 20, 2) := by decide +kernel
theorem dX8_product_110 : decode cX8_product 110 = .ok (.aload_n 0, 1) := by decide +kernel
theorem dX8_product_111 : decode cX8_product 111 = .ok (.aload_n 0, 1) := by decide +kernel
theorem dX8_product_112 : decode cX8_product 112 = .ok (.aload_n 0, 1) := by decide +kernel
theorem dX8_product_113 : decode cX8_product 113 = .ok (.lload 4, 2) := by decide +kernel
theorem dX8_product_115 : decode cX8_product 115 = .ok (.lload 14, 2) := by decide +kernel
theorem dX8_product_117 : decode cX8_product 117 = .ok (.invokevirtual 124, 3) := by decide +kernel
theorem dX8_product_120 : decode cX8_product 120 = .ok (.aload_n 0, 1) := by decide +kernel
theorem dX8_product_121 : decode cX8_product 121 = .ok (.lload 6, 2) := by decide +kernel
theorem dX8_product_123 : decode cX8_product 123 = .ok (.lload 12, 2) := by decide +kernel
theorem dX8_product_125 : decode cX8_product 125 = .ok (.invokevirtual 124, 3) := by decide +kernel
theorem dX8_product_128 : decode cX8_product 128 = .ok (.invokevirtual 127, 3) := by decide +kernel
theorem dX8_product_131 : decode cX8_product 131 = .ok (.aload_n 0, 1) := by decide +kernel
theorem dX8_product_132 : decode cX8_product 132 = .ok (.aload_n 0, 1) := by decide +kernel
theorem dX8_product_133 : decode cX8_product 133 = .ok (.lload 8, 2) := by decide +kernel
theorem dX8_product_135 : decode cX8_product 135 = .ok (.lload 18, 2) := by decide +kernel
theorem dX8_product_137 : decode cX8_product 137 = .ok (.invokevirtual 124, 3) := by decide +kernel
theorem dX8_product_140 : decode cX8_product 140 = .ok (.aload_n 0, 1) := by decide +kernel
theorem dX8_product_141 : decode cX8_product 141 = .ok (.lload 10, 2) := by decide +kernel
theorem dX8_product_143 : decode cX8_product 143 = .ok (.lload 16, 2) := by decide +kernel
theorem dX8_product_145 : decode cX8_product 145 = .ok (.invokevirtual 124, 3) := by decide +kernel
theorem dX8_product_148 : decode cX8_product 148 = .ok (.invokevirtual 127, 3) := by decide +kernel
theorem dX8_product_151 : decode cX8_product 151 = .ok (.invokevirtual 109, 3) := by decide +kernel
theorem dX8_product_154 : decode cX8_product 154 = .ok (.lstore 22, 2) := by decide +kernel
theorem dX8_product_156 : decode cX8_product 156 = .ok (.aload_n 0, 1) := by decide +kernel
theorem dX8_product_157 : decode cX8_product 157 = .ok (.aload_n 0, 1) := by decide +kernel
theorem dX8_product_158 : decode cX8_product 158 = .ok (.aload_n 0, 1) := by decide +kernel
theorem dX8_product_159 : decode cX8_product 159 = .ok (.aload_n 0, 1) := by decide +kernel
theorem dX8_product_160 : decode cX8_product 160 = .ok (.lload 4, 2) := by decide +kernel
theorem dX8_product_162 : decode cX8_product 162 = .ok (.lload 16, 2) := by decide +kernel
theorem dX8_product_164 : decode cX8_product 164 = .ok (.invokevirtual 124, 3) := by decide +kernel
theorem dX8_product_167 : decode cX8_product 167 = .ok (.aload_n 0, 1) := by decide +kernel
theorem dX8_product_168 : decode cX8_product 168 = .ok (.lload 6, 2) := by decide +kernel
theorem dX8_product_170 : decode cX8_product 170 = .ok (.lload 18, 2) := by decide +kernel
theorem dX8_product_172 : decode cX8_product 172 = .ok (.invokevirtual 138, 3) := by decide +kernel
theorem dX8_product_175 : decode cX8_product 175 = .ok (.invokevirtual 127, 3) := by decide +kernel
theorem dX8_product_178 : decode cX8_product 178 = .ok (.aload_n 0, 1) := by decide +kernel
theorem dX8_product_179 : decode cX8_product 179 = .ok (.lload 8, 2) := by decide +kernel
theorem dX8_product_181 : decode cX8_product 181 = .ok (.lload 12, 2) := by decide +kernel
theorem dX8_product_183 : decode cX8_product 183 = .ok (.invokevirtual 124, 3) := by decide +kernel
theorem dX8_product_186 : decode cX8_product 186 = .ok (.invokevirtual 127, 3) := by decide +kernel
theorem dX8_product_189 : decode cX8_product 189 = .ok (.aload_n 0, 1) := by decide +kernel
theorem dX8_product_190 : decode cX8_product 190 = .ok (.lload 10, 2) := by decide +kernel
theorem dX8_product_192 : decode cX8_product 192 = .ok (.lload 14, 2) := by decide +kernel
theorem dX8_product_194 : decode cX8_product 194 = .ok (.invokevirtual 138, 3) := by decide +kernel
theorem dX8_product_197 : decode cX8_product 197 = .ok (.invokevirtual 127, 3) := by decide +kernel
theorem dX8_product_200 : decode cX8_product 200 = .ok (.lstore 24, 2) := by decide +kernel
theorem dX8_product_202 : decode cX8_product 202 = .ok (.aload_n 0, 1) := by decide +kernel
theorem dX8_product_203 : decode cX8_product 203 = .ok (.aload_n 0, 1) := by decide +kernel
theorem dX8_product_204 : decode cX8_product 204 = .ok (.aload_n 0, 1) := by decide +kernel
theorem dX8_product_205 : decode cX8_product 205 = .ok (.aload_n 0, 1) := by decide +kernel
theorem dX8_product_206 : decode cX8_product 206 = .ok (.lload 4, 2) := by decide +kernel
theorem dX8_product_208 : decode cX8_product 208 = .ok (.lload 18, 2) := by decide +kernel
theorem dX8_product_210 : decode cX8_product 210 = .ok (.invokevirtual 124, 3) := by decide +kernel
theorem dX8_product_213 : decode cX8_product 213 = .ok (.aload_n 0, 1) := by decide +kernel
theorem dX8_product_214 : decode cX8_product 214 = .ok (.lload 6, 2) := by decide +kernel
theorem dX8_product_216 : decode cX8_product 216 = .ok (.lload 16, 2) := by decide +kernel
theorem dX8_product_218 : decode cX8_product 218 = .ok (.invokevirtual 124, 3) := by decide +kernel
theorem dX8_product_221 : decode cX8_product 221 = .ok (.invokevirtual 127, 3) := by decide +kernel
theorem dX8_product_224 : decode cX8_product 224 = .ok (.aload_n 0, 1) := by decide +kernel
theorem dX8_product_225 : decode cX8_product 225 = .ok (.lload 8, 2) := by decide +kernel
theorem dX8_product_227 : decode cX8_product 227 = .ok (.lload 14, 2) := by decide +kernel
theorem dX8_product_229 : decode cX8_product 229 = .ok (.invokevirtual 124, 3) := by decide +kernel
theorem dX8_product_232 : decode cX8_product 232 = .ok (.invokevirtual 127, 3) := by decide +kernel
theorem dX8_product_235 : decode cX8_product 235 = .ok (.aload_n 0, 1) := by decide +kernel
theorem dX8_product_236 : decode cX8_product 236 = .ok (.lload 10, 2) := by decide +kernel
theorem dX8_product_238 : decode cX8_product 238 = .ok (.lload 12, 2) := by decide +kernel
theorem dX8_product_240 : decode cX8_product 240 = .ok (.invokevirtual 124, 3) := by decide +kernel
theorem dX8_product_243 : decode cX8_product 243 = .ok (.invokevirtual 127, 3) := by decide +kernel
theorem dX8_product_246 : decode cX8_product 246 = .ok (.lstore 26, 2) := by decide +kernel
theorem dX8_product_248 : decode cX8_product 248 = .ok (.aload_n 0, 1) := by decide +kernel
theorem dX8_product_249 : decode cX8_product 249 = .ok (.aload_n 0, 1) := by decide +kernel
theorem dX8_product_250 : decode cX8_product 250 = .ok (.iload_n 2, 1) := by decide +kernel
theorem dX8_product_251 : decode cX8_product 251 = .ok (.iconst 4, 1) := by decide +kernel
theorem dX8_product_252 : decode cX8_product 252 = .ok (.invokevirtual 120, 3) := by decide +kernel
theorem dX8_product_255 : decode cX8_product 255 = .ok (.aload_n 0, 1) := by decide +kernel
theorem dX8_product_256 : decode cX8_product 256 = .ok (.iload_n 3, 1) := by decide +kernel
theorem dX8_product_257 : decode cX8_product 257 = .ok (.iconst 4, 1) := by decide +kernel
theorem dX8_product_258 : decode cX8_product 258 = .ok (.invokevirtual 120, 3) := by decide +kernel
theorem dX8_product_261 : decode cX8_product 261 = .ok (.invokevirtual 124, 3) := by decide +kernel
theorem dX8_product_264 : decode cX8_product 264 = .ok (.lstore 28, 2) := by decide +kernel
theorem dX8_product_266 : decode cX8_product 266 = .ok (.aload_n 0, 1) := by decide +kernel
theorem dX8_product_267 : decode cX8_product 267 = .ok (.getfield 105, 3) := by decide +kernel
theorem dX8_product_270 : decode cX8_product 270 = .ok (.ifCond .ne 18, 3) := by decide +kernel
theorem dX8_product_273 : decode cX8_product 273 = .ok (.aload_n 0, 1) := by decide +kernel
theorem dX8_product_274 : decode cX8_product 274 = .ok (.iload_n 1, 1) := by decide +kernel
theorem dX8_product_275 : decode cX8_product 275 = .ok (.lload 20, 2) := by decide +kernel
theorem dX8_product_277 : decode cX8_product 277 = .ok (.lload 22, 2) := by decide +kernel
theorem dX8_product_279 : decode cX8_product 279 = .ok (.lload 24, 2) := by decide +kernel
theorem dX8_product_281 : decode cX8_product 281 = .ok (.lload 26, 2) := by decide +kernel
theorem dX8_product_283 : decode cX8_product 283 = .ok (.lload 28, 2) := by decide +kernel
