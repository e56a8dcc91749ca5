theorem dX0_init_0 : decode cX0_init 0 = .ok (.aload_n 0, 1) := by decide +kernel
theorem dX0_init_1 : decode cX0_init 1 = .ok (.invokespecial 3, 3) := by decide +kernel
theorem dX0_init_4 : decode cX0_init 4 = .ok (.aload_n 0, 1) := by decide +kernel
theorem dX0_init_5 : decode cX0_init 5 = .ok (.new 9, 3) := by decide +kernel
theorem dX0_init_8 : decode cX0_init 8 = .ok (.dup, 1) := by decide +kernel
theorem dX0_init_9 : decode cX0_init 9 = .ok (.invokespecial 11, 3) := by decide +kernel
theorem dX0_init_12 : decode cX0_init 12 = .ok (.putfield 12, 3) := by decide +kernel
theorem dX0_init_15 : decode cX0_init 15 = .ok (.aload_n 0, 1) := by decide +kernel
theorem dX0_init_16 : decode cX0_init 16 = .ok (.bipush 8, 2) := by decide +kernel
theorem dX0_init_18 : decode cX0_init 18 = .ok (.newarray .int, 2) := by decide +kernel
theorem dX0_init_20 : decode cX0_init 20 = .ok (.putfield 18, 3) := by decide +kernel
theorem dX0_init_23 : decode cX0_init 23 = .ok (.aload_n 0, 1) := by decide +kernel
theorem dX0_init_24 : decode cX0_init 24 = .ok (.iconst 3, 1) := by decide +kernel
theorem dX0_init_25 : decode cX0_init 25 = .ok (.newarray .boolean, 2) := by decide +kernel
theorem dX0_init_27 : decode cX0_init 27 = .ok (.putfield 22, 3) := by decide +kernel
theorem dX0_init_30 : decode cX0_init 30 = .ok (.aload_n 0, 1) := by decide +kernel
theorem dX0_init_31 : decode cX0_init 31 = .ok (.bipush 6, 2) := by decide +kernel
theorem dX0_init_33 : decode cX0_init 33 = .ok (.anewarray 26, 3) := by decide +kernel
theorem dX0_init_36 : decode cX0_init 36 = .ok (.putfield 28, 3) := by decide +kernel
theorem dX0_init_39 : decode cX0_init 39 = .ok (.aload_n 0, 1) := by decide +kernel
theorem dX0_init_40 : decode cX0_init 40 = .ok (.iconst 3, 1) := by decide +kernel
theorem dX0_init_41 : decode cX0_init 41 = .ok (.anewarray 26, 3) := by decide +kernel
theorem dX0_init_44 : decode cX0_init 44 = .ok (.putfield 32, 3) := by decide +kernel
theorem dX0_init_47 : decode cX0_init 47 = .ok (.aload_n 0, 1) := by decide +kernel
theorem dX0_init_48 : decode cX0_init 48 = .ok (.iconst 4, 1) := by decide +kernel
theorem dX0_init_49 : decode cX0_init 49 = .ok (.anewarray 26, 3) := by decide +kernel
theorem dX0_init_52 : decode cX0_init 52 = .ok (.putfield 35, 3) := by decide +kernel
theorem dX0_init_55 : decode cX0_init 55 = .ok (.aload_n 0, 1) := by decide +kernel
theorem dX0_init_56 : decode cX0_init 56 = .ok (.new 26, 3) := by decide +kernel
theorem dX0_init_59 : decode cX0_init 59 = .ok (.dup, 1) := by decide +kernel
theorem dX0_init_60 : decode cX0_init 60 = .ok (.invokespecial 38, 3) := by decide +kernel
theorem dX0_init_63 : decode cX0_init 63 = .ok (.putfield 39, 3) := by decide +kernel
theorem dX0_init_66 : decode cX0_init 66 = .ok (.aload_n 0, 1) := by decide +kernel
theorem dX0_init_67 : decode cX0_init 67 = .ok (.new 26, 3) := by decide +kernel
theorem dX0_init_70 : decode cX0_init 70 = .ok (.dup, 1) := by decide +kernel
theorem dX0_init_71 : decode cX0_init 71 = .ok (.invokespecial 38, 3) := by decide +kernel
theorem dX0_init_74 : decode cX0_init 74 = .ok (.putfield 43, 3) := by decide +kernel
theorem dX0_init_77 : decode cX0_init 77 = .ok (.aload_n 0, 1) := by decide +kernel
theorem dX0_init_78 : decode cX0_init 78 = .ok (.new 26, 3) := by decide +kernel
theorem dX0_init_81 : decode cX0_init 81 = .ok (.dup, 1) := by decide +kernel
theorem dX0_init_82 : decode cX0_init 82 = .ok (.invokespecial 38, 3) := by decide +kernel
theorem dX0_init_85 : decode cX0_init 85 = .ok (.putfield 46, 3) := by decide +kernel
theorem dX0_init_88 : decode cX0_init 88 = .ok (.aload_n 0, 1) := by decide +kernel
theorem dX0_init_89 : decode cX0_init 89 = .ok (.new 26, 3) := by decide +kernel
theorem dX0_init_92 : decode cX0_init 92 = .ok (.dup, 1) := by decide +kernel
theorem dX0_init_93 : decode cX0_init 93 = .ok (.invokespecial 38, 3) := by decide +kernel
theorem dX0_init_96 : decode cX0_init 96 = .ok (.putfield 49, 3) := by decide +kernel
theorem dX0_init_99 : decode cX0_init 99 = .ok (.iconst 0, 1) := by decide +kernel
theorem dX0_init_100 : decode cX0_init 100 = .ok (.istore_n 1, 1) := by decide +kernel
theorem dX0_init_101 : decode cX0_init 101 = .ok (.iload_n 1, 1) := by decide +kernel
theorem dX0_init_102 : decode cX0_init 102 = .ok (.aload_n 0, 1) := by decide +kernel
theorem dX0_init_103 : decode cX0_init 103 = .ok (.getfield 28, 3) := by decide +kernel
theorem dX0_init_106 : decode cX0_init 106 = .ok (.arraylength, 1) := by decide +kernel
theorem dX0_init_107 : decode cX0_init 107 = .ok (.if_icmp .ge 22, 3) := by decide +kernel
theorem dX0_init_110 : decode cX0_init 110 = .ok (.aload_n 0, 1) := by decide +kernel
theorem dX0_init_111 : decode cX0_init 111 = .ok (.getfield 28, 3) := by decide +kernel
theorem dX0_init_114 : decode cX0_init 114 = .ok (.iload_n 1, 1) := by decide +kernel
theorem dX0_init_115 : decode cX0_init 115 = .ok (.new 26, 3) := by decide +kernel
theorem dX0_init_118 : decode cX0_init 118 = .ok (.dup, 1) := by decide +kernel
theorem dX0_init_119 : decode cX0_init 119 = .ok (.invokespecial 38, 3) := by decide +kernel
theorem dX0_init_122 : decode cX0_init 122 = .ok (.aastore, 1) := by decide +kernel
theorem dX0_init_123 : decode cX0_init 123 = .ok (.iinc 1 1, 3) := by decide +kernel
theorem dX0_init_126 : decode cX0_init 126 = .ok (.goto (-25), 3) := by decide +kernel
theorem dX0_init_129 : decode cX0_init 129 = .ok (.iconst 0, 1) := by decide +kernel
theorem dX0_init_130 : decode cX0_init 130 = .ok (.istore_n 1, 1) := by decide +kernel
theorem dX0_init_131 : decode cX0_init 131 = .ok (.iload_n 1, 1) := by decide +kernel
theorem dX0_init_132 : decode cX0_init 132 = .ok (.iconst 3, 1) := by decide +kernel
theorem dX0_init_133 : decode cX0_init 133 = .ok (.if_icmp .ge 22, 3) := by decide +kernel
theorem dX0_init_136 : decode cX0_init 136 = .ok (.aload_n 0, 1) := by decide +kernel
theorem dX0_init_137 : decode cX0_init 137 = .ok (.getfield 32, 3) := by decide +kernel
theorem dX0_init_140 : decode cX0_init 140 = .ok (.iload_n 1, 1) := by decide +kernel
theorem dX0_init_141 : decode cX0_init 141 = .ok (.new 26, 3) := by decide +kernel
theorem dX0_init_144 : decode cX0_init 144 = .ok (.dup, 1) := by decide +kernel
theorem dX0_init_145 : decode cX0_init 145 = .ok (.invokespecial 38, 3) := by decide +kernel
theorem dX0_init_148 : decode cX0_init 148 = .ok (.aastore, 1) := by decide +kernel
theorem dX0_init_149 : decode cX0_init 149 = .ok (.iinc 1 1, 3) := by decide +kernel
theorem dX0_init_152 : decode cX0_init 152 = .ok (.goto (-21), 3) := by decide +kernel
theorem dX0_init_155 : decode cX0_init 155 = .ok (.iconst 0, 1) := by decide +kernel
theorem dX0_init_156 : decode cX0_init 156 = .ok (.istore_n 1, 1) := by decide +kernel
theorem dX0_init_157 : decode cX0_init 157 = .ok (.iload_n 1, 1) := by decide +kernel
theorem dX0_init_158 : decode cX0_init 158 = .ok (.aload_n 0, 1) := by decide +kernel
theorem dX0_init_159 : decode cX0_init 159 = .ok (.getfield 35, 3) := by decide +kernel
theorem dX0_init_162 : decode cX0_init 162 = .ok (.arraylength, 1) := by decide +kernel
theorem dX0_init_163 : decode cX0_init 163 = .ok (.if_icmp .ge 22, 3) := by decide +kernel
theorem dX0_init_166 : decode cX0_init 166 = .ok (.aload_n 0, 1) := by decide +kernel
theorem dX0_init_167 : decode cX0_init 167 = .ok (.getfield 35, 3) := by decide +kernel
theorem dX0_init_170 : decode cX0_init 170 = .ok (.iload_n 1, 1) := by decide +kernel
theorem dX0_init_171 : decode cX0_init 171 = .ok (.new 26, 3) := by decide +kernel
theorem dX0_init_174 : decode cX0_init 174 = .ok (.dup, 1) := by decide +kernel
theorem dX0_init_175 : decode cX0_init 175 = .ok (.invokespecial 38, 3) := by decide +kernel
theorem dX0_init_178 : decode cX0_init 178 = .ok (.aastore, 1) := by decide +kernel
theorem dX0_init_179 : decode cX0_init 179 = .ok (.iinc 1 1, 3) := by decide +kernel
theorem dX0_init_182 : decode cX0_init 182 = .ok (.goto (-25), 3) := by decide +kernel
theorem dX0_init_185 : decode cX0_init 185 = .ok (.iconst 0, 1) := by decide +kernel
theorem dX0_init_186 : decode cX0_init 186 = .ok (.istore_n 1, 1) := by decide +kernel
theorem dX0_init_187 : decode cX0_init 187 = .ok (.iload_n 1, 1) := by decide +kernel
theorem dX0_init_188 : decode cX0_init 188 = .ok (.iconst 2, 1) := by decide +kernel
theorem dX0_init_189 : decode cX0_init 189 = .ok (.if_icmp .ge 44, 3) := by decide +kernel
theorem dX0_init_192 : decode cX0_init 192 = .ok (.iconst 0, 1) := by decide +kernel
theorem dX0_init_193 : decode cX0_init 193 = .ok (.istore_n 2, 1) := by decide +kernel
theorem dX0_init_194 : decode cX0_init 194 = .ok (.iload_n 2, 1) := by decide +kernel
theorem dX0_init_195 : decode cX0_init 195 = .ok (.iconst 2, 1) := by decide +kernel
theorem dX0_init_196 : decode cX0_init 196 = .ok (.if_icmp .ge 31, 3) := by decide +kernel
theorem dX0_init_199 : decode cX0_init 199 = .ok (.aload_n 0, 1) := by decide +kernel
theorem dX0_init_200 : decode cX0_init 200 = .ok (.getfield 18, 3) := by decide +kernel
theorem dX0_init_203 : decode cX0_init 203 = .ok (.iconst 2, 1) := by decide +kernel
theorem dX0_init_204 : decode cX0_init 204 = .ok (.iconst 2, 1) := by decide +kernel
theorem dX0_init_205 : decode cX0_init 205 = .ok (.iload_n 1, 1) := by decide +kernel
theorem dX0_init_206 : decode cX0_init 206 = .ok (.imul, 1) := by decide +kernel
theorem dX0_init_207 : decode cX0_init 207 = .ok (.iload_n 2, 1) := by decide +kernel
theorem dX0_init_208 : decode cX0_init 208 = .ok (.iadd, 1) := by decide +kernel
theorem dX0_init_209 : decode cX0_init 209 = .ok (.imul, 1) := by decide +kernel
theorem dX0_init_210 : decode cX0_init 210 = .ok (.iload_n 2, 1) := by decide +kernel
theorem dX0_init_211 : decode cX0_init 211 = .ok (.iload_n 1, 1) := by decide +kernel
theorem dX0_init_212 : decode cX0_init 212 = .ok (.if_icmp .ne 7, 3) := by decide +kernel
theorem dX0_init_215 : decode cX0_init 215 = .ok (.iconst 2, 1) := by decide +kernel
theorem dX0_init_216 : decode cX0_init 216 = .ok (.goto 4, 3) := by decide +kernel
theorem dX0_init_219 : decode cX0_init 219 = .ok (.iconst 1, 1) := by decide +kernel
theorem dX0_init_220 : decode cX0_init 220 = .ok (.iastore, 1) := by decide +kernel
theorem dX0_init_221 : decode cX0_init 221 = .ok (.iinc 2 1, 3) := by decide +kernel
theorem dX0_init_224 : decode cX0_init 224 = .ok (.goto (-30), 3) := by decide +kernel
theorem dX0_init_227 : decode cX0_init 227 = .ok (.iinc 1 1, 3) := by decide +kernel
theorem dX0_init_230 : decode cX0_init 230 = .ok (.goto (-43), 3) := by decide +kernel
theorem dX0_init_233 : decode cX0_init 233 = .ok (.return_, 1) := by decide +kernel
theorem dX0_setting_0 : decode cX0_setting 0 = .ok (.aload_n 0, 1) := by decide +kernel
theorem dX0_setting_1 : decode cX0_setting 1 = .ok (.getfield 18, 3) := by decide +kernel
theorem dX0_setting_4 : decode cX0_setting 4 = .ok (.iconst 2, 1) := by decide +kernel
theorem dX0_setting_5 : decode cX0_setting 5 = .ok (.iconst 2, 1) := by decide +kernel
theorem dX0_setting_6 : decode cX0_setting 6 = .ok (.iload_n 1, 1) := by decide +kernel
theorem dX0_setting_7 : decode cX0_setting 7 = .ok (.imul, 1) := by decide +kernel
theorem dX0_setting_8 : decode cX0_setting 8 = .ok (.iload_n 2, 1) := by decide +kernel
theorem dX0_setting_9 : decode cX0_setting 9 = .ok (.iadd, 1) := by decide +kernel
theorem dX0_setting_10 : decode cX0_setting 10 = .ok (.imul, 1) := by decide +kernel
theorem dX0_setting_11 : decode cX0_setting 11 = .ok (.iload_n 3, 1) := by decide +kernel
theorem dX0_setting_12 : decode cX0_setting 12 = .ok (.iadd, 1) := by decide +kernel
theorem dX0_setting_13 : decode cX0_setting 13 = .ok (.iaload, 1) := by decide +kernel
theorem dX0_setting_14 : decode cX0_setting 14 = .ok (.ireturn, 1) := by decide +kernel
theorem dX0_tell_0 : decode cX0_tell 0 = .ok (.aload_n 0, 1) := by decide +kernel
theorem dX0_tell_1 : decode cX0_tell 1 = .ok (.getfield 18, 3) := by decide +kernel
theorem dX0_tell_4 : decode cX0_tell 4 = .ok (.iconst 2, 1) := by decide +kernel
theorem dX0_tell_5 : decode cX0_tell 5 = .ok (.iconst 2, 1) := by decide +kernel
theorem dX0_tell_6 : decode cX0_tell 6 = .ok (.iload_n 1, 1) := by decide +kernel
theorem dX0_tell_7 : decode cX0_tell 7 = .ok (.imul, 1) := by decide +kernel
theorem dX0_tell_8 : decode cX0_tell 8 = .ok (.iload_n 2, 1) := by decide +kernel
theorem dX0_tell_9 : decode cX0_tell 9 = .ok (.iadd, 1) := by decide +kernel
theorem dX0_tell_10 : decode cX0_tell 10 = .ok (.imul, 1) := by decide +kernel
theorem dX0_tell_11 : decode cX0_tell 11 = .ok (.iload_n 3, 1) := by decide +kernel
theorem dX0_tell_12 : decode cX0_tell 12 = .ok (.iadd, 1) := by decide +kernel
theorem dX0_tell_13 : decode cX0_tell 13 = .ok (.iload 4, 2) := by decide +kernel
theorem dX0_tell_15 : decode cX0_tell 15 = .ok (.iastore, 1) := by decide +kernel
theorem dX0_tell_16 : decode cX0_tell 16 = .ok (.aload_n 0, 1) := by decide +kernel
theorem dX0_tell_17 : decode cX0_tell 17 = .ok (.invokevirtual 52, 3) := by decide +kernel
theorem dX0_tell_20 : decode cX0_tell 20 = .ok (.return_, 1) := by decide +kernel
theorem dX0_forget_0 : decode cX0_forget 0 = .ok (.iconst 0, 1) := by decide +kernel
theorem dX0_forget_1 : decode cX0_forget 1 = .ok (.istore_n 1, 1) := by decide +kernel
theorem dX0_forget_2 : decode cX0_forget 2 = .ok (.iload_n 1, 1) := by decide +kernel
theorem dX0_forget_3 : decode cX0_forget 3 = .ok (.iconst 3, 1) := by decide +kernel
theorem dX0_forget_4 : decode cX0_forget 4 = .ok (.if_icmp .ge 16, 3) := by decide +kernel
theorem dX0_forget_7 : decode cX0_forget 7 = .ok (.aload_n 0, 1) := by decide +kernel
theorem dX0_forget_8 : decode cX0_forget 8 = .ok (.getfield 22, 3) := by decide +kernel
theorem dX0_forget_11 : decode cX0_forget 11 = .ok (.iload_n 1, 1) := by decide +kernel
theorem dX0_forget_12 : decode cX0_forget 12 = .ok (.iconst 0, 1) := by decide +kernel
theorem dX0_forget_13 : decode cX0_forget 13 = .ok (.bastore, 1) := by decide +kernel
theorem dX0_forget_14 : decode cX0_forget 14 = .ok (.iinc 1 1, 3) := by decide +kernel
theorem dX0_forget_17 : decode cX0_forget 17 = .ok (.goto (-15), 3) := by decide +kernel
theorem dX0_forget_20 : decode cX0_forget 20 = .ok (.return_, 1) := by decide +kernel
theorem dX0_isKept_0 : decode cX0_isKept 0 = .ok (.aload_n 0, 1) := by decide +kernel
theorem dX0_isKept_1 : decode cX0_isKept 1 = .ok (.getfield 22, 3) := by decide +kernel
theorem dX0_isKept_4 : decode cX0_isKept 4 = .ok (.iload_n 1, 1) := by decide +kernel
theorem dX0_isKept_5 : decode cX0_isKept 5 = .ok (.baload, 1) := by decide +kernel
theorem dX0_isKept_6 : decode cX0_isKept 6 = .ok (.ireturn, 1) := by decide +kernel
theorem dX0_keptTrials_0 : decode cX0_keptTrials 0 = .ok (.iconst 0, 1) := by decide +kernel
theorem dX0_keptTrials_1 : decode cX0_keptTrials 1 = .ok (.istore_n 1, 1) := by decide +kernel
theorem dX0_keptTrials_2 : decode cX0_keptTrials 2 = .ok (.iconst 0, 1) := by decide +kernel
theorem dX0_keptTrials_3 : decode cX0_keptTrials 3 = .ok (.istore_n 2, 1) := by decide +kernel
theorem dX0_keptTrials_4 : decode cX0_keptTrials 4 = .ok (.iload_n 2, 1) := by decide +kernel
theorem dX0_keptTrials_5 : decode cX0_keptTrials 5 = .ok (.iconst 3, 1) := by decide +kernel
theorem dX0_keptTrials_6 : decode cX0_keptTrials 6 = .ok (.if_icmp .ge 26, 3) := by decide +kernel
theorem dX0_keptTrials_9 : decode cX0_keptTrials 9 = .ok (.iload_n 1, 1) := by decide +kernel
theorem dX0_keptTrials_10 : decode cX0_keptTrials 10 = .ok (.aload_n 0, 1) := by decide +kernel
theorem dX0_keptTrials_11 : decode cX0_keptTrials 11 = .ok (.getfield 22, 3) := by decide +kernel
theorem dX0_keptTrials_14 : decode cX0_keptTrials 14 = .ok (.iload_n 2, 1) := by decide +kernel
theorem dX0_keptTrials_15 : decode cX0_keptTrials 15 = .ok (.baload, 1) := by decide +kernel
theorem dX0_keptTrials_16 : decode cX0_keptTrials 16 = .ok (.ifCond .eq 7, 3) := by decide +kernel
theorem dX0_keptTrials_19 : decode cX0_keptTrials 19 = .ok (.iconst 1, 1) := by decide +kernel
theorem dX0_keptTrials_20 : decode cX0_keptTrials 20 = .ok (.goto 4, 3) := by decide +kernel
theorem dX0_keptTrials_23 : decode cX0_keptTrials 23 = .ok (.iconst 0, 1) := by decide +kernel
theorem dX0_keptTrials_24 : decode cX0_keptTrials 24 = .ok (.iadd, 1) := by decide +kernel
theorem dX0_keptTrials_25 : decode cX0_keptTrials 25 = .ok (.istore_n 1, 1) := by decide +kernel
theorem dX0_keptTrials_26 : decode cX0_keptTrials 26 = .ok (.iinc 2 1, 3) := by decide +kernel
theorem dX0_keptTrials_29 : decode cX0_keptTrials 29 = .ok (.goto (-25), 3) := by decide +kernel
theorem dX0_keptTrials_32 : decode cX0_keptTrials 32 = .ok (.iload_n 1, 1) := by decide +kernel
theorem dX0_keptTrials_33 : decode cX0_keptTrials 33 = .ok (.ireturn, 1) := by decide +kernel
theorem dX0_readingOf_0 : decode cX0_readingOf 0 = .ok (.aload_n 0, 1) := by decide +kernel
theorem dX0_readingOf_1 : decode cX0_readingOf 1 = .ok (.getfield 28, 3) := by decide +kernel
theorem dX0_readingOf_4 : decode cX0_readingOf 4 = .ok (.iconst 2, 1) := by decide +kernel
theorem dX0_readingOf_5 : decode cX0_readingOf 5 = .ok (.iload_n 1, 1) := by decide +kernel
theorem dX0_readingOf_6 : decode cX0_readingOf 6 = .ok (.imul, 1) := by decide +kernel
theorem dX0_readingOf_7 : decode cX0_readingOf 7 = .ok (.iload_n 2, 1) := by decide +kernel
theorem dX0_readingOf_8 : decode cX0_readingOf 8 = .ok (.iadd, 1) := by decide +kernel
theorem dX0_readingOf_9 : decode cX0_readingOf 9 = .ok (.aaload, 1) := by decide +kernel
theorem dX0_readingOf_10 : decode cX0_readingOf 10 = .ok (.areturn, 1) := by decide +kernel
theorem dX0_runTrial_0 : decode cX0_runTrial 0 = .ok (.iload_n 2, 1) := by decide +kernel
theorem dX0_runTrial_1 : decode cX0_runTrial 1 = .ok (.ifCond .le 15, 3) := by decide +kernel
theorem dX0_runTrial_4 : decode cX0_runTrial 4 = .ok (.aload_n 0, 1) := by decide +kernel
theorem dX0_runTrial_5 : decode cX0_runTrial 5 = .ok (.getfield 32, 3) := by decide +kernel
theorem dX0_runTrial_8 : decode cX0_runTrial 8 = .ok (.iload_n 2, 1) := by decide +kernel
theorem dX0_runTrial_9 : decode cX0_runTrial 9 = .ok (.aaload, 1) := by decide +kernel
theorem dX0_runTrial_10 : decode cX0_runTrial 10 = .ok (.iload_n 3, 1) := by decide +kernel
theorem dX0_runTrial_11 : decode cX0_runTrial 11 = .ok (.iload 4, 2) := by decide +kernel
theorem dX0_runTrial_13 : decode cX0_runTrial 13 = .ok (.invokevirtual 55, 3) := by decide +kernel
theorem dX0_runTrial_16 : decode cX0_runTrial 16 = .ok (.iconst 0, 1) := by decide +kernel
theorem dX0_runTrial_17 : decode cX0_runTrial 17 = .ok (.istore 5, 2) := by decide +kernel
theorem dX0_runTrial_19 : decode cX0_runTrial 19 = .ok (.iload 5, 2) := by decide +kernel
theorem dX0_runTrial_21 : decode cX0_runTrial 21 = .ok (.iconst 2, 1) := by decide +kernel
theorem dX0_runTrial_22 : decode cX0_runTrial 22 = .ok (.if_icmp .ge 24, 3) := by decide +kernel
theorem dX0_runTrial_25 : decode cX0_runTrial 25 = .ok (.aload_n 0, 1) := by decide +kernel
theorem dX0_runTrial_26 : decode cX0_runTrial 26 = .ok (.aload_n 1, 1) := by decide +kernel
theorem dX0_runTrial_27 : decode cX0_runTrial 27 = .ok (.iload_n 2, 1) := by decide +kernel
theorem dX0_runTrial_28 : decode cX0_runTrial 28 = .ok (.iload 5, 2) := by decide +kernel
theorem dX0_runTrial_30 : decode cX0_runTrial 30 = .ok (.aload_n 0, 1) := by decide +kernel
theorem dX0_runTrial_31 : decode cX0_runTrial 31 = .ok (.iload_n 2, 1) := by decide +kernel
theorem dX0_runTrial_32 : decode cX0_runTrial 32 = .ok (.iload 5, 2) := by decide +kernel
theorem dX0_runTrial_34 : decode cX0_runTrial 34 = .ok (.invokevirtual 59, 3) := by decide +kernel
theorem dX0_runTrial_37 : decode cX0_runTrial 37 = .ok (.invokevirtual 63, 3) := by decide +kernel
theorem dX0_runTrial_40 : decode cX0_runTrial 40 = .ok (.iinc 5 1, 3) := by decide +kernel
theorem dX0_runTrial_43 : decode cX0_runTrial 43 = .ok (.goto (-24), 3) := by decide +kernel
theorem dX0_runTrial_46 : decode cX0_runTrial 46 = .ok (.aload_n 0, 1) := by decide +kernel
theorem dX0_runTrial_47 : decode cX0_runTrial 47 = .ok (.getfield 22, 3) := by decide +kernel
theorem dX0_runTrial_50 : decode cX0_runTrial 50 = .ok (.iload_n 2, 1) := by decide +kernel
theorem dX0_runTrial_51 : decode cX0_runTrial 51 = .ok (.iconst 1, 1) := by decide +kernel
theorem dX0_runTrial_52 : decode cX0_runTrial 52 = .ok (.bastore, 1) := by decide +kernel
theorem dX0_runTrial_53 : decode cX0_runTrial 53 = .ok (.return_, 1) := by decide +kernel
theorem dX0_takeReading_0 : decode cX0_takeReading 0 = .ok (.aload 4, 2) := by decide +kernel
theorem dX0_takeReading_2 : decode cX0_takeReading 2 = .ok (.lconst 0, 1) := by decide +kernel
theorem dX0_takeReading_3 : decode cX0_takeReading 3 = .ok (.lconst 0, 1) := by decide +kernel
theorem dX0_takeReading_4 : decode cX0_takeReading 4 = .ok (.lconst 0, 1) := by decide +kernel
theorem dX0_takeReading_5 : decode cX0_takeReading 5 = .ok (.lconst 0, 1) := by decide +kernel
theorem dX0_takeReading_6 : decode cX0_takeReading 6 = .ok (.lconst 1, 1) := by decide +kernel
theorem dX0_takeReading_7 : decode cX0_takeReading 7 = .ok (.invokevirtual 67, 3) := by decide +kernel
theorem dX0_takeReading_10 : decode cX0_takeReading 10 = .ok (.iconst 0, 1) := by decide +kernel
theorem dX0_takeReading_11 : decode cX0_takeReading 11 = .ok (.istore 5, 2) := by decide +kernel
theorem dX0_takeReading_13 : decode cX0_takeReading 13 = .ok (.iload 5, 2) := by decide +kernel
theorem dX0_takeReading_15 : decode cX0_takeReading 15 = .ok (.iconst 2, 1) := by decide +kernel
theorem dX0_takeReading_16 : decode cX0_takeReading 16 = .ok (.if_icmp .ge 115, 3) := by decide +kernel
theorem dX0_takeReading_19 : decode cX0_takeReading 19 = .ok (.aload_n 1, 1) := by decide +kernel
theorem dX0_takeReading_20 : decode cX0_takeReading 20 = .ok (.iload 5, 2) := by decide +kernel
theorem dX0_takeReading_22 : decode cX0_takeReading 22 = .ok (.aload_n 0, 1) := by decide +kernel
theorem dX0_takeReading_23 : decode cX0_takeReading 23 = .ok (.getfield 39, 3) := by decide +kernel
theorem dX0_takeReading_26 : decode cX0_takeReading 26 = .ok (.invokevirtual 71, 3) := by decide +kernel
theorem dX0_takeReading_29 : decode cX0_takeReading 29 = .ok (.aload_n 0, 1) := by decide +kernel
theorem dX0_takeReading_30 : decode cX0_takeReading 30 = .ok (.getfield 39, 3) := by decide +kernel
theorem dX0_takeReading_33 : decode cX0_takeReading 33 = .ok (.invokevirtual 77, 3) := by decide +kernel
theorem dX0_takeReading_36 : decode cX0_takeReading 36 = .ok (.iload_n 2, 1) := by decide +kernel
theorem dX0_takeReading_37 : decode cX0_takeReading 37 = .ok (.iload 5, 2) := by decide +kernel
theorem dX0_takeReading_39 : decode cX0_takeReading 39 = .ok (.iconst 1, 1) := by decide +kernel
theorem dX0_takeReading_40 : decode cX0_takeReading 40 = .ok (.iadd, 1) := by decide +kernel
theorem dX0_takeReading_41 : decode cX0_takeReading 41 = .ok (.if_icmp .ne 25, 3) := by decide +kernel
theorem dX0_takeReading_44 : decode cX0_takeReading 44 = .ok (.aload_n 0, 1) := by decide +kernel
theorem dX0_takeReading_45 : decode cX0_takeReading 45 = .ok (.getfield 12, 3) := by decide +kernel
theorem dX0_takeReading_48 : decode cX0_takeReading 48 = .ok (.aload_n 0, 1) := by decide +kernel
theorem dX0_takeReading_49 : decode cX0_takeReading 49 = .ok (.getfield 39, 3) := by decide +kernel
theorem dX0_takeReading_52 : decode cX0_takeReading 52 = .ok (.aload_n 0, 1) := by decide +kernel
theorem dX0_takeReading_53 : decode cX0_takeReading 53 = .ok (.getfield 32, 3) := by decide +kernel
theorem dX0_takeReading_56 : decode cX0_takeReading 56 = .ok (.iload_n 2, 1) := by decide +kernel
theorem dX0_takeReading_57 : decode cX0_takeReading 57 = .ok (.aaload, 1) := by decide +kernel
theorem dX0_takeReading_58 : decode cX0_takeReading 58 = .ok (.aload_n 0, 1) := by decide +kernel
theorem dX0_takeReading_59 : decode cX0_takeReading 59 = .ok (.getfield 39, 3) := by decide +kernel
theorem dX0_takeReading_62 : decode cX0_takeReading 62 = .ok (.invokevirtual 80, 3) := by decide +kernel
theorem dX0_takeReading_65 : decode cX0_takeReading 65 = .ok (.pop, 1) := by decide +kernel
theorem dX0_takeReading_66 : decode cX0_takeReading 66 = .ok (.aload_n 0, 1) := by decide +kernel
theorem dX0_takeReading_67 : decode cX0_takeReading 67 = .ok (.getfield 43, 3) := by decide +kernel
theorem dX0_takeReading_70 : decode cX0_takeReading 70 = .ok (.aload_n 0, 1) := by decide +kernel
theorem dX0_takeReading_71 : decode cX0_takeReading 71 = .ok (.iload_n 3, 1) := by decide +kernel
theorem dX0_takeReading_72 : decode cX0_takeReading 72 = .ok (.iload 5, 2) := by decide +kernel
theorem dX0_takeReading_74 : decode cX0_takeReading 74 = .ok (.iconst 0, 1) := by decide +kernel
theorem dX0_takeReading_75 : decode cX0_takeReading 75 = .ok (.invokevirtual 84, 3) := by decide +kernel
theorem dX0_takeReading_78 : decode cX0_takeReading 78 = .ok (.aload_n 0, 1) := by decide +kernel
theorem dX0_takeReading_79 : decode cX0_takeReading 79 = .ok (.iload_n 3, 1) := by decide +kernel
theorem dX0_takeReading_80 : decode cX0_takeReading 80 = .ok (.iload 5, 2) := by decide +kernel
theorem dX0_takeReading_82 : decode cX0_takeReading 82 = .ok (.iconst 1, 1) := by decide +kernel
theorem dX0_takeReading_83 : decode cX0_takeReading 83 = .ok (.invokevirtual 84, 3) := by decide +kernel
theorem dX0_takeReading_86 : decode cX0_takeReading 86 = .ok (.invokevirtual 55, 3) := by decide +kernel
theorem dX0_takeReading_89 : decode cX0_takeReading 89 = .ok (.aload_n 0, 1) := by decide +kernel
theorem dX0_takeReading_90 : decode cX0_takeReading 90 = .ok (.getfield 12, 3) := by decide +kernel
theorem dX0_takeReading_93 : decode cX0_takeReading 93 = .ok (.aload_n 0, 1) := by decide +kernel
theorem dX0_takeReading_94 : decode cX0_takeReading 94 = .ok (.getfield 39, 3) := by decide +kernel
theorem dX0_takeReading_97 : decode cX0_takeReading 97 = .ok (.aload_n 0, 1) := by decide +kernel
theorem dX0_takeReading_98 : decode cX0_takeReading 98 = .ok (.getfield 43, 3) := by decide +kernel
theorem dX0_takeReading_101 : decode cX0_takeReading 101 = .ok (.aload_n 0, 1) := by decide +kernel
theorem dX0_takeReading_102 : decode cX0_takeReading 102 = .ok (.getfield 39, 3) := by decide +kernel
theorem dX0_takeReading_105 : decode cX0_takeReading 105 = .ok (.invokevirtual 88, 3) := by decide +kernel
theorem dX0_takeReading_108 : decode cX0_takeReading 108 = .ok (.pop, 1) := by decide +kernel
theorem dX0_takeReading_109 : decode cX0_takeReading 109 = .ok (.aload_n 0, 1) := by decide +kernel
theorem dX0_takeReading_110 : decode cX0_takeReading 110 = .ok (.getfield 12, 3) := by decide +kernel
theorem dX0_takeReading_113 : decode cX0_takeReading 113 = .ok (.aload 4, 2) := by decide +kernel
theorem dX0_takeReading_115 : decode cX0_takeReading 115 = .ok (.aload_n 0, 1) := by decide +kernel
theorem dX0_takeReading_116 : decode cX0_takeReading 116 = .ok (.getfield 39, 3) := by decide +kernel
theorem dX0_takeReading_119 : decode cX0_takeReading 119 = .ok (.aload 4, 2) := by decide +kernel
theorem dX0_takeReading_121 : decode cX0_takeReading 121 = .ok (.invokevirtual 80, 3) := by decide +kernel
theorem dX0_takeReading_124 : decode cX0_takeReading 124 = .ok (.pop, 1) := by decide +kernel
theorem dX0_takeReading_125 : decode cX0_takeReading 125 = .ok (.iinc 5 1, 3) := by decide +kernel
theorem dX0_takeReading_128 : decode cX0_takeReading 128 = .ok (.goto (-115), 3) := by decide +kernel
theorem dX0_takeReading_131 : decode cX0_takeReading 131 = .ok (.return_, 1) := by decide +kernel
theorem dX0_effectOf_0 : decode cX0_effectOf 0 = .ok (.aload_n 0, 1) := by decide +kernel
theorem dX0_effectOf_1 : decode cX0_effectOf 1 = .ok (.getfield 12, 3) := by decide +kernel
theorem dX0_effectOf_4 : decode cX0_effectOf 4 = .ok (.aload_n 0, 1) := by decide +kernel
theorem dX0_effectOf_5 : decode cX0_effectOf 5 = .ok (.iload_n 1, 1) := by decide +kernel
theorem dX0_effectOf_6 : decode cX0_effectOf 6 = .ok (.iconst 1, 1) := by decide +kernel
theorem dX0_effectOf_7 : decode cX0_effectOf 7 = .ok (.iadd, 1) := by decide +kernel
theorem dX0_effectOf_8 : decode cX0_effectOf 8 = .ok (.iload_n 2, 1) := by decide +kernel
theorem dX0_effectOf_9 : decode cX0_effectOf 9 = .ok (.invokevirtual 59, 3) := by decide +kernel
theorem dX0_effectOf_12 : decode cX0_effectOf 12 = .ok (.aload_n 0, 1) := by decide +kernel
theorem dX0_effectOf_13 : decode cX0_effectOf 13 = .ok (.iconst 0, 1) := by decide +kernel
theorem dX0_effectOf_14 : decode cX0_effectOf 14 = .ok (.iload_n 2, 1) := by decide +kernel
theorem dX0_effectOf_15 : decode cX0_effectOf 15 = .ok (.invokevirtual 59, 3) := by decide +kernel
theorem dX0_effectOf_18 : decode cX0_effectOf 18 = .ok (.aload_n 3, 1) := by decide +kernel
theorem dX0_effectOf_19 : decode cX0_effectOf 19 = .ok (.invokevirtual 91, 3) := by decide +kernel
theorem dX0_effectOf_22 : decode cX0_effectOf 22 = .ok (.ifCond .eq 27, 3) := by decide +kernel
theorem dX0_effectOf_25 : decode cX0_effectOf 25 = .ok (.aload_n 0, 1) := by decide +kernel
theorem dX0_effectOf_26 : decode cX0_effectOf 26 = .ok (.getfield 12, 3) := by decide +kernel
theorem dX0_effectOf_29 : decode cX0_effectOf 29 = .ok (.aload_n 3, 1) := by decide +kernel
theorem dX0_effectOf_30 : decode cX0_effectOf 30 = .ok (.aload_n 0, 1) := by decide +kernel
theorem dX0_effectOf_31 : decode cX0_effectOf 31 = .ok (.getfield 32, 3) := by decide +kernel
theorem dX0_effectOf_34 : decode cX0_effectOf 34 = .ok (.iload_n 1, 1) := by decide +kernel
theorem dX0_effectOf_35 : decode cX0_effectOf 35 = .ok (.iconst 1, 1) := by decide +kernel
theorem dX0_effectOf_36 : decode cX0_effectOf 36 = .ok (.iadd, 1) := by decide +kernel
theorem dX0_effectOf_37 : decode cX0_effectOf 37 = .ok (.aaload, 1) := by decide +kernel
theorem dX0_effectOf_38 : decode cX0_effectOf 38 = .ok (.aload_n 3, 1) := by decide +kernel
theorem dX0_effectOf_39 : decode cX0_effectOf 39 = .ok (.invokevirtual 94, 3) := by decide +kernel
theorem dX0_effectOf_42 : decode cX0_effectOf 42 = .ok (.ifCond .eq 7, 3) := by decide +kernel
theorem dX0_effectOf_45 : decode cX0_effectOf 45 = .ok (.iconst 1, 1) := by decide +kernel
theorem dX0_effectOf_46 : decode cX0_effectOf 46 = .ok (.goto 4, 3) := by decide +kernel
theorem dX0_effectOf_49 : decode cX0_effectOf 49 = .ok (.iconst 0, 1) := by decide +kernel
theorem dX0_effectOf_50 : decode cX0_effectOf 50 = .ok (.ireturn, 1) := by decide +kernel
theorem dX0_unbalance_0 : decode cX0_unbalance 0 = .ok (.iconst 0, 1) := by decide +kernel
theorem dX0_unbalance_1 : decode cX0_unbalance 1 = .ok (.istore_n 3, 1) := by decide +kernel
theorem dX0_unbalance_2 : decode cX0_unbalance 2 = .ok (.iload_n 3, 1) := by decide +kernel
theorem dX0_unbalance_3 : decode cX0_unbalance 3 = .ok (.aload_n 0, 1) := by decide +kernel
theorem dX0_unbalance_4 : decode cX0_unbalance 4 = .ok (.getfield 35, 3) := by decide +kernel
theorem dX0_unbalance_7 : decode cX0_unbalance 7 = .ok (.arraylength, 1) := by decide +kernel
theorem dX0_unbalance_8 : decode cX0_unbalance 8 = .ok (.if_icmp .ge 31, 3) := by decide +kernel
theorem dX0_unbalance_11 : decode cX0_unbalance 11 = .ok (.aload_n 0, 1) := by decide +kernel
theorem dX0_unbalance_12 : decode cX0_unbalance 12 = .ok (.iload_n 3, 1) := by decide +kernel
theorem dX0_unbalance_13 : decode cX0_unbalance 13 = .ok (.iconst 2, 1) := by decide +kernel
theorem dX0_unbalance_14 : decode cX0_unbalance 14 = .ok (.idiv, 1) := by decide +kernel
theorem dX0_unbalance_15 : decode cX0_unbalance 15 = .ok (.iload_n 3, 1) := by decide +kernel
theorem dX0_unbalance_16 : decode cX0_unbalance 16 = .ok (.iconst 2, 1) := by decide +kernel
theorem dX0_unbalance_17 : decode cX0_unbalance 17 = .ok (.irem, 1) := by decide +kernel
theorem dX0_unbalance_18 : decode cX0_unbalance 18 = .ok (.aload_n 0, 1) := by decide +kernel
theorem dX0_unbalance_19 : decode cX0_unbalance 19 = .ok (.getfield 35, 3) := by decide +kernel
theorem dX0_unbalance_22 : decode cX0_unbalance 22 = .ok (.iload_n 3, 1) := by decide +kernel
theorem dX0_unbalance_23 : decode cX0_unbalance 23 = .ok (.aaload, 1) := by decide +kernel
theorem dX0_unbalance_24 : decode cX0_unbalance 24 = .ok (.invokevirtual 97, 3) := by decide +kernel
theorem dX0_unbalance_27 : decode cX0_unbalance 27 = .ok (.ifCond .ne 6, 3) := by decide +kernel
theorem dX0_unbalance_30 : decode cX0_unbalance 30 = .ok (.bipush (-5), 2) := by decide +kernel
theorem dX0_unbalance_32 : decode cX0_unbalance 32 = .ok (.ireturn, 1) := by decide +kernel
theorem dX0_unbalance_33 : decode cX0_unbalance 33 = .ok (.iinc 3 1, 3) := by decide +kernel
theorem dX0_unbalance_36 : decode cX0_unbalance 36 = .ok (.goto (-34), 3) := by decide +kernel
theorem dX0_unbalance_39 : decode cX0_unbalance 39 = .ok (.aload_n 0, 1) := by decide +kernel
theorem dX0_unbalance_40 : decode cX0_unbalance 40 = .ok (.aload_n 0, 1) := by decide +kernel
theorem dX0_unbalance_41 : decode cX0_unbalance 41 = .ok (.getfield 35, 3) := by decide +kernel
theorem dX0_unbalance_44 : decode cX0_unbalance 44 = .ok (.iconst 0, 1) := by decide +kernel
theorem dX0_unbalance_45 : decode cX0_unbalance 45 = .ok (.aaload, 1) := by decide +kernel
theorem dX0_unbalance_46 : decode cX0_unbalance 46 = .ok (.aload_n 0, 1) := by decide +kernel
theorem dX0_unbalance_47 : decode cX0_unbalance 47 = .ok (.getfield 35, 3) := by decide +kernel
theorem dX0_unbalance_50 : decode cX0_unbalance 50 = .ok (.iconst 3, 1) := by decide +kernel
theorem dX0_unbalance_51 : decode cX0_unbalance 51 = .ok (.aaload, 1) := by decide +kernel
theorem dX0_unbalance_52 : decode cX0_unbalance 52 = .ok (.aload_n 0, 1) := by decide +kernel
theorem dX0_unbalance_53 : decode cX0_unbalance 53 = .ok (.getfield 35, 3) := by decide +kernel
theorem dX0_unbalance_56 : decode cX0_unbalance 56 = .ok (.iconst 2, 1) := by decide +kernel
theorem dX0_unbalance_57 : decode cX0_unbalance 57 = .ok (.aaload, 1) := by decide +kernel
theorem dX0_unbalance_58 : decode cX0_unbalance 58 = .ok (.aload_n 0, 1) := by decide +kernel
theorem dX0_unbalance_59 : decode cX0_unbalance 59 = .ok (.getfield 35, 3) := by decide +kernel
theorem dX0_unbalance_62 : decode cX0_unbalance 62 = .ok (.iconst 1, 1) := by decide +kernel
theorem dX0_unbalance_63 : decode cX0_unbalance 63 = .ok (.aaload, 1) := by decide +kernel
theorem dX0_unbalance_64 : decode cX0_unbalance 64 = .ok (.aload_n 0, 1) := by decide +kernel
theorem dX0_unbalance_65 : decode cX0_unbalance 65 = .ok (.getfield 46, 3) := by decide +kernel
theorem dX0_unbalance_68 : decode cX0_unbalance 68 = .ok (.invokevirtual 101, 3) := by decide +kernel
theorem dX0_unbalance_71 : decode cX0_unbalance 71 = .ok (.ifCond .ne 6, 3) := by decide +kernel
theorem dX0_unbalance_74 : decode cX0_unbalance 74 = .ok (.bipush (-5), 2) := by decide +kernel
theorem dX0_unbalance_76 : decode cX0_unbalance 76 = .ok (.ireturn, 1) := by decide +kernel
theorem dX0_unbalance_77 : decode cX0_unbalance 77 = .ok (.aload_n 0, 1) := by decide +kernel
theorem dX0_unbalance_78 : decode cX0_unbalance 78 = .ok (.getfield 46, 3) := by decide +kernel
theorem dX0_unbalance_81 : decode cX0_unbalance 81 = .ok (.invokevirtual 105, 3) := by decide +kernel
theorem dX0_unbalance_84 : decode cX0_unbalance 84 = .ok (.ifCond .eq 6, 3) := by decide +kernel
theorem dX0_unbalance_87 : decode cX0_unbalance 87 = .ok (.bipush (-6), 2) := by decide +kernel
theorem dX0_unbalance_89 : decode cX0_unbalance 89 = .ok (.ireturn, 1) := by decide +kernel
theorem dX0_unbalance_90 : decode cX0_unbalance 90 = .ok (.aload_n 0, 1) := by decide +kernel
theorem dX0_unbalance_91 : decode cX0_unbalance 91 = .ok (.iconst 0, 1) := by decide +kernel
theorem dX0_unbalance_92 : decode cX0_unbalance 92 = .ok (.iconst 0, 1) := by decide +kernel
theorem dX0_unbalance_93 : decode cX0_unbalance 93 = .ok (.invokevirtual 59, 3) := by decide +kernel
theorem dX0_unbalance_96 : decode cX0_unbalance 96 = .ok (.astore_n 3, 1) := by decide +kernel
theorem dX0_unbalance_97 : decode cX0_unbalance 97 = .ok (.aload_n 0, 1) := by decide +kernel
theorem dX0_unbalance_98 : decode cX0_unbalance 98 = .ok (.iconst 0, 1) := by decide +kernel
theorem dX0_unbalance_99 : decode cX0_unbalance 99 = .ok (.iconst 1, 1) := by decide +kernel
theorem dX0_unbalance_100 : decode cX0_unbalance 100 = .ok (.invokevirtual 59, 3) := by decide +kernel
theorem dX0_unbalance_103 : decode cX0_unbalance 103 = .ok (.astore 4, 2) := by decide +kernel
theorem dX0_unbalance_105 : decode cX0_unbalance 105 = .ok (.iload_n 1, 1) := by decide +kernel
theorem dX0_unbalance_106 : decode cX0_unbalance 106 = .ok (.ifCond .ne 26, 3) := by decide +kernel
theorem dX0_unbalance_109 : decode cX0_unbalance 109 = .ok (.aload_n 0, 1) := by decide +kernel
theorem dX0_unbalance_110 : decode cX0_unbalance 110 = .ok (.aload_n 3, 1) := by decide +kernel
theorem dX0_unbalance_111 : decode cX0_unbalance 111 = .ok (.aload_n 0, 1) := by decide +kernel
theorem dX0_unbalance_112 : decode cX0_unbalance 112 = .ok (.getfield 35, 3) := by decide +kernel
theorem dX0_unbalance_115 : decode cX0_unbalance 115 = .ok (.iconst 3, 1) := by decide +kernel
theorem dX0_unbalance_116 : decode cX0_unbalance 116 = .ok (.aaload, 1) := by decide +kernel
theorem dX0_unbalance_117 : decode cX0_unbalance 117 = .ok (.aload_n 0, 1) := by decide +kernel
theorem dX0_unbalance_118 : decode cX0_unbalance 118 = .ok (.getfield 35, 3) := by decide +kernel
theorem dX0_unbalance_121 : decode cX0_unbalance 121 = .ok (.iconst 2, 1) := by decide +kernel
theorem dX0_unbalance_122 : decode cX0_unbalance 122 = .ok (.aaload, 1) := by decide +kernel
theorem dX0_unbalance_123 : decode cX0_unbalance 123 = .ok (.aload 4, 2) := by decide +kernel
theorem dX0_unbalance_125 : decode cX0_unbalance 125 = .ok (.aload_n 2, 1) := by decide +kernel
theorem dX0_unbalance_126 : decode cX0_unbalance 126 = .ok (.invokevirtual 101, 3) := by decide +kernel
theorem dX0_unbalance_129 : decode cX0_unbalance 129 = .ok (.goto 23, 3) := by decide +kernel
theorem dX0_unbalance_132 : decode cX0_unbalance 132 = .ok (.aload_n 0, 1) := by decide +kernel
theorem dX0_unbalance_133 : decode cX0_unbalance 133 = .ok (.aload_n 0, 1) := by decide +kernel
theorem dX0_unbalance_134 : decode cX0_unbalance 134 = .ok (.getfield 35, 3) := by decide +kernel
theorem dX0_unbalance_137 : decode cX0_unbalance 137 = .ok (.iconst 0, 1) := by decide +kernel
theorem dX0_unbalance_138 : decode cX0_unbalance 138 = .ok (.aaload, 1) := by decide +kernel
theorem dX0_unbalance_139 : decode cX0_unbalance 139 = .ok (.aload 4, 2) := by decide +kernel
theorem dX0_unbalance_141 : decode cX0_unbalance 141 = .ok (.aload_n 3, 1) := by decide +kernel
theorem dX0_unbalance_142 : decode cX0_unbalance 142 = .ok (.aload_n 0, 1) := by decide +kernel
theorem dX0_unbalance_143 : decode cX0_unbalance 143 = .ok (.getfield 35, 3) := by decide +kernel
theorem dX0_unbalance_146 : decode cX0_unbalance 146 = .ok (.iconst 1, 1) := by decide +kernel
theorem dX0_unbalance_147 : decode cX0_unbalance 147 = .ok (.aaload, 1) := by decide +kernel
theorem dX0_unbalance_148 : decode cX0_unbalance 148 = .ok (.aload_n 2, 1) := by decide +kernel
theorem dX0_unbalance_149 : decode cX0_unbalance 149 = .ok (.invokevirtual 101, 3) := by decide +kernel
theorem dX0_unbalance_152 : decode cX0_unbalance 152 = .ok (.istore 5, 2) := by decide +kernel
theorem dX0_unbalance_154 : decode cX0_unbalance 154 = .ok (.iload 5, 2) := by decide +kernel
theorem dX0_unbalance_156 : decode cX0_unbalance 156 = .ok (.ifCond .eq 23, 3) := by decide +kernel
theorem dX0_unbalance_159 : decode cX0_unbalance 159 = .ok (.aload_n 0, 1) := by decide +kernel
theorem dX0_unbalance_160 : decode cX0_unbalance 160 = .ok (.getfield 12, 3) := by decide +kernel
theorem dX0_unbalance_163 : decode cX0_unbalance 163 = .ok (.aload_n 2, 1) := by decide +kernel
theorem dX0_unbalance_164 : decode cX0_unbalance 164 = .ok (.aload_n 0, 1) := by decide +kernel
theorem dX0_unbalance_165 : decode cX0_unbalance 165 = .ok (.getfield 46, 3) := by decide +kernel
theorem dX0_unbalance_168 : decode cX0_unbalance 168 = .ok (.aload_n 2, 1) := by decide +kernel
theorem dX0_unbalance_169 : decode cX0_unbalance 169 = .ok (.invokevirtual 94, 3) := by decide +kernel
theorem dX0_unbalance_172 : decode cX0_unbalance 172 = .ok (.ifCond .eq 7, 3) := by decide +kernel
theorem dX0_unbalance_175 : decode cX0_unbalance 175 = .ok (.iconst 1, 1) := by decide +kernel
theorem dX0_unbalance_176 : decode cX0_unbalance 176 = .ok (.goto 5, 3) := by decide +kernel
theorem dX0_unbalance_179 : decode cX0_unbalance 179 = .ok (.bipush (-5), 2) := by decide +kernel
theorem dX0_unbalance_181 : decode cX0_unbalance 181 = .ok (.ireturn, 1) := by decide +kernel
theorem dX0_cross_0 : decode cX0_cross 0 = .ok (.aload_n 0, 1) := by decide +kernel
theorem dX0_cross_1 : decode cX0_cross 1 = .ok (.getfield 12, 3) := by decide +kernel
theorem dX0_cross_4 : decode cX0_cross 4 = .ok (.aload_n 1, 1) := by decide +kernel
theorem dX0_cross_5 : decode cX0_cross 5 = .ok (.aload_n 2, 1) := by decide +kernel
theorem dX0_cross_6 : decode cX0_cross 6 = .ok (.aload 5, 2) := by decide +kernel
theorem dX0_cross_8 : decode cX0_cross 8 = .ok (.invokevirtual 88, 3) := by decide +kernel
theorem dX0_cross_11 : decode cX0_cross 11 = .ok (.ifCond .eq 42, 3) := by decide +kernel
theorem dX0_cross_14 : decode cX0_cross 14 = .ok (.aload_n 0, 1) := by decide +kernel
theorem dX0_cross_15 : decode cX0_cross 15 = .ok (.getfield 12, 3) := by decide +kernel
theorem dX0_cross_18 : decode cX0_cross 18 = .ok (.aload_n 3, 1) := by decide +kernel
theorem dX0_cross_19 : decode cX0_cross 19 = .ok (.aload 4, 2) := by decide +kernel
theorem dX0_cross_21 : decode cX0_cross 21 = .ok (.aload_n 0, 1) := by decide +kernel
theorem dX0_cross_22 : decode cX0_cross 22 = .ok (.getfield 49, 3) := by decide +kernel
theorem dX0_cross_25 : decode cX0_cross 25 = .ok (.invokevirtual 88, 3) := by decide +kernel
theorem dX0_cross_28 : decode cX0_cross 28 = .ok (.ifCond .eq 25, 3) := by decide +kernel
theorem dX0_cross_31 : decode cX0_cross 31 = .ok (.aload_n 0, 1) := by decide +kernel
theorem dX0_cross_32 : decode cX0_cross 32 = .ok (.getfield 12, 3) := by decide +kernel
theorem dX0_cross_35 : decode cX0_cross 35 = .ok (.aload 5, 2) := by decide +kernel
theorem dX0_cross_37 : decode cX0_cross 37 = .ok (.aload_n 0, 1) := by decide +kernel
theorem dX0_cross_38 : decode cX0_cross 38 = .ok (.getfield 49, 3) := by decide +kernel
theorem dX0_cross_41 : decode cX0_cross 41 = .ok (.aload 5, 2) := by decide +kernel
theorem dX0_cross_43 : decode cX0_cross 43 = .ok (.invokevirtual 91, 3) := by decide +kernel
theorem dX0_cross_46 : decode cX0_cross 46 = .ok (.ifCond .eq 7, 3) := by decide +kernel
theorem dX0_cross_49 : decode cX0_cross 49 = .ok (.iconst 1, 1) := by decide +kernel
theorem dX0_cross_50 : decode cX0_cross 50 = .ok (.goto 4, 3) := by decide +kernel
theorem dX0_cross_53 : decode cX0_cross 53 = .ok (.iconst 0, 1) := by decide +kernel
theorem dX0_cross_54 : decode cX0_cross 54 = .ok (.ireturn, 1) := by decide +kernel
theorem dX1_init_0 : decode cX1_init 0 = .ok (.aload_n 0, 1) := by decide +kernel
theorem dX1_init_1 : decode cX1_init 1 = .ok (.invokespecial 1, 3) := by decide +kernel
theorem dX1_init_4 : decode cX1_init 4 = .ok (.aload_n 0, 1) := by decide +kernel
theorem dX1_init_5 : decode cX1_init 5 = .ok (.lconst 1, 1) := by decide +kernel
theorem dX1_init_6 : decode cX1_init 6 = .ok (.putfield 7, 3) := by decide +kernel
theorem dX1_init_9 : decode cX1_init 9 = .ok (.return_, 1) := by decide +kernel
theorem dX1_become_0 : decode cX1_become 0 = .ok (.aload_n 0, 1) := by decide +kernel
theorem dX1_become_1 : decode cX1_become 1 = .ok (.lload_n 1, 1) := by decide +kernel
theorem dX1_become_2 : decode cX1_become 2 = .ok (.putfield 13, 3) := by decide +kernel
theorem dX1_become_5 : decode cX1_become 5 = .ok (.aload_n 0, 1) := by decide +kernel
theorem dX1_become_6 : decode cX1_become 6 = .ok (.lload_n 3, 1) := by decide +kernel
theorem dX1_become_7 : decode cX1_become 7 = .ok (.putfield 16, 3) := by decide +kernel
theorem dX1_become_10 : decode cX1_become 10 = .ok (.aload_n 0, 1) := by decide +kernel
theorem dX1_become_11 : decode cX1_become 11 = .ok (.lload 5, 2) := by decide +kernel
theorem dX1_become_13 : decode cX1_become 13 = .ok (.putfield 19, 3) := by decide +kernel
theorem dX1_become_16 : decode cX1_become 16 = .ok (.aload_n 0, 1) := by decide +kernel
theorem dX1_become_17 : decode cX1_become 17 = .ok (.lload 7, 2) := by decide +kernel
theorem dX1_become_19 : decode cX1_become 19 = .ok (.putfield 22, 3) := by decide +kernel
theorem dX1_become_22 : decode cX1_become 22 = .ok (.aload_n 0, 1) := by decide +kernel
theorem dX1_become_23 : decode cX1_become 23 = .ok (.lload 9, 2) := by decide +kernel
theorem dX1_become_25 : decode cX1_become 25 = .ok (.putfield 7, 3) := by decide +kernel
theorem dX1_become_28 : decode cX1_become 28 = .ok (.return_, 1) := by decide +kernel
theorem dX1_take_0 : decode cX1_take 0 = .ok (.aload_n 0, 1) := by decide +kernel
theorem dX1_take_1 : decode cX1_take 1 = .ok (.aload_n 1, 1) := by decide +kernel
theorem dX1_take_2 : decode cX1_take 2 = .ok (.getfield 13, 3) := by decide +kernel
theorem dX1_take_5 : decode cX1_take 5 = .ok (.aload_n 1, 1) := by decide +kernel
theorem dX1_take_6 : decode cX1_take 6 = .ok (.getfield 16, 3) := by decide +kernel
theorem dX1_take_9 : decode cX1_take 9 = .ok (.aload_n 1, 1) := by decide +kernel
theorem dX1_take_10 : decode cX1_take 10 = .ok (.getfield 19, 3) := by decide +kernel
theorem dX1_take_13 : decode cX1_take 13 = .ok (.aload_n 1, 1) := by decide +kernel
theorem dX1_take_14 : decode cX1_take 14 = .ok (.getfield 22, 3) := by decide +kernel
theorem dX1_take_17 : decode cX1_take 17 = .ok (.aload_n 1, 1) := by decide +kernel
theorem dX1_take_18 : decode cX1_take 18 = .ok (.getfield 7, 3) := by decide +kernel
theorem dX1_take_21 : decode cX1_take 21 = .ok (.invokevirtual 25, 3) := by decide +kernel
theorem dX1_take_24 : decode cX1_take 24 = .ok (.return_, 1) := by decide +kernel
theorem dX1_item_0 : decode cX1_item 0 = .ok (.iload_n 1, 1) := by decide +kernel
theorem dX1_item_1 : decode cX1_item 1 = .ok (.tableswitch 51 0 3 #[31, 36, 41, 46], 31) := by decide +kernel
theorem dX1_item_32 : decode cX1_item 32 = .ok (.aload_n 0, 1) := by decide +kernel
theorem dX1_item_33 : decode cX1_item 33 = .ok (.getfield 13, 3) := by decide +kernel
theorem dX1_item_36 : decode cX1_item 36 = .ok (.lreturn, 1) := by decide +kernel
theorem dX1_item_37 : decode cX1_item 37 = .ok (.aload_n 0, 1) := by decide +kernel
theorem dX1_item_38 : decode cX1_item 38 = .ok (.getfield 16, 3) := by decide +kernel
theorem dX1_item_41 : decode cX1_item 41 = .ok (.lreturn, 1) := by decide +kernel
theorem dX1_item_42 : decode cX1_item 42 = .ok (.aload_n 0, 1) := by decide +kernel
theorem dX1_item_43 : decode cX1_item 43 = .ok (.getfield 19, 3) := by decide +kernel
theorem dX1_item_46 : decode cX1_item 46 = .ok (.lreturn, 1) := by decide +kernel
theorem dX1_item_47 : decode cX1_item 47 = .ok (.aload_n 0, 1) := by decide +kernel
theorem dX1_item_48 : decode cX1_item 48 = .ok (.getfield 22, 3) := by decide +kernel
theorem dX1_item_51 : decode cX1_item 51 = .ok (.lreturn, 1) := by decide +kernel
theorem dX1_item_52 : decode cX1_item 52 = .ok (.aload_n 0, 1) := by decide +kernel
theorem dX1_item_53 : decode cX1_item 53 = .ok (.getfield 7, 3) := by decide +kernel
theorem dX1_item_56 : decode cX1_item 56 = .ok (.lreturn, 1) := by decide +kernel
theorem dX1_isZero_0 : decode cX1_isZero 0 = .ok (.aload_n 0, 1) := by decide +kernel
theorem dX1_isZero_1 : decode cX1_isZero 1 = .ok (.getfield 13, 3) := by decide +kernel
theorem dX1_isZero_4 : decode cX1_isZero 4 = .ok (.lconst 0, 1) := by decide +kernel
theorem dX1_isZero_5 : decode cX1_isZero 5 = .ok (.lcmp, 1) := by decide +kernel
theorem dX1_isZero_6 : decode cX1_isZero 6 = .ok (.ifCond .ne 23, 3) := by decide +kernel
theorem dX1_isZero_9 : decode cX1_isZero 9 = .ok (.aload_n 0, 1) := by decide +kernel
theorem dX1_isZero_10 : decode cX1_isZero 10 = .ok (.getfield 16, 3) := by decide +kernel
theorem dX1_isZero_13 : decode cX1_isZero 13 = .ok (.lconst 0, 1) := by decide +kernel
theorem dX1_isZero_14 : decode cX1_isZero 14 = .ok (.lcmp, 1) := by decide +kernel
theorem dX1_isZero_15 : decode cX1_isZero 15 = .ok (.ifCond .ne 14, 3) := by decide +kernel
theorem dX1_isZero_18 : decode cX1_isZero 18 = .ok (.aload_n 0, 1) := by decide +kernel
theorem dX1_isZero_19 : decode cX1_isZero 19 = .ok (.invokevirtual 29, 3) := by decide +kernel
theorem dX1_isZero_22 : decode cX1_isZero 22 = .ok (.ifCond .ne 7, 3) := by decide +kernel
theorem dX1_isZero_25 : decode cX1_isZero 25 = .ok (.iconst 1, 1) := by decide +kernel
theorem dX1_isZero_26 : decode cX1_isZero 26 = .ok (.goto 4, 3) := by decide +kernel
theorem dX1_isZero_29 : decode cX1_isZero 29 = .ok (.iconst 0, 1) := by decide +kernel
theorem dX1_isZero_30 : decode cX1_isZero 30 = .ok (.ireturn, 1) := by decide +kernel
theorem dX1_isTurned_0 : decode cX1_isTurned 0 = .ok (.aload_n 0, 1) := by decide +kernel
theorem dX1_isTurned_1 : decode cX1_isTurned 1 = .ok (.getfield 19, 3) := by decide +kernel
theorem dX1_isTurned_4 : decode cX1_isTurned 4 = .ok (.lconst 0, 1) := by decide +kernel
theorem dX1_isTurned_5 : decode cX1_isTurned 5 = .ok (.lcmp, 1) := by decide +kernel
theorem dX1_isTurned_6 : decode cX1_isTurned 6 = .ok (.ifCond .ne 12, 3) := by decide +kernel
theorem dX1_isTurned_9 : decode cX1_isTurned 9 = .ok (.aload_n 0, 1) := by decide +kernel
theorem dX1_isTurned_10 : decode cX1_isTurned 10 = .ok (.getfield 22, 3) := by decide +kernel
theorem dX1_isTurned_13 : decode cX1_isTurned 13 = .ok (.lconst 0, 1) := by decide +kernel
theorem dX1_isTurned_14 : decode cX1_isTurned 14 = .ok (.lcmp, 1) := by decide +kernel
theorem dX1_isTurned_15 : decode cX1_isTurned 15 = .ok (.ifCond .eq 7, 3) := by decide +kernel
theorem dX1_isTurned_18 : decode cX1_isTurned 18 = .ok (.iconst 1, 1) := by decide +kernel
theorem dX1_isTurned_19 : decode cX1_isTurned 19 = .ok (.goto 4, 3) := by decide +kernel
theorem dX1_isTurned_22 : decode cX1_isTurned 22 = .ok (.iconst 0, 1) := by decide +kernel
theorem dX1_isTurned_23 : decode cX1_isTurned 23 = .ok (.ireturn, 1) := by decide +kernel
theorem dX1_mirror_0 : decode cX1_mirror 0 = .ok (.aload_n 0, 1) := by decide +kernel
theorem dX1_mirror_1 : decode cX1_mirror 1 = .ok (.aload_n 0, 1) := by decide +kernel
theorem dX1_mirror_2 : decode cX1_mirror 2 = .ok (.getfield 19, 3) := by decide +kernel
theorem dX1_mirror_5 : decode cX1_mirror 5 = .ok (.lneg, 1) := by decide +kernel
theorem dX1_mirror_6 : decode cX1_mirror 6 = .ok (.putfield 19, 3) := by decide +kernel
theorem dX1_mirror_9 : decode cX1_mirror 9 = .ok (.aload_n 0, 1) := by decide +kernel
theorem dX1_mirror_10 : decode cX1_mirror 10 = .ok (.aload_n 0, 1) := by decide +kernel
theorem dX1_mirror_11 : decode cX1_mirror 11 = .ok (.getfield 22, 3) := by decide +kernel
theorem dX1_mirror_14 : decode cX1_mirror 14 = .ok (.lneg, 1) := by decide +kernel
theorem dX1_mirror_15 : decode cX1_mirror 15 = .ok (.putfield 22, 3) := by decide +kernel
theorem dX1_mirror_18 : decode cX1_mirror 18 = .ok (.return_, 1) := by decide +kernel
theorem dX1_addWay_0 : decode cX1_addWay 0 = .ok (.iconst 4, 1) := by decide +kernel
theorem dX1_addWay_1 : decode cX1_addWay 1 = .ok (.iload_n 2, 1) := by decide +kernel
theorem dX1_addWay_2 : decode cX1_addWay 2 = .ok (.imul, 1) := by decide +kernel
theorem dX1_addWay_3 : decode cX1_addWay 3 = .ok (.istore_n 3, 1) := by decide +kernel
theorem dX1_addWay_4 : decode cX1_addWay 4 = .ok (.aload_n 0, 1) := by decide +kernel
theorem dX1_addWay_5 : decode cX1_addWay 5 = .ok (.dup, 1) := by decide +kernel
theorem dX1_addWay_6 : decode cX1_addWay 6 = .ok (.getfield 13, 3) := by decide +kernel
theorem dX1_addWay_9 : decode cX1_addWay 9 = .ok (.iload_n 1, 1) := by decide +kernel
theorem dX1_addWay_10 : decode cX1_addWay 10 = .ok (.i2l, 1) := by decide +kernel
theorem dX1_addWay_11 : decode cX1_addWay 11 = .ok (.getstatic 33, 3) := by decide +kernel
theorem dX1_addWay_14 : decode cX1_addWay 14 = .ok (.iload_n 3, 1) := by decide +kernel
theorem dX1_addWay_15 : decode cX1_addWay 15 = .ok (.iaload, 1) := by decide +kernel
theorem dX1_addWay_16 : decode cX1_addWay 16 = .ok (.i2l, 1) := by decide +kernel
theorem dX1_addWay_17 : decode cX1_addWay 17 = .ok (.lmul, 1) := by decide +kernel
theorem dX1_addWay_18 : decode cX1_addWay 18 = .ok (.ladd, 1) := by decide +kernel
theorem dX1_addWay_19 : decode cX1_addWay 19 = .ok (.putfield 13, 3) := by decide +kernel
theorem dX1_addWay_22 : decode cX1_addWay 22 = .ok (.aload_n 0, 1) := by decide +kernel
theorem dX1_addWay_23 : decode cX1_addWay 23 = .ok (.dup, 1) := by decide +kernel
theorem dX1_addWay_24 : decode cX1_addWay 24 = .ok (.getfield 16, 3) := by decide +kernel
theorem dX1_addWay_27 : decode cX1_addWay 27 = .ok (.iload_n 1, 1) := by decide +kernel
theorem dX1_addWay_28 : decode cX1_addWay 28 = .ok (.i2l, 1) := by decide +kernel
theorem dX1_addWay_29 : decode cX1_addWay 29 = .ok (.getstatic 33, 3) := by decide +kernel
theorem dX1_addWay_32 : decode cX1_addWay 32 = .ok (.iload_n 3, 1) := by decide +kernel
theorem dX1_addWay_33 : decode cX1_addWay 33 = .ok (.iconst 1, 1) := by decide +kernel
theorem dX1_addWay_34 : decode cX1_addWay 34 = .ok (.iadd, 1) := by decide +kernel
theorem dX1_addWay_35 : decode cX1_addWay 35 = .ok (.iaload, 1) := by decide +kernel
theorem dX1_addWay_36 : decode cX1_addWay 36 = .ok (.i2l, 1) := by decide +kernel
theorem dX1_addWay_37 : decode cX1_addWay 37 = .ok (.lmul, 1) := by decide +kernel
theorem dX1_addWay_38 : decode cX1_addWay 38 = .ok (.ladd, 1) := by decide +kernel
theorem dX1_addWay_39 : decode cX1_addWay 39 = .ok (.putfield 16, 3) := by decide +kernel
theorem dX1_addWay_42 : decode cX1_addWay 42 = .ok (.aload_n 0, 1) := by decide +kernel
theorem dX1_addWay_43 : decode cX1_addWay 43 = .ok (.dup, 1) := by decide +kernel
theorem dX1_addWay_44 : decode cX1_addWay 44 = .ok (.getfield 19, 3) := by decide +kernel
theorem dX1_addWay_47 : decode cX1_addWay 47 = .ok (.iload_n 1, 1) := by decide +kernel
theorem dX1_addWay_48 : decode cX1_addWay 48 = .ok (.i2l, 1) := by decide +kernel
theorem dX1_addWay_49 : decode cX1_addWay 49 = .ok (.getstatic 33, 3) := by decide +kernel
theorem dX1_addWay_52 : decode cX1_addWay 52 = .ok (.iload_n 3, 1) := by decide +kernel
theorem dX1_addWay_53 : decode cX1_addWay 53 = .ok (.iconst 2, 1) := by decide +kernel
theorem dX1_addWay_54 : decode cX1_addWay 54 = .ok (.iadd, 1) := by decide +kernel
theorem dX1_addWay_55 : decode cX1_addWay 55 = .ok (.iaload, 1) := by decide +kernel
theorem dX1_addWay_56 : decode cX1_addWay 56 = .ok (.i2l, 1) := by decide +kernel
theorem dX1_addWay_57 : decode cX1_addWay 57 = .ok (.lmul, 1) := by decide +kernel
theorem dX1_addWay_58 : decode cX1_addWay 58 = .ok (.ladd, 1) := by decide +kernel
theorem dX1_addWay_59 : decode cX1_addWay 59 = .ok (.putfield 19, 3) := by decide +kernel
theorem dX1_addWay_62 : decode cX1_addWay 62 = .ok (.aload_n 0, 1) := by decide +kernel
theorem dX1_addWay_63 : decode cX1_addWay 63 = .ok (.dup, 1) := by decide +kernel
theorem dX1_addWay_64 : decode cX1_addWay 64 = .ok (.getfield 22, 3) := by decide +kernel
theorem dX1_addWay_67 : decode cX1_addWay 67 = .ok (.iload_n 1, 1) := by decide +kernel
theorem dX1_addWay_68 : decode cX1_addWay 68 = .ok (.i2l, 1) := by decide +kernel
theorem dX1_addWay_69 : decode cX1_addWay 69 = .ok (.getstatic 33, 3) := by decide +kernel
theorem dX1_addWay_72 : decode cX1_addWay 72 = .ok (.iload_n 3, 1) := by decide +kernel
theorem dX1_addWay_73 : decode cX1_addWay 73 = .ok (.iconst 3, 1) := by decide +kernel
theorem dX1_addWay_74 : decode cX1_addWay 74 = .ok (.iadd, 1) := by decide +kernel
theorem dX1_addWay_75 : decode cX1_addWay 75 = .ok (.iaload, 1) := by decide +kernel
theorem dX1_addWay_76 : decode cX1_addWay 76 = .ok (.i2l, 1) := by decide +kernel
theorem dX1_addWay_77 : decode cX1_addWay 77 = .ok (.lmul, 1) := by decide +kernel
theorem dX1_addWay_78 : decode cX1_addWay 78 = .ok (.ladd, 1) := by decide +kernel
theorem dX1_addWay_79 : decode cX1_addWay 79 = .ok (.putfield 22, 3) := by decide +kernel
theorem dX1_addWay_82 : decode cX1_addWay 82 = .ok (.return_, 1) := by decide +kernel
theorem dX1_becomeWay_0 : decode cX1_becomeWay 0 = .ok (.aload_n 0, 1) := by decide +kernel
theorem dX1_becomeWay_1 : decode cX1_becomeWay 1 = .ok (.lconst 0, 1) := by decide +kernel
theorem dX1_becomeWay_2 : decode cX1_becomeWay 2 = .ok (.lconst 0, 1) := by decide +kernel
theorem dX1_becomeWay_3 : decode cX1_becomeWay 3 = .ok (.lconst 0, 1) := by decide +kernel
theorem dX1_becomeWay_4 : decode cX1_becomeWay 4 = .ok (.lconst 0, 1) := by decide +kernel
theorem dX1_becomeWay_5 : decode cX1_becomeWay 5 = .ok (.ldc2_w 39, 3) := by decide +kernel
theorem dX1_becomeWay_8 : decode cX1_becomeWay 8 = .ok (.invokevirtual 25, 3) := by decide +kernel
theorem dX1_becomeWay_11 : decode cX1_becomeWay 11 = .ok (.aload_n 0, 1) := by decide +kernel
theorem dX1_becomeWay_12 : decode cX1_becomeWay 12 = .ok (.iload_n 1, 1) := by decide +kernel
theorem dX1_becomeWay_13 : decode cX1_becomeWay 13 = .ok (.iload_n 2, 1) := by decide +kernel
theorem dX1_becomeWay_14 : decode cX1_becomeWay 14 = .ok (.invokevirtual 41, 3) := by decide +kernel
theorem dX1_becomeWay_17 : decode cX1_becomeWay 17 = .ok (.aload_n 0, 1) := by decide +kernel
theorem dX1_becomeWay_18 : decode cX1_becomeWay 18 = .ok (.invokevirtual 45, 3) := by decide +kernel
theorem dX1_becomeWay_21 : decode cX1_becomeWay 21 = .ok (.return_, 1) := by decide +kernel
theorem dX1_shorten_0 : decode cX1_shorten 0 = .ok (.aload_n 0, 1) := by decide +kernel
theorem dX1_shorten_1 : decode cX1_shorten 1 = .ok (.getfield 7, 3) := by decide +kernel
theorem dX1_shorten_4 : decode cX1_shorten 4 = .ok (.aload_n 0, 1) := by decide +kernel
theorem dX1_shorten_5 : decode cX1_shorten 5 = .ok (.getfield 13, 3) := by decide +kernel
theorem dX1_shorten_8 : decode cX1_shorten 8 = .ok (.invokestatic 48, 3) := by decide +kernel
theorem dX1_shorten_11 : decode cX1_shorten 11 = .ok (.aload_n 0, 1) := by decide +kernel
theorem dX1_shorten_12 : decode cX1_shorten 12 = .ok (.getfield 16, 3) := by decide +kernel
theorem dX1_shorten_15 : decode cX1_shorten 15 = .ok (.invokestatic 48, 3) := by decide +kernel
theorem dX1_shorten_18 : decode cX1_shorten 18 = .ok (.aload_n 0, 1) := by decide +kernel
theorem dX1_shorten_19 : decode cX1_shorten 19 = .ok (.getfield 19, 3) := by decide +kernel
theorem dX1_shorten_22 : decode cX1_shorten 22 = .ok (.invokestatic 48, 3) := by decide +kernel
theorem dX1_shorten_25 : decode cX1_shorten 25 = .ok (.aload_n 0, 1) := by decide +kernel
theorem dX1_shorten_26 : decode cX1_shorten 26 = .ok (.getfield 22, 3) := by decide +kernel
theorem dX1_shorten_29 : decode cX1_shorten 29 = .ok (.invokestatic 48, 3) := by decide +kernel
theorem dX1_shorten_32 : decode cX1_shorten 32 = .ok (.lstore_n 1, 1) := by decide +kernel
theorem dX1_shorten_33 : decode cX1_shorten 33 = .ok (.lload_n 1, 1) := by decide +kernel
theorem dX1_shorten_34 : decode cX1_shorten 34 = .ok (.lconst 1, 1) := by decide +kernel
theorem dX1_shorten_35 : decode cX1_shorten 35 = .ok (.lcmp, 1) := by decide +kernel
theorem dX1_shorten_36 : decode cX1_shorten 36 = .ok (.ifCond .le 37, 3) := by decide +kernel
theorem dX1_shorten_39 : decode cX1_shorten 39 = .ok (.aload_n 0, 1) := by decide +kernel
theorem dX1_shorten_40 : decode cX1_shorten 40 = .ok (.aload_n 0, 1) := by decide +kernel
theorem dX1_shorten_41 : decode cX1_shorten 41 = .ok (.getfield 13, 3) := by decide +kernel
theorem dX1_shorten_44 : decode cX1_shorten 44 = .ok (.lload_n 1, 1) := by decide +kernel
theorem dX1_shorten_45 : decode cX1_shorten 45 = .ok (.ldiv, 1) := by decide +kernel
theorem dX1_shorten_46 : decode cX1_shorten 46 = .ok (.aload_n 0, 1) := by decide +kernel
theorem dX1_shorten_47 : decode cX1_shorten 47 = .ok (.getfield 16, 3) := by decide +kernel
theorem dX1_shorten_50 : decode cX1_shorten 50 = .ok (.lload_n 1, 1) := by decide +kernel
theorem dX1_shorten_51 : decode cX1_shorten 51 = .ok (.ldiv, 1) := by decide +kernel
theorem dX1_shorten_52 : decode cX1_shorten 52 = .ok (.aload_n 0, 1) := by decide +kernel
theorem dX1_shorten_53 : decode cX1_shorten 53 = .ok (.getfield 19, 3) := by decide +kernel
theorem dX1_shorten_56 : decode cX1_shorten 56 = .ok (.lload_n 1, 1) := by decide +kernel
theorem dX1_shorten_57 : decode cX1_shorten 57 = .ok (.ldiv, 1) := by decide +kernel
theorem dX1_shorten_58 : decode cX1_shorten 58 = .ok (.aload_n 0, 1) := by decide +kernel
theorem dX1_shorten_59 : decode cX1_shorten 59 = .ok (.getfield 22, 3) := by decide +kernel
theorem dX1_shorten_62 : decode cX1_shorten 62 = .ok (.lload_n 1, 1) := by decide +kernel
theorem dX1_shorten_63 : decode cX1_shorten 63 = .ok (.ldiv, 1) := by decide +kernel
theorem dX1_shorten_64 : decode cX1_shorten 64 = .ok (.aload_n 0, 1) := by decide +kernel
theorem dX1_shorten_65 : decode cX1_shorten 65 = .ok (.getfield 7, 3) := by decide +kernel
theorem dX1_shorten_68 : decode cX1_shorten 68 = .ok (.lload_n 1, 1) := by decide +kernel
theorem dX1_shorten_69 : decode cX1_shorten 69 = .ok (.ldiv, 1) := by decide +kernel
theorem dX1_shorten_70 : decode cX1_shorten 70 = .ok (.invokevirtual 25, 3) := by decide +kernel
theorem dX1_shorten_73 : decode cX1_shorten 73 = .ok (.return_, 1) := by decide +kernel
theorem dX1_common_0 : decode cX1_common 0 = .ok (.lload_n 0, 1) := by decide +kernel
theorem dX1_common_1 : decode cX1_common 1 = .ok (.lstore 4, 2) := by decide +kernel
theorem dX1_common_3 : decode cX1_common 3 = .ok (.lload 4, 2) := by decide +kernel
theorem dX1_common_5 : decode cX1_common 5 = .ok (.lconst 0, 1) := by decide +kernel
theorem dX1_common_6 : decode cX1_common 6 = .ok (.lcmp, 1) := by decide +kernel
theorem dX1_common_7 : decode cX1_common 7 = .ok (.ifCond .le 13, 3) := by decide +kernel
theorem dX1_common_10 : decode cX1_common 10 = .ok (.lload_n 2, 1) := by decide +kernel
theorem dX1_common_11 : decode cX1_common 11 = .ok (.lload 4, 2) := by decide +kernel
theorem dX1_common_13 : decode cX1_common 13 = .ok (.lrem, 1) := by decide +kernel
theorem dX1_common_14 : decode cX1_common 14 = .ok (.invokestatic 52, 3) := by decide +kernel
theorem dX1_common_17 : decode cX1_common 17 = .ok (.goto 4, 3) := by decide +kernel
theorem dX1_common_20 : decode cX1_common 20 = .ok (.lconst 0, 1) := by decide +kernel
theorem dX1_common_21 : decode cX1_common 21 = .ok (.lstore 6, 2) := by decide +kernel
theorem dX1_common_23 : decode cX1_common 23 = .ok (.iconst 0, 1) := by decide +kernel
theorem dX1_common_24 : decode cX1_common 24 = .ok (.istore 8, 2) := by decide +kernel
theorem dX1_common_26 : decode cX1_common 26 = .ok (.lload 6, 2) := by decide +kernel
theorem dX1_common_28 : decode cX1_common 28 = .ok (.lconst 0, 1) := by decide +kernel
theorem dX1_common_29 : decode cX1_common 29 = .ok (.lcmp, 1) := by decide +kernel
theorem dX1_common_30 : decode cX1_common 30 = .ok (.ifCond .le 32, 3) := by decide +kernel
theorem dX1_common_33 : decode cX1_common 33 = .ok (.iload 8, 2) := by decide +kernel
theorem dX1_common_35 : decode cX1_common 35 = .ok (.sipush 1000, 3) := by decide +kernel
theorem dX1_common_38 : decode cX1_common 38 = .ok (.if_icmp .ge 24, 3) := by decide +kernel
theorem dX1_common_41 : decode cX1_common 41 = .ok (.lload 4, 2) := by decide +kernel
theorem dX1_common_43 : decode cX1_common 43 = .ok (.lload 6, 2) := by decide +kernel
theorem dX1_common_45 : decode cX1_common 45 = .ok (.lrem, 1) := by decide +kernel
theorem dX1_common_46 : decode cX1_common 46 = .ok (.lstore 9, 2) := by decide +kernel
theorem dX1_common_48 : decode cX1_common 48 = .ok (.lload 6, 2) := by decide +kernel
theorem dX1_common_50 : decode cX1_common 50 = .ok (.lstore 4, 2) := by decide +kernel
theorem dX1_common_52 : decode cX1_common 52 = .ok (.lload 9, 2) := by decide +kernel
theorem dX1_common_54 : decode cX1_common 54 = .ok (.lstore 6, 2) := by decide +kernel
theorem dX1_common_56 : decode cX1_common 56 = .ok (.iinc 8 1, 3) := by decide +kernel
theorem dX1_common_59 : decode cX1_common 59 = .ok (.goto (-33), 3) := by decide +kernel
theorem dX1_common_62 : decode cX1_common 62 = .ok (.lload 4, 2) := by decide +kernel
theorem dX1_common_64 : decode cX1_common 64 = .ok (.lreturn, 1) := by decide +kernel
theorem dX2_init_0 : decode cX2_init 0 = .ok (.aload_n 0, 1) := by decide +kernel
theorem dX2_init_1 : decode cX2_init 1 = .ok (.invokespecial 3, 3) := by decide +kernel
theorem dX2_init_4 : decode cX2_init 4 = .ok (.aload_n 0, 1) := by decide +kernel
theorem dX2_init_5 : decode cX2_init 5 = .ok (.new 9, 3) := by decide +kernel
theorem dX2_init_8 : decode cX2_init 8 = .ok (.dup, 1) := by decide +kernel
theorem dX2_init_9 : decode cX2_init 9 = .ok (.invokespecial 11, 3) := by decide +kernel
theorem dX2_init_12 : decode cX2_init 12 = .ok (.putfield 12, 3) := by decide +kernel
theorem dX2_init_15 : decode cX2_init 15 = .ok (.aload_n 0, 1) := by decide +kernel
theorem dX2_init_16 : decode cX2_init 16 = .ok (.new 9, 3) := by decide +kernel
theorem dX2_init_19 : decode cX2_init 19 = .ok (.dup, 1) := by decide +kernel
theorem dX2_init_20 : decode cX2_init 20 = .ok (.invokespecial 11, 3) := by decide +kernel
theorem dX2_init_23 : decode cX2_init 23 = .ok (.putfield 18, 3) := by decide +kernel
theorem dX2_init_26 : decode cX2_init 26 = .ok (.aload_n 0, 1) := by decide +kernel
theorem dX2_init_27 : decode cX2_init 27 = .ok (.new 9, 3) := by decide +kernel
theorem dX2_init_30 : decode cX2_init 30 = .ok (.dup, 1) := by decide +kernel
theorem dX2_init_31 : decode cX2_init 31 = .ok (.invokespecial 11, 3) := by decide +kernel
theorem dX2_init_34 : decode cX2_init 34 = .ok (.putfield 21, 3) := by decide +kernel
theorem dX2_init_37 : decode cX2_init 37 = .ok (.return_, 1) := by decide +kernel
theorem dX2_sum_0 : decode cX2_sum 0 = .ok (.aload_n 0, 1) := by decide +kernel
theorem dX2_sum_1 : decode cX2_sum 1 = .ok (.iconst 0, 1) := by decide +kernel
theorem dX2_sum_2 : decode cX2_sum 2 = .ok (.putfield 24, 3) := by decide +kernel
theorem dX2_sum_5 : decode cX2_sum 5 = .ok (.aload_n 0, 1) := by decide +kernel
theorem dX2_sum_6 : decode cX2_sum 6 = .ok (.aload_n 0, 1) := by decide +kernel
theorem dX2_sum_7 : decode cX2_sum 7 = .ok (.aload_n 1, 1) := by decide +kernel
theorem dX2_sum_8 : decode cX2_sum 8 = .ok (.getfield 28, 3) := by decide +kernel
theorem dX2_sum_11 : decode cX2_sum 11 = .ok (.aload_n 2, 1) := by decide +kernel
theorem dX2_sum_12 : decode cX2_sum 12 = .ok (.getfield 32, 3) := by decide +kernel
theorem dX2_sum_15 : decode cX2_sum 15 = .ok (.invokevirtual 35, 3) := by decide +kernel
theorem dX2_sum_18 : decode cX2_sum 18 = .ok (.aload_n 0, 1) := by decide +kernel
theorem dX2_sum_19 : decode cX2_sum 19 = .ok (.aload_n 2, 1) := by decide +kernel
theorem dX2_sum_20 : decode cX2_sum 20 = .ok (.getfield 28, 3) := by decide +kernel
theorem dX2_sum_23 : decode cX2_sum 23 = .ok (.aload_n 1, 1) := by decide +kernel
theorem dX2_sum_24 : decode cX2_sum 24 = .ok (.getfield 32, 3) := by decide +kernel
theorem dX2_sum_27 : decode cX2_sum 27 = .ok (.invokevirtual 35, 3) := by decide +kernel
theorem dX2_sum_30 : decode cX2_sum 30 = .ok (.invokevirtual 39, 3) := by decide +kernel
theorem dX2_sum_33 : decode cX2_sum 33 = .ok (.lstore 4, 2) := by decide +kernel
theorem dX2_sum_35 : decode cX2_sum 35 = .ok (.aload_n 0, 1) := by decide +kernel
theorem dX2_sum_36 : decode cX2_sum 36 = .ok (.aload_n 0, 1) := by decide +kernel
theorem dX2_sum_37 : decode cX2_sum 37 = .ok (.aload_n 1, 1) := by decide +kernel
theorem dX2_sum_38 : decode cX2_sum 38 = .ok (.getfield 42, 3) := by decide +kernel
theorem dX2_sum_41 : decode cX2_sum 41 = .ok (.aload_n 2, 1) := by decide +kernel
theorem dX2_sum_42 : decode cX2_sum 42 = .ok (.getfield 32, 3) := by decide +kernel
theorem dX2_sum_45 : decode cX2_sum 45 = .ok (.invokevirtual 35, 3) := by decide +kernel
theorem dX2_sum_48 : decode cX2_sum 48 = .ok (.aload_n 0, 1) := by decide +kernel
theorem dX2_sum_49 : decode cX2_sum 49 = .ok (.aload_n 2, 1) := by decide +kernel
theorem dX2_sum_50 : decode cX2_sum 50 = .ok (.getfield 42, 3) := by decide +kernel
theorem dX2_sum_53 : decode cX2_sum 53 = .ok (.aload_n 1, 1) := by decide +kernel
theorem dX2_sum_54 : decode cX2_sum 54 = .ok (.getfield 32, 3) := by decide +kernel
theorem dX2_sum_57 : decode cX2_sum 57 = .ok (.invokevirtual 35, 3) := by decide +kernel
theorem dX2_sum_60 : decode cX2_sum 60 = .ok (.invokevirtual 39, 3) := by decide +kernel
theorem dX2_sum_63 : decode cX2_sum 63 = .ok (.lstore 6, 2) := by decide +kernel
theorem dX2_sum_65 : decode cX2_sum 65 = .ok (.aload_n 0, 1) := by decide +kernel
theorem dX2_sum_66 : decode cX2_sum 66 = .ok (.aload_n 0, 1) := by decide +kernel
theorem dX2_sum_67 : decode cX2_sum 67 = .ok (.aload_n 1, 1) := by decide +kernel
theorem dX2_sum_68 : decode cX2_sum 68 = .ok (.getfield 45, 3) := by decide +kernel
theorem dX2_sum_71 : decode cX2_sum 71 = .ok (.aload_n 2, 1) := by decide +kernel
theorem dX2_sum_72 : decode cX2_sum 72 = .ok (.getfield 32, 3) := by decide +kernel
theorem dX2_sum_75 : decode cX2_sum 75 = .ok (.invokevirtual 35, 3) := by decide +kernel
theorem dX2_sum_78 : decode cX2_sum 78 = .ok (.aload_n 0, 1) := by decide +kernel
theorem dX2_sum_79 : decode cX2_sum 79 = .ok (.aload_n 2, 1) := by decide +kernel
theorem dX2_sum_80 : decode cX2_sum 80 = .ok (.getfield 45, 3) := by decide +kernel
theorem dX2_sum_83 : decode cX2_sum 83 = .ok (.aload_n 1, 1) := by decide +kernel
theorem dX2_sum_84 : decode cX2_sum 84 = .ok (.getfield 32, 3) := by decide +kernel
theorem dX2_sum_87 : decode cX2_sum 87 = .ok (.invokevirtual 35, 3) := by decide +kernel
theorem dX2_sum_90 : decode cX2_sum 90 = .ok (.invokevirtual 39, 3) := by decide +kernel
theorem dX2_sum_93 : decode cX2_sum 93 = .ok (.lstore 8, 2) := by decide +kernel
theorem dX2_sum_95 : decode cX2_sum 95 = .ok (.aload_n 0, 1) := by decide +kernel
theorem dX2_sum_96 : decode cX2_sum 96 = .ok (.aload_n 0, 1) := by decide +kernel
theorem dX2_sum_97 : decode cX2_sum 97 = .ok (.aload_n 1, 1) := by decide +kernel
theorem dX2_sum_98 : decode cX2_sum 98 = .ok (.getfield 48, 3) := by decide +kernel
theorem dX2_sum_101 : decode cX2_sum 101 = .ok (.aload_n 2, 1) := by decide +kernel
theorem dX2_sum_102 : decode cX2_sum 102 = .ok (.getfield 32, 3) := by decide +kernel
theorem dX2_sum_105 : decode cX2_sum 105 = .ok (.invokevirtual 35, 3) := by decide +kernel
theorem dX2_sum_108 : decode cX2_sum 108 = .ok (.aload_n 0, 1) := by decide +kernel
theorem dX2_sum_109 : decode cX2_sum 109 = .ok (.aload_n 2, 1) := by decide +kernel
theorem dX2_sum_110 : decode cX2_sum 110 = .ok (.getfield 48, 3) := by decide +kernel
theorem dX2_sum_113 : decode cX2_sum 113 = .ok (.aload_n 1, 1) := by decide +kernel
theorem dX2_sum_114 : decode cX2_sum 114 = .ok (.getfield 32, 3) := by decide +kernel
theorem dX2_sum_117 : decode cX2_sum 117 = .ok (.invokevirtual 35, 3) := by decide +kernel
theorem dX2_sum_120 : decode cX2_sum 120 = .ok (.invokevirtual 39, 3) := by decide +kernel
theorem dX2_sum_123 : decode cX2_sum 123 = .ok (.lstore 10, 2) := by decide +kernel
theorem dX2_sum_125 : decode cX2_sum 125 = .ok (.aload_n 0, 1) := by decide +kernel
theorem dX2_sum_126 : decode cX2_sum 126 = .ok (.aload_n 3, 1) := by decide +kernel
theorem dX2_sum_127 : decode cX2_sum 127 = .ok (.lload 4, 2) := by decide +kernel
theorem dX2_sum_129 : decode cX2_sum 129 = .ok (.lload 6, 2) := by decide +kernel
theorem dX2_sum_131 : decode cX2_sum 131 = .ok (.lload 8, 2) := by decide +kernel
theorem dX2_sum_133 : decode cX2_sum 133 = .ok (.lload 10, 2) := by decide +kernel
theorem dX2_sum_135 : decode cX2_sum 135 = .ok (.aload_n 0, 1) := by decide +kernel
theorem dX2_sum_136 : decode cX2_sum 136 = .ok (.aload_n 1, 1) := by decide +kernel
theorem dX2_sum_137 : decode cX2_sum 137 = .ok (.getfield 32, 3) := by decide +kernel
theorem dX2_sum_140 : decode cX2_sum 140 = .ok (.aload_n 2, 1) := by decide +kernel
theorem dX2_sum_141 : decode cX2_sum 141 = .ok (.getfield 32, 3) := by decide +kernel
theorem dX2_sum_144 : decode cX2_sum 144 = .ok (.invokevirtual 35, 3) := by decide +kernel
theorem dX2_sum_147 : decode cX2_sum 147 = .ok (.invokevirtual 51, 3) := by decide +kernel
theorem dX2_sum_150 : decode cX2_sum 150 = .ok (.ireturn, 1) := by decide +kernel
theorem dX2_difference_0 : decode cX2_difference 0 = .ok (.aload_n 0, 1) := by decide +kernel
theorem dX2_difference_1 : decode cX2_difference 1 = .ok (.iconst 0, 1) := by decide +kernel
theorem dX2_difference_2 : decode cX2_difference 2 = .ok (.putfield 24, 3) := by decide +kernel
theorem dX2_difference_5 : decode cX2_difference 5 = .ok (.aload_n 0, 1) := by decide +kernel
theorem dX2_difference_6 : decode cX2_difference 6 = .ok (.aload_n 0, 1) := by decide +kernel
theorem dX2_difference_7 : decode cX2_difference 7 = .ok (.aload_n 1, 1) := by decide +kernel
theorem dX2_difference_8 : decode cX2_difference 8 = .ok (.getfield 28, 3) := by decide +kernel
theorem dX2_difference_11 : decode cX2_difference 11 = .ok (.aload_n 2, 1) := by decide +kernel
theorem dX2_difference_12 : decode cX2_difference 12 = .ok (.getfield 32, 3) := by decide +kernel
theorem dX2_difference_15 : decode cX2_difference 15 = .ok (.invokevirtual 35, 3) := by decide +kernel
theorem dX2_difference_18 : decode cX2_difference 18 = .ok (.aload_n 0, 1) := by decide +kernel
theorem dX2_difference_19 : decode cX2_difference 19 = .ok (.aload_n 2, 1) := by decide +kernel
theorem dX2_difference_20 : decode cX2_difference 20 = .ok (.getfield 28, 3) := by decide +kernel
theorem dX2_difference_23 : decode cX2_difference 23 = .ok (.aload_n 1, 1) := by decide +kernel
theorem dX2_difference_24 : decode cX2_difference 24 = .ok (.getfield 32, 3) := by decide +kernel
theorem dX2_difference_27 : decode cX2_difference 27 = .ok (.invokevirtual 35, 3) := by decide +kernel
theorem dX2_difference_30 : decode cX2_difference 30 = .ok (.invokevirtual 55, 3) := by decide +kernel
theorem dX2_difference_33 : decode cX2_difference 33 = .ok (.lstore 4, 2) := by decide +kernel
theorem dX2_difference_35 : decode cX2_difference 35 = .ok (.aload_n 0, 1) := by decide +kernel
theorem dX2_difference_36 : decode cX2_difference 36 = .ok (.aload_n 0, 1) := by decide +kernel
theorem dX2_difference_37 : decode cX2_difference 37 = .ok (.aload_n 1, 1) := by decide +kernel
theorem dX2_difference_38 : decode cX2_difference 38 = .ok (.getfield 42, 3) := by decide +kernel
theorem dX2_difference_41 : decode cX2_difference 41 = .ok (.aload_n 2, 1) := by decide +kernel
theorem dX2_difference_42 : decode cX2_difference 42 = .ok (.getfield 32, 3) := by decide +kernel
theorem dX2_difference_45 : decode cX2_difference 45 = .ok (.invokevirtual 35, 3) := by decide +kernel
theorem dX2_difference_48 : decode cX2_difference 48 = .ok (.aload_n 0, 1) := by decide +kernel
theorem dX2_difference_49 : decode cX2_difference 49 = .ok (.aload_n 2, 1) := by decide +kernel
theorem dX2_difference_50 : decode cX2_difference 50 = .ok (.getfield 42, 3) := by decide +kernel
theorem dX2_difference_53 : decode cX2_difference 53 = .ok (.aload_n 1, 1) := by decide +kernel
theorem dX2_difference_54 : decode cX2_difference 54 = .ok (.getfield 32, 3) := by decide +kernel
theorem dX2_difference_57 : decode cX2_difference 57 = .ok (.invokevirtual 35, 3) := by decide +kernel
theorem dX2_difference_60 : decode cX2_difference 60 = .ok (.invokevirtual 55, 3) := by decide +kernel
theorem dX2_difference_63 : decode cX2_difference 63 = .ok (.lstore 6, 2) := by decide +kernel
theorem dX2_difference_65 : decode cX2_difference 65 = .ok (.aload_n 0, 1) := by decide +kernel
theorem dX2_difference_66 : decode cX2_difference 66 = .ok (.aload_n 0, 1) := by decide +kernel
theorem dX2_difference_67 : decode cX2_difference 67 = .ok (.aload_n 1, 1) := by decide +kernel
theorem dX2_difference_68 : decode cX2_difference 68 = .ok (.getfield 45, 3) := by decide +kernel
theorem dX2_difference_71 : decode cX2_difference 71 = .ok (.aload_n 2, 1) := by decide +kernel
theorem dX2_difference_72 : decode cX2_difference 72 = .ok (.getfield 32, 3) := by decide +kernel
theorem dX2_difference_75 : decode cX2_difference 75 = .ok (.invokevirtual 35, 3) := by decide +kernel
theorem dX2_difference_78 : decode cX2_difference 78 = .ok (.aload_n 0, 1) := by decide +kernel
theorem dX2_difference_79 : decode cX2_difference 79 = .ok (.aload_n 2, 1) := by decide +kernel
theorem dX2_difference_80 : decode cX2_difference 80 = .ok (.getfield 45, 3) := by decide +kernel
theorem dX2_difference_83 : decode cX2_difference 83 = .ok (.aload_n 1, 1) := by decide +kernel
theorem dX2_difference_84 : decode cX2_difference 84 = .ok (.getfield 32, 3) := by decide +kernel
theorem dX2_difference_87 : decode cX2_difference 87 = .ok (.invokevirtual 35, 3) := by decide +kernel
theorem dX2_difference_90 : decode cX2_difference 90 = .ok (.invokevirtual 55, 3) := by decide +kernel
theorem dX2_difference_93 : decode cX2_difference 93 = .ok (.lstore 8, 2) := by decide +kernel
theorem dX2_difference_95 : decode cX2_difference 95 = .ok (.aload_n 0, 1) := by decide +kernel
theorem dX2_difference_96 : decode cX2_difference 96 = .ok (.aload_n 0, 1) := by decide +kernel
theorem dX2_difference_97 : decode cX2_difference 97 = .ok (.aload_n 1, 1) := by decide +kernel
theorem dX2_difference_98 : decode cX2_difference 98 = .ok (.getfield 48, 3) := by decide +kernel
theorem dX2_difference_101 : decode cX2_difference 101 = .ok (.aload_n 2, 1) := by decide +kernel
theorem dX2_difference_102 : decode cX2_difference 102 = .ok (.getfield 32, 3) := by decide +kernel
theorem dX2_difference_105 : decode cX2_difference 105 = .ok (.invokevirtual 35, 3) := by decide +kernel
theorem dX2_difference_108 : decode cX2_difference 108 = .ok (.aload_n 0, 1) := by decide +kernel
theorem dX2_difference_109 : decode cX2_difference 109 = .ok (.aload_n 2, 1) := by decide +kernel
theorem dX2_difference_110 : decode cX2_difference 110 = .ok (.getfield 48, 3) := by decide +kernel
theorem dX2_difference_113 : decode cX2_difference 113 = .ok (.aload_n 1, 1) := by decide +kernel
theorem dX2_difference_114 : decode cX2_difference 114 = .ok (.getfield 32, 3) := by decide +kernel
theorem dX2_difference_117 : decode cX2_difference 117 = .ok (.invokevirtual 35, 3) := by decide +kernel
theorem dX2_difference_120 : decode cX2_difference 120 = .ok (.invokevirtual 55, 3) := by decide +kernel
theorem dX2_difference_123 : decode cX2_difference 123 = .ok (.lstore 10, 2) := by decide +kernel
theorem dX2_difference_125 : decode cX2_difference 125 = .ok (.aload_n 0, 1) := by decide +kernel
theorem dX2_difference_126 : decode cX2_difference 126 = .ok (.aload_n 3, 1) := by decide +kernel
theorem dX2_difference_127 : decode cX2_difference 127 = .ok (.lload 4, 2) := by decide +kernel
theorem dX2_difference_129 : decode cX2_difference 129 = .ok (.lload 6, 2) := by decide +kernel
theorem dX2_difference_131 : decode cX2_difference 131 = .ok (.lload 8, 2) := by decide +kernel
theorem dX2_difference_133 : decode cX2_difference 133 = .ok (.lload 10, 2) := by decide +kernel
theorem dX2_difference_135 : decode cX2_difference 135 = .ok (.aload_n 0, 1) := by decide +kernel
theorem dX2_difference_136 : decode cX2_difference 136 = .ok (.aload_n 1, 1) := by decide +kernel
theorem dX2_difference_137 : decode cX2_difference 137 = .ok (.getfield 32, 3) := by decide +kernel
theorem dX2_difference_140 : decode cX2_difference 140 = .ok (.aload_n 2, 1) := by decide +kernel
theorem dX2_difference_141 : decode cX2_difference 141 = .ok (.getfield 32, 3) := by decide +kernel
theorem dX2_difference_144 : decode cX2_difference 144 = .ok (.invokevirtual 35, 3) := by decide +kernel
theorem dX2_difference_147 : decode cX2_difference 147 = .ok (.invokevirtual 51, 3) := by decide +kernel
theorem dX2_difference_150 : decode cX2_difference 150 = .ok (.ireturn, 1) := by decide +kernel
theorem dX2_product_0 : decode cX2_product 0 = .ok (.aload_n 0, 1) := by decide +kernel
theorem dX2_product_1 : decode cX2_product 1 = .ok (.iconst 0, 1) := by decide +kernel
theorem dX2_product_2 : decode cX2_product 2 = .ok (.putfield 24, 3) := by decide +kernel
theorem dX2_product_5 : decode cX2_product 5 = .ok (.aload_n 0, 1) := by decide +kernel
theorem dX2_product_6 : decode cX2_product 6 = .ok (.aload_n 0, 1) := by decide +kernel
theorem dX2_product_7 : decode cX2_product 7 = .ok (.aload_n 0, 1) := by decide +kernel
theorem dX2_product_8 : decode cX2_product 8 = .ok (.aload_n 1, 1) := by decide +kernel
theorem dX2_product_9 : decode cX2_product 9 = .ok (.getfield 28, 3) := by decide +kernel
theorem dX2_product_12 : decode cX2_product 12 = .ok (.aload_n 2, 1) := by decide +kernel
theorem dX2_product_13 : decode cX2_product 13 = .ok (.getfield 28, 3) := by decide +kernel
theorem dX2_product_16 : decode cX2_product 16 = .ok (.invokevirtual 35, 3) := by decide +kernel
theorem dX2_product_19 : decode cX2_product 19 = .ok (.aload_n 0, 1) := by decide +kernel
theorem dX2_product_20 : decode cX2_product 20 = .ok (.aload_n 1, 1) := by decide +kernel
theorem dX2_product_21 : decode cX2_product 21 = .ok (.getfield 42, 3) := by decide +kernel
theorem dX2_product_24 : decode cX2_product 24 = .ok (.aload_n 2, 1) := by decide +kernel
theorem dX2_product_25 : decode cX2_product 25 = .ok (.getfield 42, 3) := by decide +kernel
