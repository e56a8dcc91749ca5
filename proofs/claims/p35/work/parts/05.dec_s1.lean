theorem dX2_product_28 : decode cX2_product 28 = .ok (.invokevirtual 58, 3) := by decide +kernel
theorem dX2_product_31 : decode cX2_product 31 = .ok (.invokevirtual 39, 3) := by decide +kernel
theorem dX2_product_34 : decode cX2_product 34 = .ok (.aload_n 0, 1) := by decide +kernel
theorem dX2_product_35 : decode cX2_product 35 = .ok (.aload_n 0, 1) := by decide +kernel
theorem dX2_product_36 : decode cX2_product 36 = .ok (.aload_n 1, 1) := by decide +kernel
theorem dX2_product_37 : decode cX2_product 37 = .ok (.getfield 45, 3) := by decide +kernel
theorem dX2_product_40 : decode cX2_product 40 = .ok (.aload_n 2, 1) := by decide +kernel
theorem dX2_product_41 : decode cX2_product 41 = .ok (.getfield 45, 3) := by decide +kernel
theorem dX2_product_44 : decode cX2_product 44 = .ok (.invokevirtual 35, 3) := by decide +kernel
theorem dX2_product_47 : decode cX2_product 47 = .ok (.aload_n 0, 1) := by decide +kernel
theorem dX2_product_48 : decode cX2_product 48 = .ok (.aload_n 1, 1) := by decide +kernel
theorem dX2_product_49 : decode cX2_product 49 = .ok (.getfield 48, 3) := by decide +kernel
theorem dX2_product_52 : decode cX2_product 52 = .ok (.aload_n 2, 1) := by decide +kernel
theorem dX2_product_53 : decode cX2_product 53 = .ok (.getfield 48, 3) := by decide +kernel
theorem dX2_product_56 : decode cX2_product 56 = .ok (.invokevirtual 58, 3) := by decide +kernel
theorem dX2_product_59 : decode cX2_product 59 = .ok (.invokevirtual 39, 3) := by decide +kernel
theorem dX2_product_62 : decode cX2_product 62 = .ok (.invokevirtual 55, 3) := by decide +kernel
theorem dX2_product_65 : decode cX2_product 65 = .ok (.lstore 4, 2) := by decide +kernel
theorem dX2_product_67 : decode cX2_product 67 = .ok (.aload_n 0, 1) := by decide +kernel
theorem dX2_product_68 : decode cX2_product 68 = .ok (.aload_n 0, 1) := by decide +kernel
theorem dX2_product_69 : decode cX2_product 69 = .ok (.aload_n 0, 1) := by decide +kernel
theorem dX2_product_70 : decode cX2_product 70 = .ok (.aload_n 1, 1) := by decide +kernel
theorem dX2_product_71 : decode cX2_product 71 = .ok (.getfield 28, 3) := by decide +kernel
theorem dX2_product_74 : decode cX2_product 74 = .ok (.aload_n 2, 1) := by decide +kernel
theorem dX2_product_75 : decode cX2_product 75 = .ok (.getfield 42, 3) := by decide +kernel
theorem dX2_product_78 : decode cX2_product 78 = .ok (.invokevirtual 35, 3) := by decide +kernel
theorem dX2_product_81 : decode cX2_product 81 = .ok (.aload_n 0, 1) := by decide +kernel
theorem dX2_product_82 : decode cX2_product 82 = .ok (.aload_n 1, 1) := by decide +kernel
theorem dX2_product_83 : decode cX2_product 83 = .ok (.getfield 42, 3) := by decide +kernel
theorem dX2_product_86 : decode cX2_product 86 = .ok (.aload_n 2, 1) := by decide +kernel
theorem dX2_product_87 : decode cX2_product 87 = .ok (.getfield 28, 3) := by decide +kernel
theorem dX2_product_90 : decode cX2_product 90 = .ok (.invokevirtual 35, 3) := by decide +kernel
theorem dX2_product_93 : decode cX2_product 93 = .ok (.invokevirtual 39, 3) := by decide +kernel
theorem dX2_product_96 : decode cX2_product 96 = .ok (.aload_n 0, 1) := by decide +kernel
theorem dX2_product_97 : decode cX2_product 97 = .ok (.aload_n 0, 1) := by decide +kernel
theorem dX2_product_98 : decode cX2_product 98 = .ok (.aload_n 1, 1) := by decide +kernel
theorem dX2_product_99 : decode cX2_product 99 = .ok (.getfield 45, 3) := by decide +kernel
theorem dX2_product_102 : decode cX2_product 102 = .ok (.aload_n 2, 1) := by decide +kernel
theorem dX2_product_103 : decode cX2_product 103 = .ok (.getfield 48, 3) := by decide +kernel
theorem dX2_product_106 : decode cX2_product 106 = .ok (.invokevirtual 35, 3) := by decide +kernel
theorem dX2_product_109 : decode cX2_product 109 = .ok (.aload_n 0, 1) := by decide +kernel
theorem dX2_product_110 : decode cX2_product 110 = .ok (.aload_n 1, 1) := by decide +kernel
theorem dX2_product_111 : decode cX2_product 111 = .ok (.getfield 48, 3) := by decide +kernel
theorem dX2_product_114 : decode cX2_product 114 = .ok (.aload_n 2, 1) := by decide +kernel
theorem dX2_product_115 : decode cX2_product 115 = .ok (.getfield 45, 3) := by decide +kernel
theorem dX2_product_118 : decode cX2_product 118 = .ok (.invokevirtual 35, 3) := by decide +kernel
theorem dX2_product_121 : decode cX2_product 121 = .ok (.invokevirtual 39, 3) := by decide +kernel
theorem dX2_product_124 : decode cX2_product 124 = .ok (.invokevirtual 55, 3) := by decide +kernel
theorem dX2_product_127 : decode cX2_product 127 = .ok (.lstore 6, 2) := by decide +kernel
theorem dX2_product_129 : decode cX2_product 129 = .ok (.aload_n 0, 1) := by decide +kernel
theorem dX2_product_130 : decode cX2_product 130 = .ok (.aload_n 0, 1) := by decide +kernel
theorem dX2_product_131 : decode cX2_product 131 = .ok (.aload_n 0, 1) := by decide +kernel
theorem dX2_product_132 : decode cX2_product 132 = .ok (.aload_n 0, 1) := by decide +kernel
theorem dX2_product_133 : decode cX2_product 133 = .ok (.aload_n 1, 1) := by decide +kernel
theorem dX2_product_134 : decode cX2_product 134 = .ok (.getfield 28, 3) := by decide +kernel
theorem dX2_product_137 : decode cX2_product 137 = .ok (.aload_n 2, 1) := by decide +kernel
theorem dX2_product_138 : decode cX2_product 138 = .ok (.getfield 45, 3) := by decide +kernel
theorem dX2_product_141 : decode cX2_product 141 = .ok (.invokevirtual 35, 3) := by decide +kernel
theorem dX2_product_144 : decode cX2_product 144 = .ok (.aload_n 0, 1) := by decide +kernel
theorem dX2_product_145 : decode cX2_product 145 = .ok (.aload_n 1, 1) := by decide +kernel
theorem dX2_product_146 : decode cX2_product 146 = .ok (.getfield 42, 3) := by decide +kernel
theorem dX2_product_149 : decode cX2_product 149 = .ok (.aload_n 2, 1) := by decide +kernel
theorem dX2_product_150 : decode cX2_product 150 = .ok (.getfield 48, 3) := by decide +kernel
theorem dX2_product_153 : decode cX2_product 153 = .ok (.invokevirtual 58, 3) := by decide +kernel
theorem dX2_product_156 : decode cX2_product 156 = .ok (.invokevirtual 39, 3) := by decide +kernel
theorem dX2_product_159 : decode cX2_product 159 = .ok (.aload_n 0, 1) := by decide +kernel
theorem dX2_product_160 : decode cX2_product 160 = .ok (.aload_n 1, 1) := by decide +kernel
theorem dX2_product_161 : decode cX2_product 161 = .ok (.getfield 45, 3) := by decide +kernel
theorem dX2_product_164 : decode cX2_product 164 = .ok (.aload_n 2, 1) := by decide +kernel
theorem dX2_product_165 : decode cX2_product 165 = .ok (.getfield 28, 3) := by decide +kernel
theorem dX2_product_168 : decode cX2_product 168 = .ok (.invokevirtual 35, 3) := by decide +kernel
theorem dX2_product_171 : decode cX2_product 171 = .ok (.invokevirtual 39, 3) := by decide +kernel
theorem dX2_product_174 : decode cX2_product 174 = .ok (.aload_n 0, 1) := by decide +kernel
theorem dX2_product_175 : decode cX2_product 175 = .ok (.aload_n 1, 1) := by decide +kernel
theorem dX2_product_176 : decode cX2_product 176 = .ok (.getfield 48, 3) := by decide +kernel
theorem dX2_product_179 : decode cX2_product 179 = .ok (.aload_n 2, 1) := by decide +kernel
theorem dX2_product_180 : decode cX2_product 180 = .ok (.getfield 42, 3) := by decide +kernel
theorem dX2_product_183 : decode cX2_product 183 = .ok (.invokevirtual 58, 3) := by decide +kernel
theorem dX2_product_186 : decode cX2_product 186 = .ok (.invokevirtual 39, 3) := by decide +kernel
theorem dX2_product_189 : decode cX2_product 189 = .ok (.lstore 8, 2) := by decide +kernel
theorem dX2_product_191 : decode cX2_product 191 = .ok (.aload_n 0, 1) := by decide +kernel
theorem dX2_product_192 : decode cX2_product 192 = .ok (.aload_n 0, 1) := by decide +kernel
theorem dX2_product_193 : decode cX2_product 193 = .ok (.aload_n 0, 1) := by decide +kernel
theorem dX2_product_194 : decode cX2_product 194 = .ok (.aload_n 0, 1) := by decide +kernel
theorem dX2_product_195 : decode cX2_product 195 = .ok (.aload_n 1, 1) := by decide +kernel
theorem dX2_product_196 : decode cX2_product 196 = .ok (.getfield 28, 3) := by decide +kernel
theorem dX2_product_199 : decode cX2_product 199 = .ok (.aload_n 2, 1) := by decide +kernel
theorem dX2_product_200 : decode cX2_product 200 = .ok (.getfield 48, 3) := by decide +kernel
theorem dX2_product_203 : decode cX2_product 203 = .ok (.invokevirtual 35, 3) := by decide +kernel
theorem dX2_product_206 : decode cX2_product 206 = .ok (.aload_n 0, 1) := by decide +kernel
theorem dX2_product_207 : decode cX2_product 207 = .ok (.aload_n 1, 1) := by decide +kernel
theorem dX2_product_208 : decode cX2_product 208 = .ok (.getfield 42, 3) := by decide +kernel
theorem dX2_product_211 : decode cX2_product 211 = .ok (.aload_n 2, 1) := by decide +kernel
theorem dX2_product_212 : decode cX2_product 212 = .ok (.getfield 45, 3) := by decide +kernel
theorem dX2_product_215 : decode cX2_product 215 = .ok (.invokevirtual 35, 3) := by decide +kernel
theorem dX2_product_218 : decode cX2_product 218 = .ok (.invokevirtual 39, 3) := by decide +kernel
theorem dX2_product_221 : decode cX2_product 221 = .ok (.aload_n 0, 1) := by decide +kernel
theorem dX2_product_222 : decode cX2_product 222 = .ok (.aload_n 1, 1) := by decide +kernel
theorem dX2_product_223 : decode cX2_product 223 = .ok (.getfield 45, 3) := by decide +kernel
theorem dX2_product_226 : decode cX2_product 226 = .ok (.aload_n 2, 1) := by decide +kernel
theorem dX2_product_227 : decode cX2_product 227 = .ok (.getfield 42, 3) := by decide +kernel
theorem dX2_product_230 : decode cX2_product 230 = .ok (.invokevirtual 35, 3) := by decide +kernel
theorem dX2_product_233 : decode cX2_product 233 = .ok (.invokevirtual 39, 3) := by decide +kernel
theorem dX2_product_236 : decode cX2_product 236 = .ok (.aload_n 0, 1) := by decide +kernel
theorem dX2_product_237 : decode cX2_product 237 = .ok (.aload_n 1, 1) := by decide +kernel
theorem dX2_product_238 : decode cX2_product 238 = .ok (.getfield 48, 3) := by decide +kernel
theorem dX2_product_241 : decode cX2_product 241 = .ok (.aload_n 2, 1) := by decide +kernel
theorem dX2_product_242 : decode cX2_product 242 = .ok (.getfield 28, 3) := by decide +kernel
theorem dX2_product_245 : decode cX2_product 245 = .ok (.invokevirtual 35, 3) := by decide +kernel
theorem dX2_product_248 : decode cX2_product 248 = .ok (.invokevirtual 39, 3) := by decide +kernel
theorem dX2_product_251 : decode cX2_product 251 = .ok (.lstore 10, 2) := by decide +kernel
theorem dX2_product_253 : decode cX2_product 253 = .ok (.aload_n 0, 1) := by decide +kernel
theorem dX2_product_254 : decode cX2_product 254 = .ok (.aload_n 3, 1) := by decide +kernel
theorem dX2_product_255 : decode cX2_product 255 = .ok (.lload 4, 2) := by decide +kernel
theorem dX2_product_257 : decode cX2_product 257 = .ok (.lload 6, 2) := by decide +kernel
theorem dX2_product_259 : decode cX2_product 259 = .ok (.lload 8, 2) := by decide +kernel
theorem dX2_product_261 : decode cX2_product 261 = .ok (.lload 10, 2) := by decide +kernel
theorem dX2_product_263 : decode cX2_product 263 = .ok (.aload_n 0, 1) := by decide +kernel
theorem dX2_product_264 : decode cX2_product 264 = .ok (.aload_n 1, 1) := by decide +kernel
theorem dX2_product_265 : decode cX2_product 265 = .ok (.getfield 32, 3) := by decide +kernel
theorem dX2_product_268 : decode cX2_product 268 = .ok (.aload_n 2, 1) := by decide +kernel
theorem dX2_product_269 : decode cX2_product 269 = .ok (.getfield 32, 3) := by decide +kernel
theorem dX2_product_272 : decode cX2_product 272 = .ok (.invokevirtual 35, 3) := by decide +kernel
theorem dX2_product_275 : decode cX2_product 275 = .ok (.invokevirtual 51, 3) := by decide +kernel
theorem dX2_product_278 : decode cX2_product 278 = .ok (.ireturn, 1) := by decide +kernel
theorem dX2_quotient_0 : decode cX2_quotient 0 = .ok (.aload_n 2, 1) := by decide +kernel
theorem dX2_quotient_1 : decode cX2_quotient 1 = .ok (.invokevirtual 61, 3) := by decide +kernel
theorem dX2_quotient_4 : decode cX2_quotient 4 = .ok (.ifCond .eq 5, 3) := by decide +kernel
theorem dX2_quotient_7 : decode cX2_quotient 7 = .ok (.iconst 0, 1) := by decide +kernel
theorem dX2_quotient_8 : decode cX2_quotient 8 = .ok (.ireturn, 1) := by decide +kernel
theorem dX2_quotient_9 : decode cX2_quotient 9 = .ok (.aload_n 0, 1) := by decide +kernel
theorem dX2_quotient_10 : decode cX2_quotient 10 = .ok (.iconst 0, 1) := by decide +kernel
theorem dX2_quotient_11 : decode cX2_quotient 11 = .ok (.putfield 24, 3) := by decide +kernel
theorem dX2_quotient_14 : decode cX2_quotient 14 = .ok (.aload_n 0, 1) := by decide +kernel
theorem dX2_quotient_15 : decode cX2_quotient 15 = .ok (.getfield 12, 3) := by decide +kernel
theorem dX2_quotient_18 : decode cX2_quotient 18 = .ok (.aload_n 2, 1) := by decide +kernel
theorem dX2_quotient_19 : decode cX2_quotient 19 = .ok (.getfield 28, 3) := by decide +kernel
theorem dX2_quotient_22 : decode cX2_quotient 22 = .ok (.aload_n 2, 1) := by decide +kernel
theorem dX2_quotient_23 : decode cX2_quotient 23 = .ok (.getfield 42, 3) := by decide +kernel
theorem dX2_quotient_26 : decode cX2_quotient 26 = .ok (.aload_n 0, 1) := by decide +kernel
theorem dX2_quotient_27 : decode cX2_quotient 27 = .ok (.lconst 0, 1) := by decide +kernel
theorem dX2_quotient_28 : decode cX2_quotient 28 = .ok (.aload_n 2, 1) := by decide +kernel
theorem dX2_quotient_29 : decode cX2_quotient 29 = .ok (.getfield 45, 3) := by decide +kernel
theorem dX2_quotient_32 : decode cX2_quotient 32 = .ok (.invokevirtual 55, 3) := by decide +kernel
theorem dX2_quotient_35 : decode cX2_quotient 35 = .ok (.aload_n 0, 1) := by decide +kernel
theorem dX2_quotient_36 : decode cX2_quotient 36 = .ok (.lconst 0, 1) := by decide +kernel
theorem dX2_quotient_37 : decode cX2_quotient 37 = .ok (.aload_n 2, 1) := by decide +kernel
theorem dX2_quotient_38 : decode cX2_quotient 38 = .ok (.getfield 48, 3) := by decide +kernel
theorem dX2_quotient_41 : decode cX2_quotient 41 = .ok (.invokevirtual 55, 3) := by decide +kernel
theorem dX2_quotient_44 : decode cX2_quotient 44 = .ok (.lconst 1, 1) := by decide +kernel
theorem dX2_quotient_45 : decode cX2_quotient 45 = .ok (.invokevirtual 65, 3) := by decide +kernel
theorem dX2_quotient_48 : decode cX2_quotient 48 = .ok (.aload_n 0, 1) := by decide +kernel
theorem dX2_quotient_49 : decode cX2_quotient 49 = .ok (.getfield 18, 3) := by decide +kernel
theorem dX2_quotient_52 : decode cX2_quotient 52 = .ok (.aload_n 2, 1) := by decide +kernel
theorem dX2_quotient_53 : decode cX2_quotient 53 = .ok (.getfield 28, 3) := by decide +kernel
theorem dX2_quotient_56 : decode cX2_quotient 56 = .ok (.aload_n 2, 1) := by decide +kernel
theorem dX2_quotient_57 : decode cX2_quotient 57 = .ok (.getfield 42, 3) := by decide +kernel
theorem dX2_quotient_60 : decode cX2_quotient 60 = .ok (.aload_n 2, 1) := by decide +kernel
theorem dX2_quotient_61 : decode cX2_quotient 61 = .ok (.getfield 45, 3) := by decide +kernel
theorem dX2_quotient_64 : decode cX2_quotient 64 = .ok (.aload_n 2, 1) := by decide +kernel
theorem dX2_quotient_65 : decode cX2_quotient 65 = .ok (.getfield 48, 3) := by decide +kernel
theorem dX2_quotient_68 : decode cX2_quotient 68 = .ok (.lconst 1, 1) := by decide +kernel
theorem dX2_quotient_69 : decode cX2_quotient 69 = .ok (.invokevirtual 65, 3) := by decide +kernel
theorem dX2_quotient_72 : decode cX2_quotient 72 = .ok (.aload_n 0, 1) := by decide +kernel
theorem dX2_quotient_73 : decode cX2_quotient 73 = .ok (.getfield 24, 3) := by decide +kernel
theorem dX2_quotient_76 : decode cX2_quotient 76 = .ok (.ifCond .ne 22, 3) := by decide +kernel
theorem dX2_quotient_79 : decode cX2_quotient 79 = .ok (.aload_n 0, 1) := by decide +kernel
theorem dX2_quotient_80 : decode cX2_quotient 80 = .ok (.aload_n 0, 1) := by decide +kernel
theorem dX2_quotient_81 : decode cX2_quotient 81 = .ok (.getfield 18, 3) := by decide +kernel
theorem dX2_quotient_84 : decode cX2_quotient 84 = .ok (.aload_n 0, 1) := by decide +kernel
theorem dX2_quotient_85 : decode cX2_quotient 85 = .ok (.getfield 12, 3) := by decide +kernel
theorem dX2_quotient_88 : decode cX2_quotient 88 = .ok (.aload_n 0, 1) := by decide +kernel
theorem dX2_quotient_89 : decode cX2_quotient 89 = .ok (.getfield 18, 3) := by decide +kernel
theorem dX2_quotient_92 : decode cX2_quotient 92 = .ok (.invokevirtual 69, 3) := by decide +kernel
theorem dX2_quotient_95 : decode cX2_quotient 95 = .ok (.ifCond .ne 5, 3) := by decide +kernel
theorem dX2_quotient_98 : decode cX2_quotient 98 = .ok (.iconst 0, 1) := by decide +kernel
theorem dX2_quotient_99 : decode cX2_quotient 99 = .ok (.ireturn, 1) := by decide +kernel
theorem dX2_quotient_100 : decode cX2_quotient 100 = .ok (.aload_n 0, 1) := by decide +kernel
theorem dX2_quotient_101 : decode cX2_quotient 101 = .ok (.aload_n 0, 1) := by decide +kernel
theorem dX2_quotient_102 : decode cX2_quotient 102 = .ok (.aload_n 0, 1) := by decide +kernel
theorem dX2_quotient_103 : decode cX2_quotient 103 = .ok (.getfield 18, 3) := by decide +kernel
theorem dX2_quotient_106 : decode cX2_quotient 106 = .ok (.getfield 28, 3) := by decide +kernel
theorem dX2_quotient_109 : decode cX2_quotient 109 = .ok (.aload_n 0, 1) := by decide +kernel
theorem dX2_quotient_110 : decode cX2_quotient 110 = .ok (.getfield 18, 3) := by decide +kernel
theorem dX2_quotient_113 : decode cX2_quotient 113 = .ok (.getfield 28, 3) := by decide +kernel
theorem dX2_quotient_116 : decode cX2_quotient 116 = .ok (.invokevirtual 35, 3) := by decide +kernel
theorem dX2_quotient_119 : decode cX2_quotient 119 = .ok (.aload_n 0, 1) := by decide +kernel
theorem dX2_quotient_120 : decode cX2_quotient 120 = .ok (.aload_n 0, 1) := by decide +kernel
theorem dX2_quotient_121 : decode cX2_quotient 121 = .ok (.getfield 18, 3) := by decide +kernel
theorem dX2_quotient_124 : decode cX2_quotient 124 = .ok (.getfield 42, 3) := by decide +kernel
theorem dX2_quotient_127 : decode cX2_quotient 127 = .ok (.aload_n 0, 1) := by decide +kernel
theorem dX2_quotient_128 : decode cX2_quotient 128 = .ok (.getfield 18, 3) := by decide +kernel
theorem dX2_quotient_131 : decode cX2_quotient 131 = .ok (.getfield 42, 3) := by decide +kernel
theorem dX2_quotient_134 : decode cX2_quotient 134 = .ok (.invokevirtual 58, 3) := by decide +kernel
theorem dX2_quotient_137 : decode cX2_quotient 137 = .ok (.invokevirtual 55, 3) := by decide +kernel
theorem dX2_quotient_140 : decode cX2_quotient 140 = .ok (.lstore 4, 2) := by decide +kernel
theorem dX2_quotient_142 : decode cX2_quotient 142 = .ok (.aload_n 0, 1) := by decide +kernel
theorem dX2_quotient_143 : decode cX2_quotient 143 = .ok (.getfield 18, 3) := by decide +kernel
theorem dX2_quotient_146 : decode cX2_quotient 146 = .ok (.aload_n 0, 1) := by decide +kernel
theorem dX2_quotient_147 : decode cX2_quotient 147 = .ok (.getfield 18, 3) := by decide +kernel
theorem dX2_quotient_150 : decode cX2_quotient 150 = .ok (.getfield 28, 3) := by decide +kernel
theorem dX2_quotient_153 : decode cX2_quotient 153 = .ok (.aload_n 0, 1) := by decide +kernel
theorem dX2_quotient_154 : decode cX2_quotient 154 = .ok (.lconst 0, 1) := by decide +kernel
theorem dX2_quotient_155 : decode cX2_quotient 155 = .ok (.aload_n 0, 1) := by decide +kernel
theorem dX2_quotient_156 : decode cX2_quotient 156 = .ok (.getfield 18, 3) := by decide +kernel
theorem dX2_quotient_159 : decode cX2_quotient 159 = .ok (.getfield 42, 3) := by decide +kernel
theorem dX2_quotient_162 : decode cX2_quotient 162 = .ok (.invokevirtual 55, 3) := by decide +kernel
theorem dX2_quotient_165 : decode cX2_quotient 165 = .ok (.lconst 0, 1) := by decide +kernel
theorem dX2_quotient_166 : decode cX2_quotient 166 = .ok (.lconst 0, 1) := by decide +kernel
theorem dX2_quotient_167 : decode cX2_quotient 167 = .ok (.lconst 1, 1) := by decide +kernel
theorem dX2_quotient_168 : decode cX2_quotient 168 = .ok (.invokevirtual 65, 3) := by decide +kernel
theorem dX2_quotient_171 : decode cX2_quotient 171 = .ok (.aload_n 0, 1) := by decide +kernel
theorem dX2_quotient_172 : decode cX2_quotient 172 = .ok (.getfield 24, 3) := by decide +kernel
theorem dX2_quotient_175 : decode cX2_quotient 175 = .ok (.ifCond .ne 22, 3) := by decide +kernel
theorem dX2_quotient_178 : decode cX2_quotient 178 = .ok (.aload_n 0, 1) := by decide +kernel
theorem dX2_quotient_179 : decode cX2_quotient 179 = .ok (.aload_n 0, 1) := by decide +kernel
theorem dX2_quotient_180 : decode cX2_quotient 180 = .ok (.getfield 12, 3) := by decide +kernel
theorem dX2_quotient_183 : decode cX2_quotient 183 = .ok (.aload_n 0, 1) := by decide +kernel
theorem dX2_quotient_184 : decode cX2_quotient 184 = .ok (.getfield 18, 3) := by decide +kernel
theorem dX2_quotient_187 : decode cX2_quotient 187 = .ok (.aload_n 0, 1) := by decide +kernel
theorem dX2_quotient_188 : decode cX2_quotient 188 = .ok (.getfield 21, 3) := by decide +kernel
theorem dX2_quotient_191 : decode cX2_quotient 191 = .ok (.invokevirtual 69, 3) := by decide +kernel
theorem dX2_quotient_194 : decode cX2_quotient 194 = .ok (.ifCond .ne 5, 3) := by decide +kernel
theorem dX2_quotient_197 : decode cX2_quotient 197 = .ok (.iconst 0, 1) := by decide +kernel
theorem dX2_quotient_198 : decode cX2_quotient 198 = .ok (.ireturn, 1) := by decide +kernel
theorem dX2_quotient_199 : decode cX2_quotient 199 = .ok (.aload_n 0, 1) := by decide +kernel
theorem dX2_quotient_200 : decode cX2_quotient 200 = .ok (.getfield 18, 3) := by decide +kernel
theorem dX2_quotient_203 : decode cX2_quotient 203 = .ok (.aload_n 2, 1) := by decide +kernel
theorem dX2_quotient_204 : decode cX2_quotient 204 = .ok (.getfield 32, 3) := by decide +kernel
theorem dX2_quotient_207 : decode cX2_quotient 207 = .ok (.lconst 0, 1) := by decide +kernel
theorem dX2_quotient_208 : decode cX2_quotient 208 = .ok (.lconst 0, 1) := by decide +kernel
theorem dX2_quotient_209 : decode cX2_quotient 209 = .ok (.lconst 0, 1) := by decide +kernel
theorem dX2_quotient_210 : decode cX2_quotient 210 = .ok (.lconst 1, 1) := by decide +kernel
theorem dX2_quotient_211 : decode cX2_quotient 211 = .ok (.invokevirtual 65, 3) := by decide +kernel
theorem dX2_quotient_214 : decode cX2_quotient 214 = .ok (.aload_n 0, 1) := by decide +kernel
theorem dX2_quotient_215 : decode cX2_quotient 215 = .ok (.aload_n 0, 1) := by decide +kernel
theorem dX2_quotient_216 : decode cX2_quotient 216 = .ok (.getfield 21, 3) := by decide +kernel
theorem dX2_quotient_219 : decode cX2_quotient 219 = .ok (.aload_n 0, 1) := by decide +kernel
theorem dX2_quotient_220 : decode cX2_quotient 220 = .ok (.getfield 18, 3) := by decide +kernel
theorem dX2_quotient_223 : decode cX2_quotient 223 = .ok (.aload_n 0, 1) := by decide +kernel
theorem dX2_quotient_224 : decode cX2_quotient 224 = .ok (.getfield 21, 3) := by decide +kernel
theorem dX2_quotient_227 : decode cX2_quotient 227 = .ok (.invokevirtual 69, 3) := by decide +kernel
theorem dX2_quotient_230 : decode cX2_quotient 230 = .ok (.ifCond .ne 5, 3) := by decide +kernel
theorem dX2_quotient_233 : decode cX2_quotient 233 = .ok (.iconst 0, 1) := by decide +kernel
theorem dX2_quotient_234 : decode cX2_quotient 234 = .ok (.ireturn, 1) := by decide +kernel
theorem dX2_quotient_235 : decode cX2_quotient 235 = .ok (.aload_n 0, 1) := by decide +kernel
theorem dX2_quotient_236 : decode cX2_quotient 236 = .ok (.getfield 21, 3) := by decide +kernel
theorem dX2_quotient_239 : decode cX2_quotient 239 = .ok (.lload 4, 2) := by decide +kernel
theorem dX2_quotient_241 : decode cX2_quotient 241 = .ok (.putfield 32, 3) := by decide +kernel
theorem dX2_quotient_244 : decode cX2_quotient 244 = .ok (.aload_n 0, 1) := by decide +kernel
theorem dX2_quotient_245 : decode cX2_quotient 245 = .ok (.getfield 21, 3) := by decide +kernel
theorem dX2_quotient_248 : decode cX2_quotient 248 = .ok (.invokevirtual 73, 3) := by decide +kernel
theorem dX2_quotient_251 : decode cX2_quotient 251 = .ok (.aload_n 0, 1) := by decide +kernel
theorem dX2_quotient_252 : decode cX2_quotient 252 = .ok (.aload_n 1, 1) := by decide +kernel
theorem dX2_quotient_253 : decode cX2_quotient 253 = .ok (.aload_n 0, 1) := by decide +kernel
theorem dX2_quotient_254 : decode cX2_quotient 254 = .ok (.getfield 21, 3) := by decide +kernel
theorem dX2_quotient_257 : decode cX2_quotient 257 = .ok (.aload_n 3, 1) := by decide +kernel
theorem dX2_quotient_258 : decode cX2_quotient 258 = .ok (.invokevirtual 69, 3) := by decide +kernel
theorem dX2_quotient_261 : decode cX2_quotient 261 = .ok (.ireturn, 1) := by decide +kernel
theorem dX2_sign_0 : decode cX2_sign 0 = .ok (.lload_n 1, 1) := by decide +kernel
theorem dX2_sign_1 : decode cX2_sign 1 = .ok (.invokestatic 76, 3) := by decide +kernel
theorem dX2_sign_4 : decode cX2_sign 4 = .ok (.istore 5, 2) := by decide +kernel
theorem dX2_sign_6 : decode cX2_sign 6 = .ok (.lload_n 3, 1) := by decide +kernel
theorem dX2_sign_7 : decode cX2_sign 7 = .ok (.invokestatic 76, 3) := by decide +kernel
theorem dX2_sign_10 : decode cX2_sign 10 = .ok (.istore 6, 2) := by decide +kernel
theorem dX2_sign_12 : decode cX2_sign 12 = .ok (.iload 5, 2) := by decide +kernel
theorem dX2_sign_14 : decode cX2_sign 14 = .ok (.iload 6, 2) := by decide +kernel
theorem dX2_sign_16 : decode cX2_sign 16 = .ok (.if_icmp .eq 8, 3) := by decide +kernel
theorem dX2_sign_19 : decode cX2_sign 19 = .ok (.iload 6, 2) := by decide +kernel
theorem dX2_sign_21 : decode cX2_sign 21 = .ok (.ifCond .ne 6, 3) := by decide +kernel
theorem dX2_sign_24 : decode cX2_sign 24 = .ok (.iload 5, 2) := by decide +kernel
theorem dX2_sign_26 : decode cX2_sign 26 = .ok (.ireturn, 1) := by decide +kernel
theorem dX2_sign_27 : decode cX2_sign 27 = .ok (.iload 5, 2) := by decide +kernel
theorem dX2_sign_29 : decode cX2_sign 29 = .ok (.ifCond .ne 6, 3) := by decide +kernel
theorem dX2_sign_32 : decode cX2_sign 32 = .ok (.iload 6, 2) := by decide +kernel
theorem dX2_sign_34 : decode cX2_sign 34 = .ok (.ireturn, 1) := by decide +kernel
theorem dX2_sign_35 : decode cX2_sign 35 = .ok (.aload_n 0, 1) := by decide +kernel
theorem dX2_sign_36 : decode cX2_sign 36 = .ok (.iconst 0, 1) := by decide +kernel
theorem dX2_sign_37 : decode cX2_sign 37 = .ok (.putfield 24, 3) := by decide +kernel
theorem dX2_sign_40 : decode cX2_sign 40 = .ok (.aload_n 0, 1) := by decide +kernel
theorem dX2_sign_41 : decode cX2_sign 41 = .ok (.lload_n 1, 1) := by decide +kernel
theorem dX2_sign_42 : decode cX2_sign 42 = .ok (.lload_n 1, 1) := by decide +kernel
theorem dX2_sign_43 : decode cX2_sign 43 = .ok (.invokevirtual 35, 3) := by decide +kernel
theorem dX2_sign_46 : decode cX2_sign 46 = .ok (.aload_n 0, 1) := by decide +kernel
theorem dX2_sign_47 : decode cX2_sign 47 = .ok (.lload_n 3, 1) := by decide +kernel
theorem dX2_sign_48 : decode cX2_sign 48 = .ok (.lload_n 3, 1) := by decide +kernel
theorem dX2_sign_49 : decode cX2_sign 49 = .ok (.invokevirtual 58, 3) := by decide +kernel
theorem dX2_sign_52 : decode cX2_sign 52 = .ok (.lcmp, 1) := by decide +kernel
theorem dX2_sign_53 : decode cX2_sign 53 = .ok (.ifCond .le 7, 3) := by decide +kernel
theorem dX2_sign_56 : decode cX2_sign 56 = .ok (.iconst 1, 1) := by decide +kernel
theorem dX2_sign_57 : decode cX2_sign 57 = .ok (.goto 4, 3) := by decide +kernel
theorem dX2_sign_60 : decode cX2_sign 60 = .ok (.iconst 0, 1) := by decide +kernel
theorem dX2_sign_61 : decode cX2_sign 61 = .ok (.istore 7, 2) := by decide +kernel
theorem dX2_sign_63 : decode cX2_sign 63 = .ok (.aload_n 0, 1) := by decide +kernel
theorem dX2_sign_64 : decode cX2_sign 64 = .ok (.getfield 24, 3) := by decide +kernel
theorem dX2_sign_67 : decode cX2_sign 67 = .ok (.ifCond .eq 6, 3) := by decide +kernel
theorem dX2_sign_70 : decode cX2_sign 70 = .ok (.bipush (-5), 2) := by decide +kernel
theorem dX2_sign_72 : decode cX2_sign 72 = .ok (.ireturn, 1) := by decide +kernel
theorem dX2_sign_73 : decode cX2_sign 73 = .ok (.iload 7, 2) := by decide +kernel
theorem dX2_sign_75 : decode cX2_sign 75 = .ok (.ifCond .eq 8, 3) := by decide +kernel
theorem dX2_sign_78 : decode cX2_sign 78 = .ok (.iload 5, 2) := by decide +kernel
theorem dX2_sign_80 : decode cX2_sign 80 = .ok (.goto 5, 3) := by decide +kernel
theorem dX2_sign_83 : decode cX2_sign 83 = .ok (.iload 6, 2) := by decide +kernel
theorem dX2_sign_85 : decode cX2_sign 85 = .ok (.ireturn, 1) := by decide +kernel
theorem dX2_deliver_0 : decode cX2_deliver 0 = .ok (.aload_n 0, 1) := by decide +kernel
theorem dX2_deliver_1 : decode cX2_deliver 1 = .ok (.getfield 24, 3) := by decide +kernel
theorem dX2_deliver_4 : decode cX2_deliver 4 = .ok (.ifCond .eq 5, 3) := by decide +kernel
theorem dX2_deliver_7 : decode cX2_deliver 7 = .ok (.iconst 0, 1) := by decide +kernel
theorem dX2_deliver_8 : decode cX2_deliver 8 = .ok (.ireturn, 1) := by decide +kernel
theorem dX2_deliver_9 : decode cX2_deliver 9 = .ok (.aload_n 1, 1) := by decide +kernel
theorem dX2_deliver_10 : decode cX2_deliver 10 = .ok (.lload_n 2, 1) := by decide +kernel
theorem dX2_deliver_11 : decode cX2_deliver 11 = .ok (.lload 4, 2) := by decide +kernel
theorem dX2_deliver_13 : decode cX2_deliver 13 = .ok (.lload 6, 2) := by decide +kernel
theorem dX2_deliver_15 : decode cX2_deliver 15 = .ok (.lload 8, 2) := by decide +kernel
theorem dX2_deliver_17 : decode cX2_deliver 17 = .ok (.lload 10, 2) := by decide +kernel
theorem dX2_deliver_19 : decode cX2_deliver 19 = .ok (.invokevirtual 65, 3) := by decide +kernel
theorem dX2_deliver_22 : decode cX2_deliver 22 = .ok (.aload_n 1, 1) := by decide +kernel
theorem dX2_deliver_23 : decode cX2_deliver 23 = .ok (.invokevirtual 73, 3) := by decide +kernel
theorem dX2_deliver_26 : decode cX2_deliver 26 = .ok (.iconst 1, 1) := by decide +kernel
theorem dX2_deliver_27 : decode cX2_deliver 27 = .ok (.ireturn, 1) := by decide +kernel
theorem dX2_plus_0 : decode cX2_plus 0 = .ok (.lload_n 1, 1) := by decide +kernel
theorem dX2_plus_1 : decode cX2_plus 1 = .ok (.lload_n 3, 1) := by decide +kernel
theorem dX2_plus_2 : decode cX2_plus 2 = .ok (.ladd, 1) := by decide +kernel
theorem dX2_plus_3 : decode cX2_plus 3 = .ok (.lstore 5, 2) := by decide +kernel
theorem dX2_plus_5 : decode cX2_plus 5 = .ok (.lload_n 1, 1) := by decide +kernel
theorem dX2_plus_6 : decode cX2_plus 6 = .ok (.lload 5, 2) := by decide +kernel
theorem dX2_plus_8 : decode cX2_plus 8 = .ok (.lxor, 1) := by decide +kernel
theorem dX2_plus_9 : decode cX2_plus 9 = .ok (.lload_n 3, 1) := by decide +kernel
theorem dX2_plus_10 : decode cX2_plus 10 = .ok (.lload 5, 2) := by decide +kernel
theorem dX2_plus_12 : decode cX2_plus 12 = .ok (.lxor, 1) := by decide +kernel
theorem dX2_plus_13 : decode cX2_plus 13 = .ok (.land, 1) := by decide +kernel
theorem dX2_plus_14 : decode cX2_plus 14 = .ok (.lconst 0, 1) := by decide +kernel
theorem dX2_plus_15 : decode cX2_plus 15 = .ok (.lcmp, 1) := by decide +kernel
theorem dX2_plus_16 : decode cX2_plus 16 = .ok (.ifCond .ge 8, 3) := by decide +kernel
theorem dX2_plus_19 : decode cX2_plus 19 = .ok (.aload_n 0, 1) := by decide +kernel
theorem dX2_plus_20 : decode cX2_plus 20 = .ok (.iconst 1, 1) := by decide +kernel
theorem dX2_plus_21 : decode cX2_plus 21 = .ok (.putfield 24, 3) := by decide +kernel
theorem dX2_plus_24 : decode cX2_plus 24 = .ok (.lload 5, 2) := by decide +kernel
theorem dX2_plus_26 : decode cX2_plus 26 = .ok (.lreturn, 1) := by decide +kernel
theorem dX2_less_0 : decode cX2_less 0 = .ok (.lload_n 1, 1) := by decide +kernel
theorem dX2_less_1 : decode cX2_less 1 = .ok (.lload_n 3, 1) := by decide +kernel
theorem dX2_less_2 : decode cX2_less 2 = .ok (.lsub, 1) := by decide +kernel
theorem dX2_less_3 : decode cX2_less 3 = .ok (.lstore 5, 2) := by decide +kernel
theorem dX2_less_5 : decode cX2_less 5 = .ok (.lload_n 1, 1) := by decide +kernel
theorem dX2_less_6 : decode cX2_less 6 = .ok (.lload_n 3, 1) := by decide +kernel
theorem dX2_less_7 : decode cX2_less 7 = .ok (.lxor, 1) := by decide +kernel
theorem dX2_less_8 : decode cX2_less 8 = .ok (.lload_n 1, 1) := by decide +kernel
theorem dX2_less_9 : decode cX2_less 9 = .ok (.lload 5, 2) := by decide +kernel
theorem dX2_less_11 : decode cX2_less 11 = .ok (.lxor, 1) := by decide +kernel
theorem dX2_less_12 : decode cX2_less 12 = .ok (.land, 1) := by decide +kernel
theorem dX2_less_13 : decode cX2_less 13 = .ok (.lconst 0, 1) := by decide +kernel
theorem dX2_less_14 : decode cX2_less 14 = .ok (.lcmp, 1) := by decide +kernel
theorem dX2_less_15 : decode cX2_less 15 = .ok (.ifCond .ge 8, 3) := by decide +kernel
theorem dX2_less_18 : decode cX2_less 18 = .ok (.aload_n 0, 1) := by decide +kernel
theorem dX2_less_19 : decode cX2_less 19 = .ok (.iconst 1, 1) := by decide +kernel
theorem dX2_less_20 : decode cX2_less 20 = .ok (.putfield 24, 3) := by decide +kernel
theorem dX2_less_23 : decode cX2_less 23 = .ok (.lload 5, 2) := by decide +kernel
theorem dX2_less_25 : decode cX2_less 25 = .ok (.lreturn, 1) := by decide +kernel
theorem dX2_times_0 : decode cX2_times 0 = .ok (.lload_n 1, 1) := by decide +kernel
theorem dX2_times_1 : decode cX2_times 1 = .ok (.lload_n 3, 1) := by decide +kernel
theorem dX2_times_2 : decode cX2_times 2 = .ok (.lmul, 1) := by decide +kernel
theorem dX2_times_3 : decode cX2_times 3 = .ok (.lstore 5, 2) := by decide +kernel
theorem dX2_times_5 : decode cX2_times 5 = .ok (.lload_n 3, 1) := by decide +kernel
theorem dX2_times_6 : decode cX2_times 6 = .ok (.lconst 0, 1) := by decide +kernel
theorem dX2_times_7 : decode cX2_times 7 = .ok (.lcmp, 1) := by decide +kernel
theorem dX2_times_8 : decode cX2_times 8 = .ok (.ifCond .eq 33, 3) := by decide +kernel
theorem dX2_times_11 : decode cX2_times 11 = .ok (.lload 5, 2) := by decide +kernel
theorem dX2_times_13 : decode cX2_times 13 = .ok (.lload_n 3, 1) := by decide +kernel
theorem dX2_times_14 : decode cX2_times 14 = .ok (.ldiv, 1) := by decide +kernel
theorem dX2_times_15 : decode cX2_times 15 = .ok (.lload_n 1, 1) := by decide +kernel
theorem dX2_times_16 : decode cX2_times 16 = .ok (.lcmp, 1) := by decide +kernel
theorem dX2_times_17 : decode cX2_times 17 = .ok (.ifCond .ne 19, 3) := by decide +kernel
theorem dX2_times_20 : decode cX2_times 20 = .ok (.lload_n 3, 1) := by decide +kernel
theorem dX2_times_21 : decode cX2_times 21 = .ok (.ldc2_w 82, 3) := by decide +kernel
theorem dX2_times_24 : decode cX2_times 24 = .ok (.lcmp, 1) := by decide +kernel
theorem dX2_times_25 : decode cX2_times 25 = .ok (.ifCond .ne 16, 3) := by decide +kernel
theorem dX2_times_28 : decode cX2_times 28 = .ok (.lload_n 1, 1) := by decide +kernel
theorem dX2_times_29 : decode cX2_times 29 = .ok (.ldc2_w 84, 3) := by decide +kernel
theorem dX2_times_32 : decode cX2_times 32 = .ok (.lcmp, 1) := by decide +kernel
theorem dX2_times_33 : decode cX2_times 33 = .ok (.ifCond .ne 8, 3) := by decide +kernel
theorem dX2_times_36 : decode cX2_times 36 = .ok (.aload_n 0, 1) := by decide +kernel
theorem dX2_times_37 : decode cX2_times 37 = .ok (.iconst 1, 1) := by decide +kernel
theorem dX2_times_38 : decode cX2_times 38 = .ok (.putfield 24, 3) := by decide +kernel
theorem dX2_times_41 : decode cX2_times 41 = .ok (.lload 5, 2) := by decide +kernel
theorem dX2_times_43 : decode cX2_times 43 = .ok (.lreturn, 1) := by decide +kernel
theorem dX2_thrice_0 : decode cX2_thrice 0 = .ok (.aload_n 0, 1) := by decide +kernel
theorem dX2_thrice_1 : decode cX2_thrice 1 = .ok (.aload_n 0, 1) := by decide +kernel
theorem dX2_thrice_2 : decode cX2_thrice 2 = .ok (.ldc2_w 86, 3) := by decide +kernel
theorem dX2_thrice_5 : decode cX2_thrice 5 = .ok (.lload_n 1, 1) := by decide +kernel
theorem dX2_thrice_6 : decode cX2_thrice 6 = .ok (.invokevirtual 35, 3) := by decide +kernel
theorem dX2_thrice_9 : decode cX2_thrice 9 = .ok (.lload_n 3, 1) := by decide +kernel
theorem dX2_thrice_10 : decode cX2_thrice 10 = .ok (.invokevirtual 35, 3) := by decide +kernel
theorem dX2_thrice_13 : decode cX2_thrice 13 = .ok (.lreturn, 1) := by decide +kernel
theorem dX3_init_0 : decode cX3_init 0 = .ok (.aload_n 0, 1) := by decide +kernel
theorem dX3_init_1 : decode cX3_init 1 = .ok (.invokespecial 3, 3) := by decide +kernel
theorem dX3_init_4 : decode cX3_init 4 = .ok (.aload_n 0, 1) := by decide +kernel
theorem dX3_init_5 : decode cX3_init 5 = .ok (.iconst 0, 1) := by decide +kernel
theorem dX3_init_6 : decode cX3_init 6 = .ok (.putfield 9, 3) := by decide +kernel
theorem dX3_init_9 : decode cX3_init 9 = .ok (.aload_n 0, 1) := by decide +kernel
theorem dX3_init_10 : decode cX3_init 10 = .ok (.bipush 8, 2) := by decide +kernel
theorem dX3_init_12 : decode cX3_init 12 = .ok (.newarray .int, 2) := by decide +kernel
theorem dX3_init_14 : decode cX3_init 14 = .ok (.putfield 15, 3) := by decide +kernel
theorem dX3_init_17 : decode cX3_init 17 = .ok (.aload_n 0, 1) := by decide +kernel
theorem dX3_init_18 : decode cX3_init 18 = .ok (.bipush 8, 2) := by decide +kernel
theorem dX3_init_20 : decode cX3_init 20 = .ok (.newarray .int, 2) := by decide +kernel
theorem dX3_init_22 : decode cX3_init 22 = .ok (.putfield 19, 3) := by decide +kernel
theorem dX3_init_25 : decode cX3_init 25 = .ok (.aload_n 0, 1) := by decide +kernel
theorem dX3_init_26 : decode cX3_init 26 = .ok (.bipush 8, 2) := by decide +kernel
theorem dX3_init_28 : decode cX3_init 28 = .ok (.newarray .int, 2) := by decide +kernel
theorem dX3_init_30 : decode cX3_init 30 = .ok (.putfield 22, 3) := by decide +kernel
theorem dX3_init_33 : decode cX3_init 33 = .ok (.aload_n 0, 1) := by decide +kernel
theorem dX3_init_34 : decode cX3_init 34 = .ok (.bipush 24, 2) := by decide +kernel
theorem dX3_init_36 : decode cX3_init 36 = .ok (.newarray .int, 2) := by decide +kernel
theorem dX3_init_38 : decode cX3_init 38 = .ok (.putfield 25, 3) := by decide +kernel
theorem dX3_init_41 : decode cX3_init 41 = .ok (.aload_n 0, 1) := by decide +kernel
theorem dX3_init_42 : decode cX3_init 42 = .ok (.iconst 2, 1) := by decide +kernel
theorem dX3_init_43 : decode cX3_init 43 = .ok (.newarray .int, 2) := by decide +kernel
theorem dX3_init_45 : decode cX3_init 45 = .ok (.putfield 28, 3) := by decide +kernel
theorem dX3_init_48 : decode cX3_init 48 = .ok (.aload_n 0, 1) := by decide +kernel
theorem dX3_init_49 : decode cX3_init 49 = .ok (.bipush 22, 2) := by decide +kernel
theorem dX3_init_51 : decode cX3_init 51 = .ok (.putfield 31, 3) := by decide +kernel
theorem dX3_init_54 : decode cX3_init 54 = .ok (.aload_n 0, 1) := by decide +kernel
theorem dX3_init_55 : decode cX3_init 55 = .ok (.iconst 1, 1) := by decide +kernel
theorem dX3_init_56 : decode cX3_init 56 = .ok (.putfield 34, 3) := by decide +kernel
theorem dX3_init_59 : decode cX3_init 59 = .ok (.iconst 0, 1) := by decide +kernel
theorem dX3_init_60 : decode cX3_init 60 = .ok (.istore_n 1, 1) := by decide +kernel
theorem dX3_init_61 : decode cX3_init 61 = .ok (.iload_n 1, 1) := by decide +kernel
theorem dX3_init_62 : decode cX3_init 62 = .ok (.iconst 2, 1) := by decide +kernel
theorem dX3_init_63 : decode cX3_init 63 = .ok (.if_icmp .ge 18, 3) := by decide +kernel
theorem dX3_init_66 : decode cX3_init 66 = .ok (.aload_n 0, 1) := by decide +kernel
theorem dX3_init_67 : decode cX3_init 67 = .ok (.getfield 28, 3) := by decide +kernel
theorem dX3_init_70 : decode cX3_init 70 = .ok (.iload_n 1, 1) := by decide +kernel
theorem dX3_init_71 : decode cX3_init 71 = .ok (.sipush 4095, 3) := by decide +kernel
theorem dX3_init_74 : decode cX3_init 74 = .ok (.iastore, 1) := by decide +kernel
theorem dX3_init_75 : decode cX3_init 75 = .ok (.iinc 1 1, 3) := by decide +kernel
theorem dX3_init_78 : decode cX3_init 78 = .ok (.goto (-17), 3) := by decide +kernel
theorem dX3_init_81 : decode cX3_init 81 = .ok (.return_, 1) := by decide +kernel
theorem dX3_lumps_0 : decode cX3_lumps 0 = .ok (.aload_n 0, 1) := by decide +kernel
theorem dX3_lumps_1 : decode cX3_lumps 1 = .ok (.getfield 9, 3) := by decide +kernel
theorem dX3_lumps_4 : decode cX3_lumps 4 = .ok (.ireturn, 1) := by decide +kernel
theorem dX3_addLump_0 : decode cX3_addLump 0 = .ok (.aload_n 0, 1) := by decide +kernel
theorem dX3_addLump_1 : decode cX3_addLump 1 = .ok (.getfield 15, 3) := by decide +kernel
theorem dX3_addLump_4 : decode cX3_addLump 4 = .ok (.aload_n 0, 1) := by decide +kernel
theorem dX3_addLump_5 : decode cX3_addLump 5 = .ok (.getfield 9, 3) := by decide +kernel
theorem dX3_addLump_8 : decode cX3_addLump 8 = .ok (.iload_n 1, 1) := by decide +kernel
theorem dX3_addLump_9 : decode cX3_addLump 9 = .ok (.iastore, 1) := by decide +kernel
theorem dX3_addLump_10 : decode cX3_addLump 10 = .ok (.aload_n 0, 1) := by decide +kernel
theorem dX3_addLump_11 : decode cX3_addLump 11 = .ok (.getfield 19, 3) := by decide +kernel
theorem dX3_addLump_14 : decode cX3_addLump 14 = .ok (.aload_n 0, 1) := by decide +kernel
theorem dX3_addLump_15 : decode cX3_addLump 15 = .ok (.getfield 9, 3) := by decide +kernel
theorem dX3_addLump_18 : decode cX3_addLump 18 = .ok (.iload_n 2, 1) := by decide +kernel
theorem dX3_addLump_19 : decode cX3_addLump 19 = .ok (.iastore, 1) := by decide +kernel
theorem dX3_addLump_20 : decode cX3_addLump 20 = .ok (.aload_n 0, 1) := by decide +kernel
theorem dX3_addLump_21 : decode cX3_addLump 21 = .ok (.getfield 22, 3) := by decide +kernel
theorem dX3_addLump_24 : decode cX3_addLump 24 = .ok (.aload_n 0, 1) := by decide +kernel
theorem dX3_addLump_25 : decode cX3_addLump 25 = .ok (.getfield 9, 3) := by decide +kernel
theorem dX3_addLump_28 : decode cX3_addLump 28 = .ok (.iload_n 3, 1) := by decide +kernel
theorem dX3_addLump_29 : decode cX3_addLump 29 = .ok (.iastore, 1) := by decide +kernel
theorem dX3_addLump_30 : decode cX3_addLump 30 = .ok (.aload_n 0, 1) := by decide +kernel
theorem dX3_addLump_31 : decode cX3_addLump 31 = .ok (.dup, 1) := by decide +kernel
theorem dX3_addLump_32 : decode cX3_addLump 32 = .ok (.getfield 9, 3) := by decide +kernel
theorem dX3_addLump_35 : decode cX3_addLump 35 = .ok (.iconst 1, 1) := by decide +kernel
theorem dX3_addLump_36 : decode cX3_addLump 36 = .ok (.iadd, 1) := by decide +kernel
theorem dX3_addLump_37 : decode cX3_addLump 37 = .ok (.putfield 9, 3) := by decide +kernel
theorem dX3_addLump_40 : decode cX3_addLump 40 = .ok (.return_, 1) := by decide +kernel
theorem dX3_dropLump_0 : decode cX3_dropLump 0 = .ok (.aload_n 0, 1) := by decide +kernel
theorem dX3_dropLump_1 : decode cX3_dropLump 1 = .ok (.dup, 1) := by decide +kernel
theorem dX3_dropLump_2 : decode cX3_dropLump 2 = .ok (.getfield 9, 3) := by decide +kernel
theorem dX3_dropLump_5 : decode cX3_dropLump 5 = .ok (.iconst 1, 1) := by decide +kernel
theorem dX3_dropLump_6 : decode cX3_dropLump 6 = .ok (.isub, 1) := by decide +kernel
theorem dX3_dropLump_7 : decode cX3_dropLump 7 = .ok (.putfield 9, 3) := by decide +kernel
theorem dX3_dropLump_10 : decode cX3_dropLump 10 = .ok (.return_, 1) := by decide +kernel
theorem dX3_sizeAt_0 : decode cX3_sizeAt 0 = .ok (.aload_n 0, 1) := by decide +kernel
theorem dX3_sizeAt_1 : decode cX3_sizeAt 1 = .ok (.getfield 25, 3) := by decide +kernel
theorem dX3_sizeAt_4 : decode cX3_sizeAt 4 = .ok (.iload_n 1, 1) := by decide +kernel
theorem dX3_sizeAt_5 : decode cX3_sizeAt 5 = .ok (.bipush 12, 2) := by decide +kernel
theorem dX3_sizeAt_7 : decode cX3_sizeAt 7 = .ok (.imul, 1) := by decide +kernel
theorem dX3_sizeAt_8 : decode cX3_sizeAt 8 = .ok (.iload_n 2, 1) := by decide +kernel
theorem dX3_sizeAt_9 : decode cX3_sizeAt 9 = .ok (.iadd, 1) := by decide +kernel
theorem dX3_sizeAt_10 : decode cX3_sizeAt 10 = .ok (.iaload, 1) := by decide +kernel
theorem dX3_sizeAt_11 : decode cX3_sizeAt 11 = .ok (.ireturn, 1) := by decide +kernel
theorem dX3_setHole_0 : decode cX3_setHole 0 = .ok (.aload_n 0, 1) := by decide +kernel
theorem dX3_setHole_1 : decode cX3_setHole 1 = .ok (.getfield 25, 3) := by decide +kernel
theorem dX3_setHole_4 : decode cX3_setHole 4 = .ok (.iload_n 1, 1) := by decide +kernel
theorem dX3_setHole_5 : decode cX3_setHole 5 = .ok (.bipush 12, 2) := by decide +kernel
theorem dX3_setHole_7 : decode cX3_setHole 7 = .ok (.imul, 1) := by decide +kernel
theorem dX3_setHole_8 : decode cX3_setHole 8 = .ok (.iload_n 2, 1) := by decide +kernel
theorem dX3_setHole_9 : decode cX3_setHole 9 = .ok (.iadd, 1) := by decide +kernel
theorem dX3_setHole_10 : decode cX3_setHole 10 = .ok (.iload_n 3, 1) := by decide +kernel
theorem dX3_setHole_11 : decode cX3_setHole 11 = .ok (.iastore, 1) := by decide +kernel
theorem dX3_setHole_12 : decode cX3_setHole 12 = .ok (.return_, 1) := by decide +kernel
theorem dX3_holes_0 : decode cX3_holes 0 = .ok (.iconst 0, 1) := by decide +kernel
theorem dX3_holes_1 : decode cX3_holes 1 = .ok (.istore_n 2, 1) := by decide +kernel
theorem dX3_holes_2 : decode cX3_holes 2 = .ok (.iconst 0, 1) := by decide +kernel
theorem dX3_holes_3 : decode cX3_holes 3 = .ok (.istore_n 3, 1) := by decide +kernel
theorem dX3_holes_4 : decode cX3_holes 4 = .ok (.iload_n 3, 1) := by decide +kernel
theorem dX3_holes_5 : decode cX3_holes 5 = .ok (.bipush 12, 2) := by decide +kernel
theorem dX3_holes_7 : decode cX3_holes 7 = .ok (.if_icmp .ge 21, 3) := by decide +kernel
theorem dX3_holes_10 : decode cX3_holes 10 = .ok (.aload_n 0, 1) := by decide +kernel
theorem dX3_holes_11 : decode cX3_holes 11 = .ok (.iload_n 1, 1) := by decide +kernel
theorem dX3_holes_12 : decode cX3_holes 12 = .ok (.iload_n 3, 1) := by decide +kernel
theorem dX3_holes_13 : decode cX3_holes 13 = .ok (.invokevirtual 37, 3) := by decide +kernel
theorem dX3_holes_16 : decode cX3_holes 16 = .ok (.ifCond .eq 6, 3) := by decide +kernel
theorem dX3_holes_19 : decode cX3_holes 19 = .ok (.iinc 2 1, 3) := by decide +kernel
theorem dX3_holes_22 : decode cX3_holes 22 = .ok (.iinc 3 1, 3) := by decide +kernel
theorem dX3_holes_25 : decode cX3_holes 25 = .ok (.goto (-21), 3) := by decide +kernel
theorem dX3_holes_28 : decode cX3_holes 28 = .ok (.iload_n 2, 1) := by decide +kernel
theorem dX3_holes_29 : decode cX3_holes 29 = .ok (.ireturn, 1) := by decide +kernel
theorem dX3_lawfulBits_0 : decode cX3_lawfulBits 0 = .ok (.aload_n 0, 1) := by decide +kernel
theorem dX3_lawfulBits_1 : decode cX3_lawfulBits 1 = .ok (.getfield 28, 3) := by decide +kernel
theorem dX3_lawfulBits_4 : decode cX3_lawfulBits 4 = .ok (.iload_n 1, 1) := by decide +kernel
theorem dX3_lawfulBits_5 : decode cX3_lawfulBits 5 = .ok (.iaload, 1) := by decide +kernel
theorem dX3_lawfulBits_6 : decode cX3_lawfulBits 6 = .ok (.ireturn, 1) := by decide +kernel
theorem dX3_tellLawful_0 : decode cX3_tellLawful 0 = .ok (.aload_n 0, 1) := by decide +kernel
theorem dX3_tellLawful_1 : decode cX3_tellLawful 1 = .ok (.getfield 28, 3) := by decide +kernel
theorem dX3_tellLawful_4 : decode cX3_tellLawful 4 = .ok (.iload_n 1, 1) := by decide +kernel
theorem dX3_tellLawful_5 : decode cX3_tellLawful 5 = .ok (.iload_n 2, 1) := by decide +kernel
theorem dX3_tellLawful_6 : decode cX3_tellLawful 6 = .ok (.iastore, 1) := by decide +kernel
theorem dX3_tellLawful_7 : decode cX3_tellLawful 7 = .ok (.return_, 1) := by decide +kernel
theorem dX3_openBits_0 : decode cX3_openBits 0 = .ok (.aload_n 0, 1) := by decide +kernel
theorem dX3_openBits_1 : decode cX3_openBits 1 = .ok (.getfield 28, 3) := by decide +kernel
theorem dX3_openBits_4 : decode cX3_openBits 4 = .ok (.iload_n 1, 1) := by decide +kernel
theorem dX3_openBits_5 : decode cX3_openBits 5 = .ok (.iaload, 1) := by decide +kernel
theorem dX3_openBits_6 : decode cX3_openBits 6 = .ok (.istore_n 2, 1) := by decide +kernel
theorem dX3_openBits_7 : decode cX3_openBits 7 = .ok (.iconst 0, 1) := by decide +kernel
theorem dX3_openBits_8 : decode cX3_openBits 8 = .ok (.istore_n 3, 1) := by decide +kernel
theorem dX3_openBits_9 : decode cX3_openBits 9 = .ok (.iload_n 3, 1) := by decide +kernel
theorem dX3_openBits_10 : decode cX3_openBits 10 = .ok (.bipush 12, 2) := by decide +kernel
theorem dX3_openBits_12 : decode cX3_openBits 12 = .ok (.if_icmp .ge 26, 3) := by decide +kernel
theorem dX3_openBits_15 : decode cX3_openBits 15 = .ok (.aload_n 0, 1) := by decide +kernel
theorem dX3_openBits_16 : decode cX3_openBits 16 = .ok (.iload_n 1, 1) := by decide +kernel
theorem dX3_openBits_17 : decode cX3_openBits 17 = .ok (.iload_n 3, 1) := by decide +kernel
theorem dX3_openBits_18 : decode cX3_openBits 18 = .ok (.invokevirtual 37, 3) := by decide +kernel
theorem dX3_openBits_21 : decode cX3_openBits 21 = .ok (.ifCond .eq 11, 3) := by decide +kernel
theorem dX3_openBits_24 : decode cX3_openBits 24 = .ok (.iload_n 2, 1) := by decide +kernel
theorem dX3_openBits_25 : decode cX3_openBits 25 = .ok (.iconst 1, 1) := by decide +kernel
theorem dX3_openBits_26 : decode cX3_openBits 26 = .ok (.iload_n 3, 1) := by decide +kernel
theorem dX3_openBits_27 : decode cX3_openBits 27 = .ok (.ishl, 1) := by decide +kernel
theorem dX3_openBits_28 : decode cX3_openBits 28 = .ok (.iconst (-1), 1) := by decide +kernel
theorem dX3_openBits_29 : decode cX3_openBits 29 = .ok (.ixor, 1) := by decide +kernel
theorem dX3_openBits_30 : decode cX3_openBits 30 = .ok (.iand, 1) := by decide +kernel
theorem dX3_openBits_31 : decode cX3_openBits 31 = .ok (.istore_n 2, 1) := by decide +kernel
theorem dX3_openBits_32 : decode cX3_openBits 32 = .ok (.iinc 3 1, 3) := by decide +kernel
theorem dX3_openBits_35 : decode cX3_openBits 35 = .ok (.goto (-26), 3) := by decide +kernel
theorem dX3_openBits_38 : decode cX3_openBits 38 = .ok (.iload_n 2, 1) := by decide +kernel
theorem dX3_openBits_39 : decode cX3_openBits 39 = .ok (.ireturn, 1) := by decide +kernel
theorem dX3_sizeBits_0 : decode cX3_sizeBits 0 = .ok (.aload_n 0, 1) := by decide +kernel
theorem dX3_sizeBits_1 : decode cX3_sizeBits 1 = .ok (.getfield 31, 3) := by decide +kernel
theorem dX3_sizeBits_4 : decode cX3_sizeBits 4 = .ok (.ireturn, 1) := by decide +kernel
theorem dX3_tellSizes_0 : decode cX3_tellSizes 0 = .ok (.aload_n 0, 1) := by decide +kernel
theorem dX3_tellSizes_1 : decode cX3_tellSizes 1 = .ok (.iload_n 1, 1) := by decide +kernel
theorem dX3_tellSizes_2 : decode cX3_tellSizes 2 = .ok (.putfield 31, 3) := by decide +kernel
theorem dX3_tellSizes_5 : decode cX3_tellSizes 5 = .ok (.return_, 1) := by decide +kernel
theorem dX3_reach_0 : decode cX3_reach 0 = .ok (.aload_n 0, 1) := by decide +kernel
theorem dX3_reach_1 : decode cX3_reach 1 = .ok (.getfield 34, 3) := by decide +kernel
theorem dX3_reach_4 : decode cX3_reach 4 = .ok (.ireturn, 1) := by decide +kernel
theorem dX3_tellReach_0 : decode cX3_tellReach 0 = .ok (.aload_n 0, 1) := by decide +kernel
theorem dX3_tellReach_1 : decode cX3_tellReach 1 = .ok (.iload_n 1, 1) := by decide +kernel
theorem dX3_tellReach_2 : decode cX3_tellReach 2 = .ok (.putfield 34, 3) := by decide +kernel
theorem dX3_tellReach_5 : decode cX3_tellReach 5 = .ok (.return_, 1) := by decide +kernel
theorem dX3_takePullBy20_0 : decode cX3_takePullBy20 0 = .ok (.aload_n 2, 1) := by decide +kernel
theorem dX3_takePullBy20_1 : decode cX3_takePullBy20 1 = .ok (.lconst 0, 1) := by decide +kernel
theorem dX3_takePullBy20_2 : decode cX3_takePullBy20 2 = .ok (.lconst 0, 1) := by decide +kernel
theorem dX3_takePullBy20_3 : decode cX3_takePullBy20 3 = .ok (.lconst 0, 1) := by decide +kernel
theorem dX3_takePullBy20_4 : decode cX3_takePullBy20 4 = .ok (.lconst 0, 1) := by decide +kernel
theorem dX3_takePullBy20_5 : decode cX3_takePullBy20 5 = .ok (.ldc2_w 41, 3) := by decide +kernel
theorem dX3_takePullBy20_8 : decode cX3_takePullBy20 8 = .ok (.invokevirtual 43, 3) := by decide +kernel
theorem dX3_takePullBy20_11 : decode cX3_takePullBy20 11 = .ok (.iconst 0, 1) := by decide +kernel
theorem dX3_takePullBy20_12 : decode cX3_takePullBy20 12 = .ok (.istore_n 3, 1) := by decide +kernel
theorem dX3_takePullBy20_13 : decode cX3_takePullBy20 13 = .ok (.iload_n 3, 1) := by decide +kernel
theorem dX3_takePullBy20_14 : decode cX3_takePullBy20 14 = .ok (.aload_n 0, 1) := by decide +kernel
theorem dX3_takePullBy20_15 : decode cX3_takePullBy20 15 = .ok (.getfield 9, 3) := by decide +kernel
theorem dX3_takePullBy20_18 : decode cX3_takePullBy20 18 = .ok (.if_icmp .ge 48, 3) := by decide +kernel
theorem dX3_takePullBy20_21 : decode cX3_takePullBy20 21 = .ok (.aload_n 2, 1) := by decide +kernel
theorem dX3_takePullBy20_22 : decode cX3_takePullBy20 22 = .ok (.aload_n 0, 1) := by decide +kernel
theorem dX3_takePullBy20_23 : decode cX3_takePullBy20 23 = .ok (.getfield 15, 3) := by decide +kernel
theorem dX3_takePullBy20_26 : decode cX3_takePullBy20 26 = .ok (.iload_n 3, 1) := by decide +kernel
theorem dX3_takePullBy20_27 : decode cX3_takePullBy20 27 = .ok (.iaload, 1) := by decide +kernel
theorem dX3_takePullBy20_28 : decode cX3_takePullBy20 28 = .ok (.iload_n 1, 1) := by decide +kernel
theorem dX3_takePullBy20_29 : decode cX3_takePullBy20 29 = .ok (.ifCond .ne 15, 3) := by decide +kernel
theorem dX3_takePullBy20_32 : decode cX3_takePullBy20 32 = .ok (.bipush 10, 2) := by decide +kernel
theorem dX3_takePullBy20_34 : decode cX3_takePullBy20 34 = .ok (.aload_n 0, 1) := by decide +kernel
theorem dX3_takePullBy20_35 : decode cX3_takePullBy20 35 = .ok (.getfield 22, 3) := by decide +kernel
theorem dX3_takePullBy20_38 : decode cX3_takePullBy20 38 = .ok (.iload_n 3, 1) := by decide +kernel
theorem dX3_takePullBy20_39 : decode cX3_takePullBy20 39 = .ok (.iaload, 1) := by decide +kernel
theorem dX3_takePullBy20_40 : decode cX3_takePullBy20 40 = .ok (.isub, 1) := by decide +kernel
theorem dX3_takePullBy20_41 : decode cX3_takePullBy20 41 = .ok (.goto 9, 3) := by decide +kernel
theorem dX3_takePullBy20_44 : decode cX3_takePullBy20 44 = .ok (.aload_n 0, 1) := by decide +kernel
theorem dX3_takePullBy20_45 : decode cX3_takePullBy20 45 = .ok (.getfield 22, 3) := by decide +kernel
theorem dX3_takePullBy20_48 : decode cX3_takePullBy20 48 = .ok (.iload_n 3, 1) := by decide +kernel
theorem dX3_takePullBy20_49 : decode cX3_takePullBy20 49 = .ok (.iaload, 1) := by decide +kernel
theorem dX3_takePullBy20_50 : decode cX3_takePullBy20 50 = .ok (.imul, 1) := by decide +kernel
theorem dX3_takePullBy20_51 : decode cX3_takePullBy20 51 = .ok (.aload_n 0, 1) := by decide +kernel
theorem dX3_takePullBy20_52 : decode cX3_takePullBy20 52 = .ok (.getfield 19, 3) := by decide +kernel
theorem dX3_takePullBy20_55 : decode cX3_takePullBy20 55 = .ok (.iload_n 3, 1) := by decide +kernel
theorem dX3_takePullBy20_56 : decode cX3_takePullBy20 56 = .ok (.iaload, 1) := by decide +kernel
theorem dX3_takePullBy20_57 : decode cX3_takePullBy20 57 = .ok (.invokevirtual 49, 3) := by decide +kernel
theorem dX3_takePullBy20_60 : decode cX3_takePullBy20 60 = .ok (.iinc 3 1, 3) := by decide +kernel
theorem dX3_takePullBy20_63 : decode cX3_takePullBy20 63 = .ok (.goto (-50), 3) := by decide +kernel
theorem dX3_takePullBy20_66 : decode cX3_takePullBy20 66 = .ok (.iconst 0, 1) := by decide +kernel
theorem dX3_takePullBy20_67 : decode cX3_takePullBy20 67 = .ok (.istore_n 3, 1) := by decide +kernel
theorem dX3_takePullBy20_68 : decode cX3_takePullBy20 68 = .ok (.iload_n 3, 1) := by decide +kernel
theorem dX3_takePullBy20_69 : decode cX3_takePullBy20 69 = .ok (.bipush 12, 2) := by decide +kernel
theorem dX3_takePullBy20_71 : decode cX3_takePullBy20 71 = .ok (.if_icmp .ge 23, 3) := by decide +kernel
theorem dX3_takePullBy20_74 : decode cX3_takePullBy20 74 = .ok (.aload_n 2, 1) := by decide +kernel
theorem dX3_takePullBy20_75 : decode cX3_takePullBy20 75 = .ok (.bipush (-10), 2) := by decide +kernel
theorem dX3_takePullBy20_77 : decode cX3_takePullBy20 77 = .ok (.aload_n 0, 1) := by decide +kernel
theorem dX3_takePullBy20_78 : decode cX3_takePullBy20 78 = .ok (.iload_n 1, 1) := by decide +kernel
theorem dX3_takePullBy20_79 : decode cX3_takePullBy20 79 = .ok (.iload_n 3, 1) := by decide +kernel
theorem dX3_takePullBy20_80 : decode cX3_takePullBy20 80 = .ok (.invokevirtual 37, 3) := by decide +kernel
theorem dX3_takePullBy20_83 : decode cX3_takePullBy20 83 = .ok (.imul, 1) := by decide +kernel
theorem dX3_takePullBy20_84 : decode cX3_takePullBy20 84 = .ok (.iload_n 3, 1) := by decide +kernel
theorem dX3_takePullBy20_85 : decode cX3_takePullBy20 85 = .ok (.invokevirtual 49, 3) := by decide +kernel
theorem dX3_takePullBy20_88 : decode cX3_takePullBy20 88 = .ok (.iinc 3 1, 3) := by decide +kernel
theorem dX3_takePullBy20_91 : decode cX3_takePullBy20 91 = .ok (.goto (-23), 3) := by decide +kernel
theorem dX3_takePullBy20_94 : decode cX3_takePullBy20 94 = .ok (.return_, 1) := by decide +kernel
theorem dX4_init_0 : decode cX4_init 0 = .ok (.aload_n 0, 1) := by decide +kernel
theorem dX4_init_1 : decode cX4_init 1 = .ok (.invokespecial 3, 3) := by decide +kernel
theorem dX4_init_4 : decode cX4_init 4 = .ok (.aload_n 0, 1) := by decide +kernel
theorem dX4_init_5 : decode cX4_init 5 = .ok (.new 9, 3) := by decide +kernel
theorem dX4_init_8 : decode cX4_init 8 = .ok (.dup, 1) := by decide +kernel
theorem dX4_init_9 : decode cX4_init 9 = .ok (.invokespecial 11, 3) := by decide +kernel
theorem dX4_init_12 : decode cX4_init 12 = .ok (.putfield 12, 3) := by decide +kernel
theorem dX4_init_15 : decode cX4_init 15 = .ok (.aload_n 0, 1) := by decide +kernel
theorem dX4_init_16 : decode cX4_init 16 = .ok (.iconst 3, 1) := by decide +kernel
theorem dX4_init_17 : decode cX4_init 17 = .ok (.newarray .int, 2) := by decide +kernel
theorem dX4_init_19 : decode cX4_init 19 = .ok (.putfield 18, 3) := by decide +kernel
theorem dX4_init_22 : decode cX4_init 22 = .ok (.aload_n 0, 1) := by decide +kernel
theorem dX4_init_23 : decode cX4_init 23 = .ok (.iconst 5, 1) := by decide +kernel
theorem dX4_init_24 : decode cX4_init 24 = .ok (.anewarray 22, 3) := by decide +kernel
theorem dX4_init_27 : decode cX4_init 27 = .ok (.putfield 24, 3) := by decide +kernel
theorem dX4_init_30 : decode cX4_init 30 = .ok (.aload_n 0, 1) := by decide +kernel
theorem dX4_init_31 : decode cX4_init 31 = .ok (.iconst 4, 1) := by decide +kernel
theorem dX4_init_32 : decode cX4_init 32 = .ok (.newarray .int, 2) := by decide +kernel
theorem dX4_init_34 : decode cX4_init 34 = .ok (.putfield 28, 3) := by decide +kernel
theorem dX4_init_37 : decode cX4_init 37 = .ok (.aload_n 0, 1) := by decide +kernel
theorem dX4_init_38 : decode cX4_init 38 = .ok (.iconst 4, 1) := by decide +kernel
theorem dX4_init_39 : decode cX4_init 39 = .ok (.newarray .int, 2) := by decide +kernel
theorem dX4_init_41 : decode cX4_init 41 = .ok (.putfield 31, 3) := by decide +kernel
theorem dX4_init_44 : decode cX4_init 44 = .ok (.aload_n 0, 1) := by decide +kernel
theorem dX4_init_45 : decode cX4_init 45 = .ok (.iconst 4, 1) := by decide +kernel
theorem dX4_init_46 : decode cX4_init 46 = .ok (.newarray .int, 2) := by decide +kernel
theorem dX4_init_48 : decode cX4_init 48 = .ok (.putfield 34, 3) := by decide +kernel
theorem dX4_init_51 : decode cX4_init 51 = .ok (.aload_n 0, 1) := by decide +kernel
theorem dX4_init_52 : decode cX4_init 52 = .ok (.iconst 4, 1) := by decide +kernel
theorem dX4_init_53 : decode cX4_init 53 = .ok (.newarray .int, 2) := by decide +kernel
theorem dX4_init_55 : decode cX4_init 55 = .ok (.putfield 37, 3) := by decide +kernel
theorem dX4_init_58 : decode cX4_init 58 = .ok (.iconst 0, 1) := by decide +kernel
theorem dX4_init_59 : decode cX4_init 59 = .ok (.istore_n 1, 1) := by decide +kernel
theorem dX4_init_60 : decode cX4_init 60 = .ok (.iload_n 1, 1) := by decide +kernel
theorem dX4_init_61 : decode cX4_init 61 = .ok (.aload_n 0, 1) := by decide +kernel
theorem dX4_init_62 : decode cX4_init 62 = .ok (.getfield 24, 3) := by decide +kernel
theorem dX4_init_65 : decode cX4_init 65 = .ok (.arraylength, 1) := by decide +kernel
theorem dX4_init_66 : decode cX4_init 66 = .ok (.if_icmp .ge 22, 3) := by decide +kernel
theorem dX4_init_69 : decode cX4_init 69 = .ok (.aload_n 0, 1) := by decide +kernel
theorem dX4_init_70 : decode cX4_init 70 = .ok (.getfield 24, 3) := by decide +kernel
theorem dX4_init_73 : decode cX4_init 73 = .ok (.iload_n 1, 1) := by decide +kernel
theorem dX4_init_74 : decode cX4_init 74 = .ok (.new 22, 3) := by decide +kernel
theorem dX4_init_77 : decode cX4_init 77 = .ok (.dup, 1) := by decide +kernel
theorem dX4_init_78 : decode cX4_init 78 = .ok (.invokespecial 40, 3) := by decide +kernel
theorem dX4_init_81 : decode cX4_init 81 = .ok (.aastore, 1) := by decide +kernel
theorem dX4_init_82 : decode cX4_init 82 = .ok (.iinc 1 1, 3) := by decide +kernel
theorem dX4_init_85 : decode cX4_init 85 = .ok (.goto (-25), 3) := by decide +kernel
theorem dX4_init_88 : decode cX4_init 88 = .ok (.return_, 1) := by decide +kernel
theorem dX4_isQuiet_0 : decode cX4_isQuiet 0 = .ok (.aload_n 1, 1) := by decide +kernel
theorem dX4_isQuiet_1 : decode cX4_isQuiet 1 = .ok (.iload_n 2, 1) := by decide +kernel
theorem dX4_isQuiet_2 : decode cX4_isQuiet 2 = .ok (.aload_n 0, 1) := by decide +kernel
theorem dX4_isQuiet_3 : decode cX4_isQuiet 3 = .ok (.getfield 24, 3) := by decide +kernel
theorem dX4_isQuiet_6 : decode cX4_isQuiet 6 = .ok (.iconst 0, 1) := by decide +kernel
theorem dX4_isQuiet_7 : decode cX4_isQuiet 7 = .ok (.aaload, 1) := by decide +kernel
theorem dX4_isQuiet_8 : decode cX4_isQuiet 8 = .ok (.invokevirtual 41, 3) := by decide +kernel
theorem dX4_isQuiet_11 : decode cX4_isQuiet 11 = .ok (.aload_n 0, 1) := by decide +kernel
theorem dX4_isQuiet_12 : decode cX4_isQuiet 12 = .ok (.aload_n 0, 1) := by decide +kernel
theorem dX4_isQuiet_13 : decode cX4_isQuiet 13 = .ok (.getfield 24, 3) := by decide +kernel
theorem dX4_isQuiet_16 : decode cX4_isQuiet 16 = .ok (.iconst 0, 1) := by decide +kernel
theorem dX4_isQuiet_17 : decode cX4_isQuiet 17 = .ok (.aaload, 1) := by decide +kernel
theorem dX4_isQuiet_18 : decode cX4_isQuiet 18 = .ok (.aload_n 1, 1) := by decide +kernel
theorem dX4_isQuiet_19 : decode cX4_isQuiet 19 = .ok (.invokevirtual 47, 3) := by decide +kernel
theorem dX4_isQuiet_22 : decode cX4_isQuiet 22 = .ok (.invokevirtual 51, 3) := by decide +kernel
theorem dX4_isQuiet_25 : decode cX4_isQuiet 25 = .ok (.ireturn, 1) := by decide +kernel
theorem dX4_seek_0 : decode cX4_seek 0 = .ok (.aload_n 0, 1) := by decide +kernel
theorem dX4_seek_1 : decode cX4_seek 1 = .ok (.aload_n 1, 1) := by decide +kernel
theorem dX4_seek_2 : decode cX4_seek 2 = .ok (.invokevirtual 55, 3) := by decide +kernel
theorem dX4_seek_5 : decode cX4_seek 5 = .ok (.invokevirtual 58, 3) := by decide +kernel
theorem dX4_seek_8 : decode cX4_seek 8 = .ok (.aload_n 0, 1) := by decide +kernel
theorem dX4_seek_9 : decode cX4_seek 9 = .ok (.aload_n 1, 1) := by decide +kernel
theorem dX4_seek_10 : decode cX4_seek 10 = .ok (.iload_n 2, 1) := by decide +kernel
theorem dX4_seek_11 : decode cX4_seek 11 = .ok (.invokevirtual 62, 3) := by decide +kernel
theorem dX4_seek_14 : decode cX4_seek 14 = .ok (.putfield 66, 3) := by decide +kernel
theorem dX4_seek_17 : decode cX4_seek 17 = .ok (.aload_n 0, 1) := by decide +kernel
theorem dX4_seek_18 : decode cX4_seek 18 = .ok (.aload_n 1, 1) := by decide +kernel
theorem dX4_seek_19 : decode cX4_seek 19 = .ok (.invokevirtual 47, 3) := by decide +kernel
theorem dX4_seek_22 : decode cX4_seek 22 = .ok (.putfield 69, 3) := by decide +kernel
theorem dX4_seek_25 : decode cX4_seek 25 = .ok (.aload_n 1, 1) := by decide +kernel
theorem dX4_seek_26 : decode cX4_seek 26 = .ok (.iload_n 2, 1) := by decide +kernel
theorem dX4_seek_27 : decode cX4_seek 27 = .ok (.aload_n 0, 1) := by decide +kernel
theorem dX4_seek_28 : decode cX4_seek 28 = .ok (.getfield 24, 3) := by decide +kernel
theorem dX4_seek_31 : decode cX4_seek 31 = .ok (.iconst 0, 1) := by decide +kernel
theorem dX4_seek_32 : decode cX4_seek 32 = .ok (.aaload, 1) := by decide +kernel
theorem dX4_seek_33 : decode cX4_seek 33 = .ok (.invokevirtual 41, 3) := by decide +kernel
theorem dX4_seek_36 : decode cX4_seek 36 = .ok (.aload_n 0, 1) := by decide +kernel
theorem dX4_seek_37 : decode cX4_seek 37 = .ok (.iconst (-1), 1) := by decide +kernel
theorem dX4_seek_38 : decode cX4_seek 38 = .ok (.putfield 71, 3) := by decide +kernel
theorem dX4_seek_41 : decode cX4_seek 41 = .ok (.iconst 0, 1) := by decide +kernel
theorem dX4_seek_42 : decode cX4_seek 42 = .ok (.istore 4, 2) := by decide +kernel
theorem dX4_seek_44 : decode cX4_seek 44 = .ok (.iload 4, 2) := by decide +kernel
theorem dX4_seek_46 : decode cX4_seek 46 = .ok (.iload_n 3, 1) := by decide +kernel
theorem dX4_seek_47 : decode cX4_seek 47 = .ok (.if_icmp .gt 29, 3) := by decide +kernel
theorem dX4_seek_50 : decode cX4_seek 50 = .ok (.aload_n 0, 1) := by decide +kernel
theorem dX4_seek_51 : decode cX4_seek 51 = .ok (.getfield 71, 3) := by decide +kernel
theorem dX4_seek_54 : decode cX4_seek 54 = .ok (.iconst (-1), 1) := by decide +kernel
theorem dX4_seek_55 : decode cX4_seek 55 = .ok (.if_icmp .ne 21, 3) := by decide +kernel
theorem dX4_seek_58 : decode cX4_seek 58 = .ok (.aload_n 0, 1) := by decide +kernel
theorem dX4_seek_59 : decode cX4_seek 59 = .ok (.iload 4, 2) := by decide +kernel
theorem dX4_seek_61 : decode cX4_seek 61 = .ok (.putfield 74, 3) := by decide +kernel
theorem dX4_seek_64 : decode cX4_seek 64 = .ok (.aload_n 0, 1) := by decide +kernel
theorem dX4_seek_65 : decode cX4_seek 65 = .ok (.iconst 0, 1) := by decide +kernel
theorem dX4_seek_66 : decode cX4_seek 66 = .ok (.iconst 0, 1) := by decide +kernel
theorem dX4_seek_67 : decode cX4_seek 67 = .ok (.invokestatic 77, 3) := by decide +kernel
theorem dX4_seek_70 : decode cX4_seek 70 = .ok (.iinc 4 1, 3) := by decide +kernel
theorem dX4_seek_73 : decode cX4_seek 73 = .ok (.goto (-29), 3) := by decide +kernel
theorem dX4_seek_76 : decode cX4_seek 76 = .ok (.return_, 1) := by decide +kernel
theorem dX4_told_0 : decode cX4_told 0 = .ok (.iload_n 1, 1) := by decide +kernel
theorem dX4_told_1 : decode cX4_told 1 = .ok (.ifCond .ne 8, 3) := by decide +kernel
theorem dX4_told_4 : decode cX4_told 4 = .ok (.aload_n 0, 1) := by decide +kernel
theorem dX4_told_5 : decode cX4_told 5 = .ok (.getfield 71, 3) := by decide +kernel
theorem dX4_told_8 : decode cX4_told 8 = .ok (.ireturn, 1) := by decide +kernel
theorem dX4_told_9 : decode cX4_told 9 = .ok (.iconst 0, 1) := by decide +kernel
theorem dX4_told_10 : decode cX4_told 10 = .ok (.istore_n 2, 1) := by decide +kernel
theorem dX4_told_11 : decode cX4_told 11 = .ok (.iconst 0, 1) := by decide +kernel
theorem dX4_told_12 : decode cX4_told 12 = .ok (.istore_n 3, 1) := by decide +kernel
theorem dX4_told_13 : decode cX4_told 13 = .ok (.iconst 0, 1) := by decide +kernel
theorem dX4_told_14 : decode cX4_told 14 = .ok (.istore 4, 2) := by decide +kernel
theorem dX4_told_16 : decode cX4_told 16 = .ok (.iload 4, 2) := by decide +kernel
theorem dX4_told_18 : decode cX4_told 18 = .ok (.aload_n 0, 1) := by decide +kernel
theorem dX4_told_19 : decode cX4_told 19 = .ok (.getfield 71, 3) := by decide +kernel
theorem dX4_told_22 : decode cX4_told 22 = .ok (.if_icmp .ge 34, 3) := by decide +kernel
theorem dX4_told_25 : decode cX4_told 25 = .ok (.iload_n 2, 1) := by decide +kernel
theorem dX4_told_26 : decode cX4_told 26 = .ok (.iconst 1, 1) := by decide +kernel
theorem dX4_told_27 : decode cX4_told 27 = .ok (.aload_n 0, 1) := by decide +kernel
theorem dX4_told_28 : decode cX4_told 28 = .ok (.getfield 34, 3) := by decide +kernel
theorem dX4_told_31 : decode cX4_told 31 = .ok (.iload 4, 2) := by decide +kernel
theorem dX4_told_33 : decode cX4_told 33 = .ok (.iaload, 1) := by decide +kernel
theorem dX4_told_34 : decode cX4_told 34 = .ok (.ishl, 1) := by decide +kernel
theorem dX4_told_35 : decode cX4_told 35 = .ok (.ior, 1) := by decide +kernel
theorem dX4_told_36 : decode cX4_told 36 = .ok (.istore_n 2, 1) := by decide +kernel
theorem dX4_told_37 : decode cX4_told 37 = .ok (.bipush 10, 2) := by decide +kernel
theorem dX4_told_39 : decode cX4_told 39 = .ok (.iload_n 3, 1) := by decide +kernel
theorem dX4_told_40 : decode cX4_told 40 = .ok (.imul, 1) := by decide +kernel
theorem dX4_told_41 : decode cX4_told 41 = .ok (.aload_n 0, 1) := by decide +kernel
theorem dX4_told_42 : decode cX4_told 42 = .ok (.getfield 37, 3) := by decide +kernel
theorem dX4_told_45 : decode cX4_told 45 = .ok (.iload 4, 2) := by decide +kernel
theorem dX4_told_47 : decode cX4_told 47 = .ok (.iaload, 1) := by decide +kernel
theorem dX4_told_48 : decode cX4_told 48 = .ok (.iadd, 1) := by decide +kernel
theorem dX4_told_49 : decode cX4_told 49 = .ok (.istore_n 3, 1) := by decide +kernel
theorem dX4_told_50 : decode cX4_told 50 = .ok (.iinc 4 1, 3) := by decide +kernel
theorem dX4_told_53 : decode cX4_told 53 = .ok (.goto (-37), 3) := by decide +kernel
theorem dX4_told_56 : decode cX4_told 56 = .ok (.iload_n 1, 1) := by decide +kernel
theorem dX4_told_57 : decode cX4_told 57 = .ok (.iconst 1, 1) := by decide +kernel
theorem dX4_told_58 : decode cX4_told 58 = .ok (.if_icmp .ne 7, 3) := by decide +kernel
theorem dX4_told_61 : decode cX4_told 61 = .ok (.iload_n 2, 1) := by decide +kernel
theorem dX4_told_62 : decode cX4_told 62 = .ok (.goto 4, 3) := by decide +kernel
theorem dX4_told_65 : decode cX4_told 65 = .ok (.iload_n 3, 1) := by decide +kernel
theorem dX4_told_66 : decode cX4_told 66 = .ok (.ireturn, 1) := by decide +kernel
theorem dX4_angleOf_0 : decode cX4_angleOf 0 = .ok (.aload_n 0, 1) := by decide +kernel
theorem dX4_angleOf_1 : decode cX4_angleOf 1 = .ok (.getfield 34, 3) := by decide +kernel
theorem dX4_angleOf_4 : decode cX4_angleOf 4 = .ok (.iload_n 1, 1) := by decide +kernel
theorem dX4_angleOf_5 : decode cX4_angleOf 5 = .ok (.iaload, 1) := by decide +kernel
theorem dX4_angleOf_6 : decode cX4_angleOf 6 = .ok (.ireturn, 1) := by decide +kernel
theorem dX4_sizeOf_0 : decode cX4_sizeOf 0 = .ok (.aload_n 0, 1) := by decide +kernel
theorem dX4_sizeOf_1 : decode cX4_sizeOf 1 = .ok (.getfield 37, 3) := by decide +kernel
theorem dX4_sizeOf_4 : decode cX4_sizeOf 4 = .ok (.iload_n 1, 1) := by decide +kernel
theorem dX4_sizeOf_5 : decode cX4_sizeOf 5 = .ok (.iaload, 1) := by decide +kernel
theorem dX4_sizeOf_6 : decode cX4_sizeOf 6 = .ok (.ireturn, 1) := by decide +kernel
theorem dX4_listSizes_0 : decode cX4_listSizes 0 = .ok (.aload_n 0, 1) := by decide +kernel
theorem dX4_listSizes_1 : decode cX4_listSizes 1 = .ok (.iconst 0, 1) := by decide +kernel
theorem dX4_listSizes_2 : decode cX4_listSizes 2 = .ok (.putfield 81, 3) := by decide +kernel
theorem dX4_listSizes_5 : decode cX4_listSizes 5 = .ok (.iconst 1, 1) := by decide +kernel
theorem dX4_listSizes_6 : decode cX4_listSizes 6 = .ok (.istore_n 2, 1) := by decide +kernel
theorem dX4_listSizes_7 : decode cX4_listSizes 7 = .ok (.iload_n 2, 1) := by decide +kernel
theorem dX4_listSizes_8 : decode cX4_listSizes 8 = .ok (.bipush 9, 2) := by decide +kernel
theorem dX4_listSizes_10 : decode cX4_listSizes 10 = .ok (.if_icmp .gt 45, 3) := by decide +kernel
theorem dX4_listSizes_13 : decode cX4_listSizes 13 = .ok (.iload_n 1, 1) := by decide +kernel
theorem dX4_listSizes_14 : decode cX4_listSizes 14 = .ok (.iload_n 2, 1) := by decide +kernel
theorem dX4_listSizes_15 : decode cX4_listSizes 15 = .ok (.ishr, 1) := by decide +kernel
theorem dX4_listSizes_16 : decode cX4_listSizes 16 = .ok (.iconst 1, 1) := by decide +kernel
theorem dX4_listSizes_17 : decode cX4_listSizes 17 = .ok (.iand, 1) := by decide +kernel
theorem dX4_listSizes_18 : decode cX4_listSizes 18 = .ok (.ifCond .eq 31, 3) := by decide +kernel
theorem dX4_listSizes_21 : decode cX4_listSizes 21 = .ok (.aload_n 0, 1) := by decide +kernel
theorem dX4_listSizes_22 : decode cX4_listSizes 22 = .ok (.getfield 81, 3) := by decide +kernel
theorem dX4_listSizes_25 : decode cX4_listSizes 25 = .ok (.iconst 3, 1) := by decide +kernel
theorem dX4_listSizes_26 : decode cX4_listSizes 26 = .ok (.if_icmp .ge 23, 3) := by decide +kernel
theorem dX4_listSizes_29 : decode cX4_listSizes 29 = .ok (.aload_n 0, 1) := by decide +kernel
theorem dX4_listSizes_30 : decode cX4_listSizes 30 = .ok (.getfield 18, 3) := by decide +kernel
theorem dX4_listSizes_33 : decode cX4_listSizes 33 = .ok (.aload_n 0, 1) := by decide +kernel
theorem dX4_listSizes_34 : decode cX4_listSizes 34 = .ok (.getfield 81, 3) := by decide +kernel
theorem dX4_listSizes_37 : decode cX4_listSizes 37 = .ok (.iload_n 2, 1) := by decide +kernel
theorem dX4_listSizes_38 : decode cX4_listSizes 38 = .ok (.iastore, 1) := by decide +kernel
theorem dX4_listSizes_39 : decode cX4_listSizes 39 = .ok (.aload_n 0, 1) := by decide +kernel
theorem dX4_listSizes_40 : decode cX4_listSizes 40 = .ok (.dup, 1) := by decide +kernel
theorem dX4_listSizes_41 : decode cX4_listSizes 41 = .ok (.getfield 81, 3) := by decide +kernel
theorem dX4_listSizes_44 : decode cX4_listSizes 44 = .ok (.iconst 1, 1) := by decide +kernel
theorem dX4_listSizes_45 : decode cX4_listSizes 45 = .ok (.iadd, 1) := by decide +kernel
theorem dX4_listSizes_46 : decode cX4_listSizes 46 = .ok (.putfield 81, 3) := by decide +kernel
theorem dX4_listSizes_49 : decode cX4_listSizes 49 = .ok (.iinc 2 1, 3) := by decide +kernel
theorem dX4_listSizes_52 : decode cX4_listSizes 52 = .ok (.goto (-45), 3) := by decide +kernel
theorem dX4_listSizes_55 : decode cX4_listSizes 55 = .ok (.return_, 1) := by decide +kernel
theorem dX4_extend_0 : decode cX4_extend 0 = .ok (.aload_n 0, 1) := by decide +kernel
theorem dX4_extend_1 : decode cX4_extend 1 = .ok (.getfield 74, 3) := by decide +kernel
theorem dX4_extend_4 : decode cX4_extend 4 = .ok (.iload_n 1, 1) := by decide +kernel
theorem dX4_extend_5 : decode cX4_extend 5 = .ok (.isub, 1) := by decide +kernel
theorem dX4_extend_6 : decode cX4_extend 6 = .ok (.istore_n 3, 1) := by decide +kernel
theorem dX4_extend_7 : decode cX4_extend 7 = .ok (.iload_n 1, 1) := by decide +kernel
theorem dX4_extend_8 : decode cX4_extend 8 = .ok (.iconst 4, 1) := by decide +kernel
theorem dX4_extend_9 : decode cX4_extend 9 = .ok (.if_icmp .gt 27, 3) := by decide +kernel
theorem dX4_extend_12 : decode cX4_extend 12 = .ok (.aload_n 0, 1) := by decide +kernel
theorem dX4_extend_13 : decode cX4_extend 13 = .ok (.aload_n 0, 1) := by decide +kernel
theorem dX4_extend_14 : decode cX4_extend 14 = .ok (.getfield 24, 3) := by decide +kernel
theorem dX4_extend_17 : decode cX4_extend 17 = .ok (.iload_n 1, 1) := by decide +kernel
theorem dX4_extend_18 : decode cX4_extend 18 = .ok (.aaload, 1) := by decide +kernel
theorem dX4_extend_19 : decode cX4_extend 19 = .ok (.aload_n 0, 1) := by decide +kernel
theorem dX4_extend_20 : decode cX4_extend 20 = .ok (.getfield 69, 3) := by decide +kernel
theorem dX4_extend_23 : decode cX4_extend 23 = .ok (.iload_n 3, 1) := by decide +kernel
theorem dX4_extend_24 : decode cX4_extend 24 = .ok (.aload_n 0, 1) := by decide +kernel
theorem dX4_extend_25 : decode cX4_extend 25 = .ok (.invokevirtual 84, 3) := by decide +kernel
theorem dX4_extend_28 : decode cX4_extend 28 = .ok (.imul, 1) := by decide +kernel
theorem dX4_extend_29 : decode cX4_extend 29 = .ok (.iadd, 1) := by decide +kernel
theorem dX4_extend_30 : decode cX4_extend 30 = .ok (.invokevirtual 51, 3) := by decide +kernel
theorem dX4_extend_33 : decode cX4_extend 33 = .ok (.ifCond .ne 4, 3) := by decide +kernel
theorem dX4_extend_36 : decode cX4_extend 36 = .ok (.return_, 1) := by decide +kernel
theorem dX4_extend_37 : decode cX4_extend 37 = .ok (.iload_n 3, 1) := by decide +kernel
theorem dX4_extend_38 : decode cX4_extend 38 = .ok (.ifCond .gt 8, 3) := by decide +kernel
theorem dX4_extend_41 : decode cX4_extend 41 = .ok (.aload_n 0, 1) := by decide +kernel
theorem dX4_extend_42 : decode cX4_extend 42 = .ok (.invokevirtual 87, 3) := by decide +kernel
theorem dX4_extend_45 : decode cX4_extend 45 = .ok (.return_, 1) := by decide +kernel
theorem dX4_extend_46 : decode cX4_extend 46 = .ok (.iload_n 2, 1) := by decide +kernel
theorem dX4_extend_47 : decode cX4_extend 47 = .ok (.istore 4, 2) := by decide +kernel
theorem dX4_extend_49 : decode cX4_extend 49 = .ok (.iload 4, 2) := by decide +kernel
theorem dX4_extend_51 : decode cX4_extend 51 = .ok (.bipush 12, 2) := by decide +kernel
theorem dX4_extend_53 : decode cX4_extend 53 = .ok (.iload_n 3, 1) := by decide +kernel
theorem dX4_extend_54 : decode cX4_extend 54 = .ok (.isub, 1) := by decide +kernel
theorem dX4_extend_55 : decode cX4_extend 55 = .ok (.if_icmp .gt 64, 3) := by decide +kernel
theorem dX4_extend_58 : decode cX4_extend 58 = .ok (.iconst 0, 1) := by decide +kernel
theorem dX4_extend_59 : decode cX4_extend 59 = .ok (.istore 5, 2) := by decide +kernel
theorem dX4_extend_61 : decode cX4_extend 61 = .ok (.iload 5, 2) := by decide +kernel
theorem dX4_extend_63 : decode cX4_extend 63 = .ok (.aload_n 0, 1) := by decide +kernel
theorem dX4_extend_64 : decode cX4_extend 64 = .ok (.getfield 81, 3) := by decide +kernel
theorem dX4_extend_67 : decode cX4_extend 67 = .ok (.if_icmp .ge 46, 3) := by decide +kernel
theorem dX4_extend_70 : decode cX4_extend 70 = .ok (.aload_n 0, 1) := by decide +kernel
theorem dX4_extend_71 : decode cX4_extend 71 = .ok (.getfield 66, 3) := by decide +kernel
theorem dX4_extend_74 : decode cX4_extend 74 = .ok (.iload 4, 2) := by decide +kernel
theorem dX4_extend_76 : decode cX4_extend 76 = .ok (.ishr, 1) := by decide +kernel
theorem dX4_extend_77 : decode cX4_extend 77 = .ok (.iconst 1, 1) := by decide +kernel
theorem dX4_extend_78 : decode cX4_extend 78 = .ok (.iand, 1) := by decide +kernel
theorem dX4_extend_79 : decode cX4_extend 79 = .ok (.ifCond .eq 34, 3) := by decide +kernel
theorem dX4_extend_82 : decode cX4_extend 82 = .ok (.aload_n 0, 1) := by decide +kernel
theorem dX4_extend_83 : decode cX4_extend 83 = .ok (.iload_n 1, 1) := by decide +kernel
theorem dX4_extend_84 : decode cX4_extend 84 = .ok (.iload 4, 2) := by decide +kernel
theorem dX4_extend_86 : decode cX4_extend 86 = .ok (.aload_n 0, 1) := by decide +kernel
theorem dX4_extend_87 : decode cX4_extend 87 = .ok (.getfield 18, 3) := by decide +kernel
theorem dX4_extend_90 : decode cX4_extend 90 = .ok (.iload 5, 2) := by decide +kernel
theorem dX4_extend_92 : decode cX4_extend 92 = .ok (.iaload, 1) := by decide +kernel
theorem dX4_extend_93 : decode cX4_extend 93 = .ok (.invokevirtual 90, 3) := by decide +kernel
theorem dX4_extend_96 : decode cX4_extend 96 = .ok (.aload_n 0, 1) := by decide +kernel
theorem dX4_extend_97 : decode cX4_extend 97 = .ok (.iload_n 1, 1) := by decide +kernel
theorem dX4_extend_98 : decode cX4_extend 98 = .ok (.iconst 1, 1) := by decide +kernel
theorem dX4_extend_99 : decode cX4_extend 99 = .ok (.iadd, 1) := by decide +kernel
theorem dX4_extend_100 : decode cX4_extend 100 = .ok (.iload 4, 2) := by decide +kernel
theorem dX4_extend_102 : decode cX4_extend 102 = .ok (.iconst 1, 1) := by decide +kernel
theorem dX4_extend_103 : decode cX4_extend 103 = .ok (.iadd, 1) := by decide +kernel
theorem dX4_extend_104 : decode cX4_extend 104 = .ok (.invokestatic 77, 3) := by decide +kernel
theorem dX4_extend_107 : decode cX4_extend 107 = .ok (.iinc 5 1, 3) := by decide +kernel
theorem dX4_extend_110 : decode cX4_extend 110 = .ok (.goto (-49), 3) := by decide +kernel
theorem dX4_extend_113 : decode cX4_extend 113 = .ok (.iinc 4 1, 3) := by decide +kernel
theorem dX4_extend_116 : decode cX4_extend 116 = .ok (.goto (-67), 3) := by decide +kernel
theorem dX4_extend_119 : decode cX4_extend 119 = .ok (.return_, 1) := by decide +kernel
theorem dX4_mostSize_0 : decode cX4_mostSize 0 = .ok (.aload_n 0, 1) := by decide +kernel
theorem dX4_mostSize_1 : decode cX4_mostSize 1 = .ok (.getfield 81, 3) := by decide +kernel
theorem dX4_mostSize_4 : decode cX4_mostSize 4 = .ok (.ifCond .le 17, 3) := by decide +kernel
theorem dX4_mostSize_7 : decode cX4_mostSize 7 = .ok (.aload_n 0, 1) := by decide +kernel
theorem dX4_mostSize_8 : decode cX4_mostSize 8 = .ok (.getfield 18, 3) := by decide +kernel
theorem dX4_mostSize_11 : decode cX4_mostSize 11 = .ok (.aload_n 0, 1) := by decide +kernel
theorem dX4_mostSize_12 : decode cX4_mostSize 12 = .ok (.getfield 81, 3) := by decide +kernel
theorem dX4_mostSize_15 : decode cX4_mostSize 15 = .ok (.iconst 1, 1) := by decide +kernel
theorem dX4_mostSize_16 : decode cX4_mostSize 16 = .ok (.isub, 1) := by decide +kernel
theorem dX4_mostSize_17 : decode cX4_mostSize 17 = .ok (.iaload, 1) := by decide +kernel
theorem dX4_mostSize_18 : decode cX4_mostSize 18 = .ok (.goto 4, 3) := by decide +kernel
theorem dX4_mostSize_21 : decode cX4_mostSize 21 = .ok (.iconst 0, 1) := by decide +kernel
theorem dX4_mostSize_22 : decode cX4_mostSize 22 = .ok (.ireturn, 1) := by decide +kernel
theorem dX4_choose_0 : decode cX4_choose 0 = .ok (.aload_n 0, 1) := by decide +kernel
theorem dX4_choose_1 : decode cX4_choose 1 = .ok (.getfield 28, 3) := by decide +kernel
theorem dX4_choose_4 : decode cX4_choose 4 = .ok (.iload_n 1, 1) := by decide +kernel
theorem dX4_choose_5 : decode cX4_choose 5 = .ok (.iload_n 2, 1) := by decide +kernel
theorem dX4_choose_6 : decode cX4_choose 6 = .ok (.iastore, 1) := by decide +kernel
theorem dX4_choose_7 : decode cX4_choose 7 = .ok (.aload_n 0, 1) := by decide +kernel
theorem dX4_choose_8 : decode cX4_choose 8 = .ok (.getfield 31, 3) := by decide +kernel
theorem dX4_choose_11 : decode cX4_choose 11 = .ok (.iload_n 1, 1) := by decide +kernel
theorem dX4_choose_12 : decode cX4_choose 12 = .ok (.iload_n 3, 1) := by decide +kernel
theorem dX4_choose_13 : decode cX4_choose 13 = .ok (.iastore, 1) := by decide +kernel
theorem dX4_choose_14 : decode cX4_choose 14 = .ok (.aload_n 0, 1) := by decide +kernel
