theorem dX8_product_285 : decode cX8_product 285 = .ok (.invokevirtual 134, 3) := by decide +kernel
theorem dX8_product_288 : decode cX8_product 288 = .ok (.return_, 1) := by decide +kernel
theorem dX8_mirror_0 : decode cX8_mirror 0 = .ok (.aload_n 0, 1) := by decide +kernel
theorem dX8_mirror_1 : decode cX8_mirror 1 = .ok (.aload_n 0, 1) := by decide +kernel
theorem dX8_mirror_2 : decode cX8_mirror 2 = .ok (.iload_n 2, 1) := by decide +kernel
theorem dX8_mirror_3 : decode cX8_mirror 3 = .ok (.iconst 2, 1) := by decide +kernel
theorem dX8_mirror_4 : decode cX8_mirror 4 = .ok (.invokevirtual 120, 3) := by decide +kernel
theorem dX8_mirror_7 : decode cX8_mirror 7 = .ok (.invokevirtual 141, 3) := by decide +kernel
theorem dX8_mirror_10 : decode cX8_mirror 10 = .ok (.lstore 5, 2) := by decide +kernel
theorem dX8_mirror_12 : decode cX8_mirror 12 = .ok (.aload_n 0, 1) := by decide +kernel
theorem dX8_mirror_13 : decode cX8_mirror 13 = .ok (.aload_n 0, 1) := by decide +kernel
theorem dX8_mirror_14 : decode cX8_mirror 14 = .ok (.iload_n 2, 1) := by decide +kernel
theorem dX8_mirror_15 : decode cX8_mirror 15 = .ok (.iconst 3, 1) := by decide +kernel
theorem dX8_mirror_16 : decode cX8_mirror 16 = .ok (.invokevirtual 120, 3) := by decide +kernel
theorem dX8_mirror_19 : decode cX8_mirror 19 = .ok (.invokevirtual 141, 3) := by decide +kernel
theorem dX8_mirror_22 : decode cX8_mirror 22 = .ok (.lstore 7, 2) := by decide +kernel
theorem dX8_mirror_24 : decode cX8_mirror 24 = .ok (.aload_n 0, 1) := by decide +kernel
theorem dX8_mirror_25 : decode cX8_mirror 25 = .ok (.getfield 105, 3) := by decide +kernel
theorem dX8_mirror_28 : decode cX8_mirror 28 = .ok (.ifCond .ne 25, 3) := by decide +kernel
theorem dX8_mirror_31 : decode cX8_mirror 31 = .ok (.aload_n 0, 1) := by decide +kernel
theorem dX8_mirror_32 : decode cX8_mirror 32 = .ok (.iload_n 1, 1) := by decide +kernel
theorem dX8_mirror_33 : decode cX8_mirror 33 = .ok (.aload_n 0, 1) := by decide +kernel
theorem dX8_mirror_34 : decode cX8_mirror 34 = .ok (.iload_n 2, 1) := by decide +kernel
theorem dX8_mirror_35 : decode cX8_mirror 35 = .ok (.iconst 0, 1) := by decide +kernel
theorem dX8_mirror_36 : decode cX8_mirror 36 = .ok (.invokevirtual 120, 3) := by decide +kernel
theorem dX8_mirror_39 : decode cX8_mirror 39 = .ok (.aload_n 0, 1) := by decide +kernel
theorem dX8_mirror_40 : decode cX8_mirror 40 = .ok (.iload_n 2, 1) := by decide +kernel
theorem dX8_mirror_41 : decode cX8_mirror 41 = .ok (.iconst 1, 1) := by decide +kernel
theorem dX8_mirror_42 : decode cX8_mirror 42 = .ok (.invokevirtual 120, 3) := by decide +kernel
theorem dX8_mirror_45 : decode cX8_mirror 45 = .ok (.lload 5, 2) := by decide +kernel
theorem dX8_mirror_47 : decode cX8_mirror 47 = .ok (.lload 7, 2) := by decide +kernel
theorem dX8_mirror_49 : decode cX8_mirror 49 = .ok (.lload_n 3, 1) := by decide +kernel
theorem dX8_mirror_50 : decode cX8_mirror 50 = .ok (.invokevirtual 134, 3) := by decide +kernel
theorem dX8_mirror_53 : decode cX8_mirror 53 = .ok (.return_, 1) := by decide +kernel
theorem dX8_reciprocal_0 : decode cX8_reciprocal 0 = .ok (.aload_n 0, 1) := by decide +kernel
theorem dX8_reciprocal_1 : decode cX8_reciprocal 1 = .ok (.iload_n 2, 1) := by decide +kernel
theorem dX8_reciprocal_2 : decode cX8_reciprocal 2 = .ok (.iconst 4, 1) := by decide +kernel
theorem dX8_reciprocal_3 : decode cX8_reciprocal 3 = .ok (.invokevirtual 120, 3) := by decide +kernel
theorem dX8_reciprocal_6 : decode cX8_reciprocal 6 = .ok (.lstore_n 3, 1) := by decide +kernel
theorem dX8_reciprocal_7 : decode cX8_reciprocal 7 = .ok (.aload_n 0, 1) := by decide +kernel
theorem dX8_reciprocal_8 : decode cX8_reciprocal 8 = .ok (.bipush 30, 2) := by decide +kernel
theorem dX8_reciprocal_10 : decode cX8_reciprocal 10 = .ok (.aload_n 0, 1) := by decide +kernel
theorem dX8_reciprocal_11 : decode cX8_reciprocal 11 = .ok (.iload_n 2, 1) := by decide +kernel
theorem dX8_reciprocal_12 : decode cX8_reciprocal 12 = .ok (.iconst 0, 1) := by decide +kernel
theorem dX8_reciprocal_13 : decode cX8_reciprocal 13 = .ok (.invokevirtual 120, 3) := by decide +kernel
theorem dX8_reciprocal_16 : decode cX8_reciprocal 16 = .ok (.aload_n 0, 1) := by decide +kernel
theorem dX8_reciprocal_17 : decode cX8_reciprocal 17 = .ok (.iload_n 2, 1) := by decide +kernel
theorem dX8_reciprocal_18 : decode cX8_reciprocal 18 = .ok (.iconst 1, 1) := by decide +kernel
theorem dX8_reciprocal_19 : decode cX8_reciprocal 19 = .ok (.invokevirtual 120, 3) := by decide +kernel
theorem dX8_reciprocal_22 : decode cX8_reciprocal 22 = .ok (.aload_n 0, 1) := by decide +kernel
theorem dX8_reciprocal_23 : decode cX8_reciprocal 23 = .ok (.iload_n 2, 1) := by decide +kernel
theorem dX8_reciprocal_24 : decode cX8_reciprocal 24 = .ok (.iconst 2, 1) := by decide +kernel
theorem dX8_reciprocal_25 : decode cX8_reciprocal 25 = .ok (.invokevirtual 120, 3) := by decide +kernel
theorem dX8_reciprocal_28 : decode cX8_reciprocal 28 = .ok (.aload_n 0, 1) := by decide +kernel
theorem dX8_reciprocal_29 : decode cX8_reciprocal 29 = .ok (.iload_n 2, 1) := by decide +kernel
theorem dX8_reciprocal_30 : decode cX8_reciprocal 30 = .ok (.iconst 3, 1) := by decide +kernel
theorem dX8_reciprocal_31 : decode cX8_reciprocal 31 = .ok (.invokevirtual 120, 3) := by decide +kernel
theorem dX8_reciprocal_34 : decode cX8_reciprocal 34 = .ok (.lconst 1, 1) := by decide +kernel
theorem dX8_reciprocal_35 : decode cX8_reciprocal 35 = .ok (.invokevirtual 134, 3) := by decide +kernel
theorem dX8_reciprocal_38 : decode cX8_reciprocal 38 = .ok (.aload_n 0, 1) := by decide +kernel
theorem dX8_reciprocal_39 : decode cX8_reciprocal 39 = .ok (.bipush 31, 2) := by decide +kernel
theorem dX8_reciprocal_41 : decode cX8_reciprocal 41 = .ok (.iload_n 2, 1) := by decide +kernel
theorem dX8_reciprocal_42 : decode cX8_reciprocal 42 = .ok (.lconst 1, 1) := by decide +kernel
theorem dX8_reciprocal_43 : decode cX8_reciprocal 43 = .ok (.invokevirtual 144, 3) := by decide +kernel
theorem dX8_reciprocal_46 : decode cX8_reciprocal 46 = .ok (.aload_n 0, 1) := by decide +kernel
theorem dX8_reciprocal_47 : decode cX8_reciprocal 47 = .ok (.getfield 105, 3) := by decide +kernel
theorem dX8_reciprocal_50 : decode cX8_reciprocal 50 = .ok (.ifCond .ne 13, 3) := by decide +kernel
theorem dX8_reciprocal_53 : decode cX8_reciprocal 53 = .ok (.aload_n 0, 1) := by decide +kernel
theorem dX8_reciprocal_54 : decode cX8_reciprocal 54 = .ok (.bipush 32, 2) := by decide +kernel
theorem dX8_reciprocal_56 : decode cX8_reciprocal 56 = .ok (.bipush 30, 2) := by decide +kernel
theorem dX8_reciprocal_58 : decode cX8_reciprocal 58 = .ok (.bipush 31, 2) := by decide +kernel
theorem dX8_reciprocal_60 : decode cX8_reciprocal 60 = .ok (.invokevirtual 148, 3) := by decide +kernel
theorem dX8_reciprocal_63 : decode cX8_reciprocal 63 = .ok (.aload_n 0, 1) := by decide +kernel
theorem dX8_reciprocal_64 : decode cX8_reciprocal 64 = .ok (.getfield 105, 3) := by decide +kernel
theorem dX8_reciprocal_67 : decode cX8_reciprocal 67 = .ok (.ifCond .eq 4, 3) := by decide +kernel
theorem dX8_reciprocal_70 : decode cX8_reciprocal 70 = .ok (.return_, 1) := by decide +kernel
theorem dX8_reciprocal_71 : decode cX8_reciprocal 71 = .ok (.aload_n 0, 1) := by decide +kernel
theorem dX8_reciprocal_72 : decode cX8_reciprocal 72 = .ok (.bipush 32, 2) := by decide +kernel
theorem dX8_reciprocal_74 : decode cX8_reciprocal 74 = .ok (.iconst 0, 1) := by decide +kernel
theorem dX8_reciprocal_75 : decode cX8_reciprocal 75 = .ok (.invokevirtual 120, 3) := by decide +kernel
theorem dX8_reciprocal_78 : decode cX8_reciprocal 78 = .ok (.lstore 5, 2) := by decide +kernel
theorem dX8_reciprocal_80 : decode cX8_reciprocal 80 = .ok (.aload_n 0, 1) := by decide +kernel
theorem dX8_reciprocal_81 : decode cX8_reciprocal 81 = .ok (.bipush 32, 2) := by decide +kernel
theorem dX8_reciprocal_83 : decode cX8_reciprocal 83 = .ok (.iconst 1, 1) := by decide +kernel
theorem dX8_reciprocal_84 : decode cX8_reciprocal 84 = .ok (.invokevirtual 120, 3) := by decide +kernel
theorem dX8_reciprocal_87 : decode cX8_reciprocal 87 = .ok (.lstore 7, 2) := by decide +kernel
theorem dX8_reciprocal_89 : decode cX8_reciprocal 89 = .ok (.aload_n 0, 1) := by decide +kernel
theorem dX8_reciprocal_90 : decode cX8_reciprocal 90 = .ok (.aload_n 0, 1) := by decide +kernel
theorem dX8_reciprocal_91 : decode cX8_reciprocal 91 = .ok (.lload 5, 2) := by decide +kernel
theorem dX8_reciprocal_93 : decode cX8_reciprocal 93 = .ok (.lload 5, 2) := by decide +kernel
theorem dX8_reciprocal_95 : decode cX8_reciprocal 95 = .ok (.invokevirtual 124, 3) := by decide +kernel
theorem dX8_reciprocal_98 : decode cX8_reciprocal 98 = .ok (.aload_n 0, 1) := by decide +kernel
theorem dX8_reciprocal_99 : decode cX8_reciprocal 99 = .ok (.lload 7, 2) := by decide +kernel
theorem dX8_reciprocal_101 : decode cX8_reciprocal 101 = .ok (.lload 7, 2) := by decide +kernel
theorem dX8_reciprocal_103 : decode cX8_reciprocal 103 = .ok (.invokevirtual 138, 3) := by decide +kernel
theorem dX8_reciprocal_106 : decode cX8_reciprocal 106 = .ok (.invokevirtual 109, 3) := by decide +kernel
theorem dX8_reciprocal_109 : decode cX8_reciprocal 109 = .ok (.lstore 9, 2) := by decide +kernel
theorem dX8_reciprocal_111 : decode cX8_reciprocal 111 = .ok (.aload_n 0, 1) := by decide +kernel
theorem dX8_reciprocal_112 : decode cX8_reciprocal 112 = .ok (.lload 7, 2) := by decide +kernel
theorem dX8_reciprocal_114 : decode cX8_reciprocal 114 = .ok (.invokevirtual 141, 3) := by decide +kernel
theorem dX8_reciprocal_117 : decode cX8_reciprocal 117 = .ok (.lstore 11, 2) := by decide +kernel
theorem dX8_reciprocal_119 : decode cX8_reciprocal 119 = .ok (.aload_n 0, 1) := by decide +kernel
theorem dX8_reciprocal_120 : decode cX8_reciprocal 120 = .ok (.getfield 105, 3) := by decide +kernel
theorem dX8_reciprocal_123 : decode cX8_reciprocal 123 = .ok (.ifCond .eq 4, 3) := by decide +kernel
theorem dX8_reciprocal_126 : decode cX8_reciprocal 126 = .ok (.return_, 1) := by decide +kernel
theorem dX8_reciprocal_127 : decode cX8_reciprocal 127 = .ok (.aload_n 0, 1) := by decide +kernel
theorem dX8_reciprocal_128 : decode cX8_reciprocal 128 = .ok (.bipush 33, 2) := by decide +kernel
theorem dX8_reciprocal_130 : decode cX8_reciprocal 130 = .ok (.lload 5, 2) := by decide +kernel
theorem dX8_reciprocal_132 : decode cX8_reciprocal 132 = .ok (.lload 11, 2) := by decide +kernel
theorem dX8_reciprocal_134 : decode cX8_reciprocal 134 = .ok (.lconst 0, 1) := by decide +kernel
theorem dX8_reciprocal_135 : decode cX8_reciprocal 135 = .ok (.lconst 0, 1) := by decide +kernel
theorem dX8_reciprocal_136 : decode cX8_reciprocal 136 = .ok (.lconst 1, 1) := by decide +kernel
theorem dX8_reciprocal_137 : decode cX8_reciprocal 137 = .ok (.invokevirtual 134, 3) := by decide +kernel
theorem dX8_reciprocal_140 : decode cX8_reciprocal 140 = .ok (.aload_n 0, 1) := by decide +kernel
theorem dX8_reciprocal_141 : decode cX8_reciprocal 141 = .ok (.bipush 34, 2) := by decide +kernel
theorem dX8_reciprocal_143 : decode cX8_reciprocal 143 = .ok (.bipush 31, 2) := by decide +kernel
theorem dX8_reciprocal_145 : decode cX8_reciprocal 145 = .ok (.bipush 33, 2) := by decide +kernel
theorem dX8_reciprocal_147 : decode cX8_reciprocal 147 = .ok (.invokevirtual 148, 3) := by decide +kernel
theorem dX8_reciprocal_150 : decode cX8_reciprocal 150 = .ok (.aload_n 0, 1) := by decide +kernel
theorem dX8_reciprocal_151 : decode cX8_reciprocal 151 = .ok (.bipush 35, 2) := by decide +kernel
theorem dX8_reciprocal_153 : decode cX8_reciprocal 153 = .ok (.lload_n 3, 1) := by decide +kernel
theorem dX8_reciprocal_154 : decode cX8_reciprocal 154 = .ok (.lconst 0, 1) := by decide +kernel
theorem dX8_reciprocal_155 : decode cX8_reciprocal 155 = .ok (.lconst 0, 1) := by decide +kernel
theorem dX8_reciprocal_156 : decode cX8_reciprocal 156 = .ok (.lconst 0, 1) := by decide +kernel
theorem dX8_reciprocal_157 : decode cX8_reciprocal 157 = .ok (.lconst 1, 1) := by decide +kernel
theorem dX8_reciprocal_158 : decode cX8_reciprocal 158 = .ok (.invokevirtual 134, 3) := by decide +kernel
theorem dX8_reciprocal_161 : decode cX8_reciprocal 161 = .ok (.aload_n 0, 1) := by decide +kernel
theorem dX8_reciprocal_162 : decode cX8_reciprocal 162 = .ok (.getfield 105, 3) := by decide +kernel
theorem dX8_reciprocal_165 : decode cX8_reciprocal 165 = .ok (.ifCond .ne 13, 3) := by decide +kernel
theorem dX8_reciprocal_168 : decode cX8_reciprocal 168 = .ok (.aload_n 0, 1) := by decide +kernel
theorem dX8_reciprocal_169 : decode cX8_reciprocal 169 = .ok (.bipush 36, 2) := by decide +kernel
theorem dX8_reciprocal_171 : decode cX8_reciprocal 171 = .ok (.bipush 34, 2) := by decide +kernel
theorem dX8_reciprocal_173 : decode cX8_reciprocal 173 = .ok (.bipush 35, 2) := by decide +kernel
theorem dX8_reciprocal_175 : decode cX8_reciprocal 175 = .ok (.invokevirtual 148, 3) := by decide +kernel
theorem dX8_reciprocal_178 : decode cX8_reciprocal 178 = .ok (.aload_n 0, 1) := by decide +kernel
theorem dX8_reciprocal_179 : decode cX8_reciprocal 179 = .ok (.getfield 105, 3) := by decide +kernel
theorem dX8_reciprocal_182 : decode cX8_reciprocal 182 = .ok (.ifCond .ne 10, 3) := by decide +kernel
theorem dX8_reciprocal_185 : decode cX8_reciprocal 185 = .ok (.aload_n 0, 1) := by decide +kernel
theorem dX8_reciprocal_186 : decode cX8_reciprocal 186 = .ok (.iload_n 1, 1) := by decide +kernel
theorem dX8_reciprocal_187 : decode cX8_reciprocal 187 = .ok (.lload 9, 2) := by decide +kernel
theorem dX8_reciprocal_189 : decode cX8_reciprocal 189 = .ok (.invokevirtual 152, 3) := by decide +kernel
theorem dX8_reciprocal_192 : decode cX8_reciprocal 192 = .ok (.return_, 1) := by decide +kernel
theorem dX8_divides_0 : decode cX8_divides 0 = .ok (.aload_n 0, 1) := by decide +kernel
theorem dX8_divides_1 : decode cX8_divides 1 = .ok (.bipush 36, 2) := by decide +kernel
theorem dX8_divides_3 : decode cX8_divides 3 = .ok (.iconst 0, 1) := by decide +kernel
theorem dX8_divides_4 : decode cX8_divides 4 = .ok (.invokevirtual 120, 3) := by decide +kernel
theorem dX8_divides_7 : decode cX8_divides 7 = .ok (.lstore 4, 2) := by decide +kernel
theorem dX8_divides_9 : decode cX8_divides 9 = .ok (.aload_n 0, 1) := by decide +kernel
theorem dX8_divides_10 : decode cX8_divides 10 = .ok (.bipush 36, 2) := by decide +kernel
theorem dX8_divides_12 : decode cX8_divides 12 = .ok (.iconst 1, 1) := by decide +kernel
theorem dX8_divides_13 : decode cX8_divides 13 = .ok (.invokevirtual 120, 3) := by decide +kernel
theorem dX8_divides_16 : decode cX8_divides 16 = .ok (.lstore 6, 2) := by decide +kernel
theorem dX8_divides_18 : decode cX8_divides 18 = .ok (.aload_n 0, 1) := by decide +kernel
theorem dX8_divides_19 : decode cX8_divides 19 = .ok (.bipush 36, 2) := by decide +kernel
theorem dX8_divides_21 : decode cX8_divides 21 = .ok (.iconst 2, 1) := by decide +kernel
theorem dX8_divides_22 : decode cX8_divides 22 = .ok (.invokevirtual 120, 3) := by decide +kernel
theorem dX8_divides_25 : decode cX8_divides 25 = .ok (.lstore 8, 2) := by decide +kernel
theorem dX8_divides_27 : decode cX8_divides 27 = .ok (.aload_n 0, 1) := by decide +kernel
theorem dX8_divides_28 : decode cX8_divides 28 = .ok (.bipush 36, 2) := by decide +kernel
theorem dX8_divides_30 : decode cX8_divides 30 = .ok (.iconst 3, 1) := by decide +kernel
theorem dX8_divides_31 : decode cX8_divides 31 = .ok (.invokevirtual 120, 3) := by decide +kernel
theorem dX8_divides_34 : decode cX8_divides 34 = .ok (.lstore 10, 2) := by decide +kernel
theorem dX8_divides_36 : decode cX8_divides 36 = .ok (.lload_n 2, 1) := by decide +kernel
theorem dX8_divides_37 : decode cX8_divides 37 = .ok (.lconst 0, 1) := by decide +kernel
theorem dX8_divides_38 : decode cX8_divides 38 = .ok (.lcmp, 1) := by decide +kernel
theorem dX8_divides_39 : decode cX8_divides 39 = .ok (.ifCond .ge 35, 3) := by decide +kernel
theorem dX8_divides_42 : decode cX8_divides 42 = .ok (.aload_n 0, 1) := by decide +kernel
theorem dX8_divides_43 : decode cX8_divides 43 = .ok (.lload 4, 2) := by decide +kernel
theorem dX8_divides_45 : decode cX8_divides 45 = .ok (.invokevirtual 141, 3) := by decide +kernel
theorem dX8_divides_48 : decode cX8_divides 48 = .ok (.lstore 4, 2) := by decide +kernel
theorem dX8_divides_50 : decode cX8_divides 50 = .ok (.aload_n 0, 1) := by decide +kernel
theorem dX8_divides_51 : decode cX8_divides 51 = .ok (.lload 6, 2) := by decide +kernel
theorem dX8_divides_53 : decode cX8_divides 53 = .ok (.invokevirtual 141, 3) := by decide +kernel
theorem dX8_divides_56 : decode cX8_divides 56 = .ok (.lstore 6, 2) := by decide +kernel
theorem dX8_divides_58 : decode cX8_divides 58 = .ok (.aload_n 0, 1) := by decide +kernel
theorem dX8_divides_59 : decode cX8_divides 59 = .ok (.lload 8, 2) := by decide +kernel
theorem dX8_divides_61 : decode cX8_divides 61 = .ok (.invokevirtual 141, 3) := by decide +kernel
theorem dX8_divides_64 : decode cX8_divides 64 = .ok (.lstore 8, 2) := by decide +kernel
theorem dX8_divides_66 : decode cX8_divides 66 = .ok (.aload_n 0, 1) := by decide +kernel
theorem dX8_divides_67 : decode cX8_divides 67 = .ok (.lload 10, 2) := by decide +kernel
theorem dX8_divides_69 : decode cX8_divides 69 = .ok (.invokevirtual 141, 3) := by decide +kernel
theorem dX8_divides_72 : decode cX8_divides 72 = .ok (.lstore 10, 2) := by decide +kernel
theorem dX8_divides_74 : decode cX8_divides 74 = .ok (.lload_n 2, 1) := by decide +kernel
theorem dX8_divides_75 : decode cX8_divides 75 = .ok (.lconst 0, 1) := by decide +kernel
theorem dX8_divides_76 : decode cX8_divides 76 = .ok (.lcmp, 1) := by decide +kernel
theorem dX8_divides_77 : decode cX8_divides 77 = .ok (.ifCond .ge 11, 3) := by decide +kernel
theorem dX8_divides_80 : decode cX8_divides 80 = .ok (.aload_n 0, 1) := by decide +kernel
theorem dX8_divides_81 : decode cX8_divides 81 = .ok (.lload_n 2, 1) := by decide +kernel
theorem dX8_divides_82 : decode cX8_divides 82 = .ok (.invokevirtual 141, 3) := by decide +kernel
theorem dX8_divides_85 : decode cX8_divides 85 = .ok (.goto 4, 3) := by decide +kernel
theorem dX8_divides_88 : decode cX8_divides 88 = .ok (.lload_n 2, 1) := by decide +kernel
theorem dX8_divides_89 : decode cX8_divides 89 = .ok (.lstore 12, 2) := by decide +kernel
theorem dX8_divides_91 : decode cX8_divides 91 = .ok (.aload_n 0, 1) := by decide +kernel
theorem dX8_divides_92 : decode cX8_divides 92 = .ok (.getfield 105, 3) := by decide +kernel
theorem dX8_divides_95 : decode cX8_divides 95 = .ok (.ifCond .ne 18, 3) := by decide +kernel
theorem dX8_divides_98 : decode cX8_divides 98 = .ok (.aload_n 0, 1) := by decide +kernel
theorem dX8_divides_99 : decode cX8_divides 99 = .ok (.iload_n 1, 1) := by decide +kernel
theorem dX8_divides_100 : decode cX8_divides 100 = .ok (.lload 4, 2) := by decide +kernel
theorem dX8_divides_102 : decode cX8_divides 102 = .ok (.lload 6, 2) := by decide +kernel
theorem dX8_divides_104 : decode cX8_divides 104 = .ok (.lload 8, 2) := by decide +kernel
theorem dX8_divides_106 : decode cX8_divides 106 = .ok (.lload 10, 2) := by decide +kernel
theorem dX8_divides_108 : decode cX8_divides 108 = .ok (.lload 12, 2) := by decide +kernel
theorem dX8_divides_110 : decode cX8_divides 110 = .ok (.invokevirtual 134, 3) := by decide +kernel
theorem dX8_divides_113 : decode cX8_divides 113 = .ok (.return_, 1) := by decide +kernel
theorem dX8_isNought_0 : decode cX8_isNought 0 = .ok (.aload_n 0, 1) := by decide +kernel
theorem dX8_isNought_1 : decode cX8_isNought 1 = .ok (.iload_n 1, 1) := by decide +kernel
theorem dX8_isNought_2 : decode cX8_isNought 2 = .ok (.iconst 0, 1) := by decide +kernel
theorem dX8_isNought_3 : decode cX8_isNought 3 = .ok (.invokevirtual 120, 3) := by decide +kernel
theorem dX8_isNought_6 : decode cX8_isNought 6 = .ok (.lconst 0, 1) := by decide +kernel
theorem dX8_isNought_7 : decode cX8_isNought 7 = .ok (.lcmp, 1) := by decide +kernel
theorem dX8_isNought_8 : decode cX8_isNought 8 = .ok (.ifCond .ne 40, 3) := by decide +kernel
theorem dX8_isNought_11 : decode cX8_isNought 11 = .ok (.aload_n 0, 1) := by decide +kernel
theorem dX8_isNought_12 : decode cX8_isNought 12 = .ok (.iload_n 1, 1) := by decide +kernel
theorem dX8_isNought_13 : decode cX8_isNought 13 = .ok (.iconst 1, 1) := by decide +kernel
theorem dX8_isNought_14 : decode cX8_isNought 14 = .ok (.invokevirtual 120, 3) := by decide +kernel
theorem dX8_isNought_17 : decode cX8_isNought 17 = .ok (.lconst 0, 1) := by decide +kernel
theorem dX8_isNought_18 : decode cX8_isNought 18 = .ok (.lcmp, 1) := by decide +kernel
theorem dX8_isNought_19 : decode cX8_isNought 19 = .ok (.ifCond .ne 29, 3) := by decide +kernel
theorem dX8_isNought_22 : decode cX8_isNought 22 = .ok (.aload_n 0, 1) := by decide +kernel
theorem dX8_isNought_23 : decode cX8_isNought 23 = .ok (.iload_n 1, 1) := by decide +kernel
theorem dX8_isNought_24 : decode cX8_isNought 24 = .ok (.iconst 2, 1) := by decide +kernel
theorem dX8_isNought_25 : decode cX8_isNought 25 = .ok (.invokevirtual 120, 3) := by decide +kernel
theorem dX8_isNought_28 : decode cX8_isNought 28 = .ok (.lconst 0, 1) := by decide +kernel
theorem dX8_isNought_29 : decode cX8_isNought 29 = .ok (.lcmp, 1) := by decide +kernel
theorem dX8_isNought_30 : decode cX8_isNought 30 = .ok (.ifCond .ne 18, 3) := by decide +kernel
theorem dX8_isNought_33 : decode cX8_isNought 33 = .ok (.aload_n 0, 1) := by decide +kernel
theorem dX8_isNought_34 : decode cX8_isNought 34 = .ok (.iload_n 1, 1) := by decide +kernel
theorem dX8_isNought_35 : decode cX8_isNought 35 = .ok (.iconst 3, 1) := by decide +kernel
theorem dX8_isNought_36 : decode cX8_isNought 36 = .ok (.invokevirtual 120, 3) := by decide +kernel
theorem dX8_isNought_39 : decode cX8_isNought 39 = .ok (.lconst 0, 1) := by decide +kernel
theorem dX8_isNought_40 : decode cX8_isNought 40 = .ok (.lcmp, 1) := by decide +kernel
theorem dX8_isNought_41 : decode cX8_isNought 41 = .ok (.ifCond .ne 7, 3) := by decide +kernel
theorem dX8_isNought_44 : decode cX8_isNought 44 = .ok (.iconst 1, 1) := by decide +kernel
theorem dX8_isNought_45 : decode cX8_isNought 45 = .ok (.goto 4, 3) := by decide +kernel
theorem dX8_isNought_48 : decode cX8_isNought 48 = .ok (.iconst 0, 1) := by decide +kernel
theorem dX8_isNought_49 : decode cX8_isNought 49 = .ok (.ireturn, 1) := by decide +kernel
theorem dX8_quotient_0 : decode cX8_quotient 0 = .ok (.aload_n 0, 1) := by decide +kernel
theorem dX8_quotient_1 : decode cX8_quotient 1 = .ok (.bipush 37, 2) := by decide +kernel
theorem dX8_quotient_3 : decode cX8_quotient 3 = .ok (.iload_n 3, 1) := by decide +kernel
theorem dX8_quotient_4 : decode cX8_quotient 4 = .ok (.invokevirtual 156, 3) := by decide +kernel
theorem dX8_quotient_7 : decode cX8_quotient 7 = .ok (.aload_n 0, 1) := by decide +kernel
theorem dX8_quotient_8 : decode cX8_quotient 8 = .ok (.getfield 105, 3) := by decide +kernel
theorem dX8_quotient_11 : decode cX8_quotient 11 = .ok (.ifCond .ne 11, 3) := by decide +kernel
theorem dX8_quotient_14 : decode cX8_quotient 14 = .ok (.aload_n 0, 1) := by decide +kernel
theorem dX8_quotient_15 : decode cX8_quotient 15 = .ok (.iload_n 1, 1) := by decide +kernel
theorem dX8_quotient_16 : decode cX8_quotient 16 = .ok (.iload_n 2, 1) := by decide +kernel
theorem dX8_quotient_17 : decode cX8_quotient 17 = .ok (.bipush 37, 2) := by decide +kernel
theorem dX8_quotient_19 : decode cX8_quotient 19 = .ok (.invokevirtual 148, 3) := by decide +kernel
theorem dX8_quotient_22 : decode cX8_quotient 22 = .ok (.return_, 1) := by decide +kernel
theorem dX8_moves_0 : decode cX8_moves 0 = .ok (.iconst 0, 1) := by decide +kernel
theorem dX8_moves_1 : decode cX8_moves 1 = .ok (.istore_n 3, 1) := by decide +kernel
theorem dX8_moves_2 : decode cX8_moves 2 = .ok (.iload_n 3, 1) := by decide +kernel
theorem dX8_moves_3 : decode cX8_moves 3 = .ok (.iconst 5, 1) := by decide +kernel
theorem dX8_moves_4 : decode cX8_moves 4 = .ok (.if_icmp .ge 25, 3) := by decide +kernel
theorem dX8_moves_7 : decode cX8_moves 7 = .ok (.aload_n 0, 1) := by decide +kernel
theorem dX8_moves_8 : decode cX8_moves 8 = .ok (.getfield 20, 3) := by decide +kernel
theorem dX8_moves_11 : decode cX8_moves 11 = .ok (.iconst 5, 1) := by decide +kernel
theorem dX8_moves_12 : decode cX8_moves 12 = .ok (.iload_n 1, 1) := by decide +kernel
theorem dX8_moves_13 : decode cX8_moves 13 = .ok (.imul, 1) := by decide +kernel
theorem dX8_moves_14 : decode cX8_moves 14 = .ok (.iload_n 3, 1) := by decide +kernel
theorem dX8_moves_15 : decode cX8_moves 15 = .ok (.iadd, 1) := by decide +kernel
theorem dX8_moves_16 : decode cX8_moves 16 = .ok (.aload_n 0, 1) := by decide +kernel
theorem dX8_moves_17 : decode cX8_moves 17 = .ok (.iload_n 2, 1) := by decide +kernel
theorem dX8_moves_18 : decode cX8_moves 18 = .ok (.iload_n 3, 1) := by decide +kernel
theorem dX8_moves_19 : decode cX8_moves 19 = .ok (.invokevirtual 120, 3) := by decide +kernel
theorem dX8_moves_22 : decode cX8_moves 22 = .ok (.lastore, 1) := by decide +kernel
theorem dX8_moves_23 : decode cX8_moves 23 = .ok (.iinc 3 1, 3) := by decide +kernel
theorem dX8_moves_26 : decode cX8_moves 26 = .ok (.goto (-24), 3) := by decide +kernel
theorem dX8_moves_29 : decode cX8_moves 29 = .ok (.return_, 1) := by decide +kernel
theorem dX8_isRegister_0 : decode cX8_isRegister 0 = .ok (.iload_n 0, 1) := by decide +kernel
theorem dX8_isRegister_1 : decode cX8_isRegister 1 = .ok (.i2l, 1) := by decide +kernel
theorem dX8_isRegister_2 : decode cX8_isRegister 2 = .ok (.lconst 0, 1) := by decide +kernel
theorem dX8_isRegister_3 : decode cX8_isRegister 3 = .ok (.ldc2_w 160, 3) := by decide +kernel
theorem dX8_isRegister_6 : decode cX8_isRegister 6 = .ok (.invokestatic 72, 3) := by decide +kernel
theorem dX8_isRegister_9 : decode cX8_isRegister 9 = .ok (.ireturn, 1) := by decide +kernel
theorem dX8_put_0 : decode cX8_put 0 = .ok (.iload_n 1, 1) := by decide +kernel
theorem dX8_put_1 : decode cX8_put 1 = .ok (.invokestatic 162, 3) := by decide +kernel
theorem dX8_put_4 : decode cX8_put 4 = .ok (.ifCond .eq 9, 3) := by decide +kernel
theorem dX8_put_7 : decode cX8_put 7 = .ok (.iload 6, 2) := by decide +kernel
theorem dX8_put_9 : decode cX8_put 9 = .ok (.iconst 1, 1) := by decide +kernel
theorem dX8_put_10 : decode cX8_put 10 = .ok (.if_icmp .ge 6, 3) := by decide +kernel
theorem dX8_put_13 : decode cX8_put 13 = .ok (.bipush (-2), 2) := by decide +kernel
theorem dX8_put_15 : decode cX8_put 15 = .ok (.ireturn, 1) := by decide +kernel
theorem dX8_put_16 : decode cX8_put 16 = .ok (.aload_n 0, 1) := by decide +kernel
theorem dX8_put_17 : decode cX8_put 17 = .ok (.iload_n 1, 1) := by decide +kernel
theorem dX8_put_18 : decode cX8_put 18 = .ok (.iload_n 2, 1) := by decide +kernel
theorem dX8_put_19 : decode cX8_put 19 = .ok (.i2l, 1) := by decide +kernel
theorem dX8_put_20 : decode cX8_put 20 = .ok (.iload_n 3, 1) := by decide +kernel
theorem dX8_put_21 : decode cX8_put 21 = .ok (.i2l, 1) := by decide +kernel
theorem dX8_put_22 : decode cX8_put 22 = .ok (.iload 4, 2) := by decide +kernel
theorem dX8_put_24 : decode cX8_put 24 = .ok (.i2l, 1) := by decide +kernel
theorem dX8_put_25 : decode cX8_put 25 = .ok (.iload 5, 2) := by decide +kernel
theorem dX8_put_27 : decode cX8_put 27 = .ok (.i2l, 1) := by decide +kernel
theorem dX8_put_28 : decode cX8_put 28 = .ok (.iload 6, 2) := by decide +kernel
theorem dX8_put_30 : decode cX8_put 30 = .ok (.i2l, 1) := by decide +kernel
theorem dX8_put_31 : decode cX8_put 31 = .ok (.invokevirtual 134, 3) := by decide +kernel
theorem dX8_put_34 : decode cX8_put 34 = .ok (.iconst 1, 1) := by decide +kernel
theorem dX8_put_35 : decode cX8_put 35 = .ok (.ireturn, 1) := by decide +kernel
theorem dX8_read_0 : decode cX8_read 0 = .ok (.iload_n 1, 1) := by decide +kernel
theorem dX8_read_1 : decode cX8_read 1 = .ok (.invokestatic 162, 3) := by decide +kernel
theorem dX8_read_4 : decode cX8_read 4 = .ok (.ifCond .eq 10, 3) := by decide +kernel
theorem dX8_read_7 : decode cX8_read 7 = .ok (.iload_n 2, 1) := by decide +kernel
theorem dX8_read_8 : decode cX8_read 8 = .ok (.invokestatic 85, 3) := by decide +kernel
theorem dX8_read_11 : decode cX8_read 11 = .ok (.ifCond .ne 6, 3) := by decide +kernel
theorem dX8_read_14 : decode cX8_read 14 = .ok (.bipush (-2), 2) := by decide +kernel
theorem dX8_read_16 : decode cX8_read 16 = .ok (.ireturn, 1) := by decide +kernel
theorem dX8_read_17 : decode cX8_read 17 = .ok (.aload_n 0, 1) := by decide +kernel
theorem dX8_read_18 : decode cX8_read 18 = .ok (.getfield 7, 3) := by decide +kernel
theorem dX8_read_21 : decode cX8_read 21 = .ok (.iload_n 2, 1) := by decide +kernel
theorem dX8_read_22 : decode cX8_read 22 = .ok (.iaload, 1) := by decide +kernel
theorem dX8_read_23 : decode cX8_read 23 = .ok (.iconst (-1), 1) := by decide +kernel
theorem dX8_read_24 : decode cX8_read 24 = .ok (.if_icmp .ne 9, 3) := by decide +kernel
theorem dX8_read_27 : decode cX8_read 27 = .ok (.aload_n 0, 1) := by decide +kernel
theorem dX8_read_28 : decode cX8_read 28 = .ok (.iconst 1, 1) := by decide +kernel
theorem dX8_read_29 : decode cX8_read 29 = .ok (.invokevirtual 89, 3) := by decide +kernel
theorem dX8_read_32 : decode cX8_read 32 = .ok (.ireturn, 1) := by decide +kernel
theorem dX8_read_33 : decode cX8_read 33 = .ok (.iload_n 3, 1) := by decide +kernel
theorem dX8_read_34 : decode cX8_read 34 = .ok (.ifCond .lt 20, 3) := by decide +kernel
theorem dX8_read_37 : decode cX8_read 37 = .ok (.iload_n 3, 1) := by decide +kernel
theorem dX8_read_38 : decode cX8_read 38 = .ok (.i2l, 1) := by decide +kernel
theorem dX8_read_39 : decode cX8_read 39 = .ok (.ldc2_w 165, 3) := by decide +kernel
theorem dX8_read_42 : decode cX8_read 42 = .ok (.ladd, 1) := by decide +kernel
theorem dX8_read_43 : decode cX8_read 43 = .ok (.aload_n 0, 1) := by decide +kernel
theorem dX8_read_44 : decode cX8_read 44 = .ok (.getfield 7, 3) := by decide +kernel
theorem dX8_read_47 : decode cX8_read 47 = .ok (.iload_n 2, 1) := by decide +kernel
theorem dX8_read_48 : decode cX8_read 48 = .ok (.iaload, 1) := by decide +kernel
theorem dX8_read_49 : decode cX8_read 49 = .ok (.i2l, 1) := by decide +kernel
theorem dX8_read_50 : decode cX8_read 50 = .ok (.lcmp, 1) := by decide +kernel
theorem dX8_read_51 : decode cX8_read 51 = .ok (.ifCond .le 9, 3) := by decide +kernel
theorem dX8_read_54 : decode cX8_read 54 = .ok (.aload_n 0, 1) := by decide +kernel
theorem dX8_read_55 : decode cX8_read 55 = .ok (.iconst 2, 1) := by decide +kernel
theorem dX8_read_56 : decode cX8_read 56 = .ok (.invokevirtual 89, 3) := by decide +kernel
theorem dX8_read_59 : decode cX8_read 59 = .ok (.ireturn, 1) := by decide +kernel
theorem dX8_read_60 : decode cX8_read 60 = .ok (.bipush 40, 2) := by decide +kernel
theorem dX8_read_62 : decode cX8_read 62 = .ok (.iload_n 2, 1) := by decide +kernel
theorem dX8_read_63 : decode cX8_read 63 = .ok (.imul, 1) := by decide +kernel
theorem dX8_read_64 : decode cX8_read 64 = .ok (.iload_n 3, 1) := by decide +kernel
theorem dX8_read_65 : decode cX8_read 65 = .ok (.iadd, 1) := by decide +kernel
theorem dX8_read_66 : decode cX8_read 66 = .ok (.istore 4, 2) := by decide +kernel
theorem dX8_read_68 : decode cX8_read 68 = .ok (.aload_n 0, 1) := by decide +kernel
theorem dX8_read_69 : decode cX8_read 69 = .ok (.iload_n 1, 1) := by decide +kernel
theorem dX8_read_70 : decode cX8_read 70 = .ok (.aload_n 0, 1) := by decide +kernel
theorem dX8_read_71 : decode cX8_read 71 = .ok (.getfield 13, 3) := by decide +kernel
theorem dX8_read_74 : decode cX8_read 74 = .ok (.iload 4, 2) := by decide +kernel
theorem dX8_read_76 : decode cX8_read 76 = .ok (.laload, 1) := by decide +kernel
theorem dX8_read_77 : decode cX8_read 77 = .ok (.aload_n 0, 1) := by decide +kernel
theorem dX8_read_78 : decode cX8_read 78 = .ok (.getfield 13, 3) := by decide +kernel
theorem dX8_read_81 : decode cX8_read 81 = .ok (.iload 4, 2) := by decide +kernel
theorem dX8_read_83 : decode cX8_read 83 = .ok (.iconst 1, 1) := by decide +kernel
theorem dX8_read_84 : decode cX8_read 84 = .ok (.iadd, 1) := by decide +kernel
theorem dX8_read_85 : decode cX8_read 85 = .ok (.laload, 1) := by decide +kernel
theorem dX8_read_86 : decode cX8_read 86 = .ok (.aload_n 0, 1) := by decide +kernel
theorem dX8_read_87 : decode cX8_read 87 = .ok (.getfield 13, 3) := by decide +kernel
theorem dX8_read_90 : decode cX8_read 90 = .ok (.iload 4, 2) := by decide +kernel
theorem dX8_read_92 : decode cX8_read 92 = .ok (.iconst 2, 1) := by decide +kernel
theorem dX8_read_93 : decode cX8_read 93 = .ok (.iadd, 1) := by decide +kernel
theorem dX8_read_94 : decode cX8_read 94 = .ok (.laload, 1) := by decide +kernel
theorem dX8_read_95 : decode cX8_read 95 = .ok (.aload_n 0, 1) := by decide +kernel
theorem dX8_read_96 : decode cX8_read 96 = .ok (.getfield 13, 3) := by decide +kernel
theorem dX8_read_99 : decode cX8_read 99 = .ok (.iload 4, 2) := by decide +kernel
theorem dX8_read_101 : decode cX8_read 101 = .ok (.iconst 3, 1) := by decide +kernel
theorem dX8_read_102 : decode cX8_read 102 = .ok (.iadd, 1) := by decide +kernel
theorem dX8_read_103 : decode cX8_read 103 = .ok (.laload, 1) := by decide +kernel
theorem dX8_read_104 : decode cX8_read 104 = .ok (.lconst 1, 1) := by decide +kernel
theorem dX8_read_105 : decode cX8_read 105 = .ok (.invokevirtual 134, 3) := by decide +kernel
theorem dX8_read_108 : decode cX8_read 108 = .ok (.iconst 1, 1) := by decide +kernel
theorem dX8_read_109 : decode cX8_read 109 = .ok (.ireturn, 1) := by decide +kernel
theorem dX8_reckon_0 : decode cX8_reckon 0 = .ok (.iload_n 1, 1) := by decide +kernel
theorem dX8_reckon_1 : decode cX8_reckon 1 = .ok (.i2l, 1) := by decide +kernel
theorem dX8_reckon_2 : decode cX8_reckon 2 = .ok (.lconst 0, 1) := by decide +kernel
theorem dX8_reckon_3 : decode cX8_reckon 3 = .ok (.ldc2_w 83, 3) := by decide +kernel
theorem dX8_reckon_6 : decode cX8_reckon 6 = .ok (.invokestatic 72, 3) := by decide +kernel
theorem dX8_reckon_9 : decode cX8_reckon 9 = .ok (.ifCond .eq 25, 3) := by decide +kernel
theorem dX8_reckon_12 : decode cX8_reckon 12 = .ok (.iload_n 2, 1) := by decide +kernel
theorem dX8_reckon_13 : decode cX8_reckon 13 = .ok (.invokestatic 162, 3) := by decide +kernel
theorem dX8_reckon_16 : decode cX8_reckon 16 = .ok (.ifCond .eq 18, 3) := by decide +kernel
theorem dX8_reckon_19 : decode cX8_reckon 19 = .ok (.iload_n 3, 1) := by decide +kernel
theorem dX8_reckon_20 : decode cX8_reckon 20 = .ok (.invokestatic 162, 3) := by decide +kernel
theorem dX8_reckon_23 : decode cX8_reckon 23 = .ok (.ifCond .eq 11, 3) := by decide +kernel
theorem dX8_reckon_26 : decode cX8_reckon 26 = .ok (.iload 4, 2) := by decide +kernel
theorem dX8_reckon_28 : decode cX8_reckon 28 = .ok (.invokestatic 162, 3) := by decide +kernel
theorem dX8_reckon_31 : decode cX8_reckon 31 = .ok (.ifCond .ne 6, 3) := by decide +kernel
theorem dX8_reckon_34 : decode cX8_reckon 34 = .ok (.bipush (-2), 2) := by decide +kernel
theorem dX8_reckon_36 : decode cX8_reckon 36 = .ok (.ireturn, 1) := by decide +kernel
theorem dX8_reckon_37 : decode cX8_reckon 37 = .ok (.iload_n 1, 1) := by decide +kernel
theorem dX8_reckon_38 : decode cX8_reckon 38 = .ok (.iconst 3, 1) := by decide +kernel
theorem dX8_reckon_39 : decode cX8_reckon 39 = .ok (.if_icmp .ne 14, 3) := by decide +kernel
theorem dX8_reckon_42 : decode cX8_reckon 42 = .ok (.aload_n 0, 1) := by decide +kernel
theorem dX8_reckon_43 : decode cX8_reckon 43 = .ok (.iload_n 3, 1) := by decide +kernel
theorem dX8_reckon_44 : decode cX8_reckon 44 = .ok (.invokevirtual 167, 3) := by decide +kernel
theorem dX8_reckon_47 : decode cX8_reckon 47 = .ok (.ifCond .eq 6, 3) := by decide +kernel
theorem dX8_reckon_50 : decode cX8_reckon 50 = .ok (.bipush (-6), 2) := by decide +kernel
theorem dX8_reckon_52 : decode cX8_reckon 52 = .ok (.ireturn, 1) := by decide +kernel
theorem dX8_reckon_53 : decode cX8_reckon 53 = .ok (.aload_n 0, 1) := by decide +kernel
theorem dX8_reckon_54 : decode cX8_reckon 54 = .ok (.iconst 0, 1) := by decide +kernel
theorem dX8_reckon_55 : decode cX8_reckon 55 = .ok (.putfield 105, 3) := by decide +kernel
theorem dX8_reckon_58 : decode cX8_reckon 58 = .ok (.iload_n 1, 1) := by decide +kernel
theorem dX8_reckon_59 : decode cX8_reckon 59 = .ok (.iconst 2, 1) := by decide +kernel
theorem dX8_reckon_60 : decode cX8_reckon 60 = .ok (.if_icmp .ge 24, 3) := by decide +kernel
theorem dX8_reckon_63 : decode cX8_reckon 63 = .ok (.aload_n 0, 1) := by decide +kernel
theorem dX8_reckon_64 : decode cX8_reckon 64 = .ok (.bipush 38, 2) := by decide +kernel
theorem dX8_reckon_66 : decode cX8_reckon 66 = .ok (.iload_n 2, 1) := by decide +kernel
theorem dX8_reckon_67 : decode cX8_reckon 67 = .ok (.iload_n 3, 1) := by decide +kernel
theorem dX8_reckon_68 : decode cX8_reckon 68 = .ok (.iload_n 1, 1) := by decide +kernel
theorem dX8_reckon_69 : decode cX8_reckon 69 = .ok (.iconst 1, 1) := by decide +kernel
theorem dX8_reckon_70 : decode cX8_reckon 70 = .ok (.if_icmp .ne 7, 3) := by decide +kernel
theorem dX8_reckon_73 : decode cX8_reckon 73 = .ok (.iconst 1, 1) := by decide +kernel
theorem dX8_reckon_74 : decode cX8_reckon 74 = .ok (.goto 4, 3) := by decide +kernel
theorem dX8_reckon_77 : decode cX8_reckon 77 = .ok (.iconst 0, 1) := by decide +kernel
theorem dX8_reckon_78 : decode cX8_reckon 78 = .ok (.invokevirtual 170, 3) := by decide +kernel
theorem dX8_reckon_81 : decode cX8_reckon 81 = .ok (.goto 27, 3) := by decide +kernel
theorem dX8_reckon_84 : decode cX8_reckon 84 = .ok (.iload_n 1, 1) := by decide +kernel
theorem dX8_reckon_85 : decode cX8_reckon 85 = .ok (.iconst 2, 1) := by decide +kernel
theorem dX8_reckon_86 : decode cX8_reckon 86 = .ok (.if_icmp .ne 14, 3) := by decide +kernel
theorem dX8_reckon_89 : decode cX8_reckon 89 = .ok (.aload_n 0, 1) := by decide +kernel
theorem dX8_reckon_90 : decode cX8_reckon 90 = .ok (.bipush 38, 2) := by decide +kernel
theorem dX8_reckon_92 : decode cX8_reckon 92 = .ok (.iload_n 2, 1) := by decide +kernel
theorem dX8_reckon_93 : decode cX8_reckon 93 = .ok (.iload_n 3, 1) := by decide +kernel
theorem dX8_reckon_94 : decode cX8_reckon 94 = .ok (.invokevirtual 148, 3) := by decide +kernel
theorem dX8_reckon_97 : decode cX8_reckon 97 = .ok (.goto 11, 3) := by decide +kernel
theorem dX8_reckon_100 : decode cX8_reckon 100 = .ok (.aload_n 0, 1) := by decide +kernel
theorem dX8_reckon_101 : decode cX8_reckon 101 = .ok (.bipush 38, 2) := by decide +kernel
theorem dX8_reckon_103 : decode cX8_reckon 103 = .ok (.iload_n 2, 1) := by decide +kernel
theorem dX8_reckon_104 : decode cX8_reckon 104 = .ok (.iload_n 3, 1) := by decide +kernel
theorem dX8_reckon_105 : decode cX8_reckon 105 = .ok (.invokevirtual 174, 3) := by decide +kernel
theorem dX8_reckon_108 : decode cX8_reckon 108 = .ok (.aload_n 0, 1) := by decide +kernel
theorem dX8_reckon_109 : decode cX8_reckon 109 = .ok (.getfield 105, 3) := by decide +kernel
theorem dX8_reckon_112 : decode cX8_reckon 112 = .ok (.ifCond .eq 6, 3) := by decide +kernel
theorem dX8_reckon_115 : decode cX8_reckon 115 = .ok (.bipush (-5), 2) := by decide +kernel
theorem dX8_reckon_117 : decode cX8_reckon 117 = .ok (.ireturn, 1) := by decide +kernel
theorem dX8_reckon_118 : decode cX8_reckon 118 = .ok (.aload_n 0, 1) := by decide +kernel
theorem dX8_reckon_119 : decode cX8_reckon 119 = .ok (.iload 4, 2) := by decide +kernel
theorem dX8_reckon_121 : decode cX8_reckon 121 = .ok (.bipush 38, 2) := by decide +kernel
theorem dX8_reckon_123 : decode cX8_reckon 123 = .ok (.invokevirtual 177, 3) := by decide +kernel
theorem dX8_reckon_126 : decode cX8_reckon 126 = .ok (.iconst 1, 1) := by decide +kernel
theorem dX8_reckon_127 : decode cX8_reckon 127 = .ok (.ireturn, 1) := by decide +kernel
theorem dX8_part_0 : decode cX8_part 0 = .ok (.iload_n 1, 1) := by decide +kernel
theorem dX8_part_1 : decode cX8_part 1 = .ok (.invokestatic 162, 3) := by decide +kernel
theorem dX8_part_4 : decode cX8_part 4 = .ok (.ifCond .eq 24, 3) := by decide +kernel
theorem dX8_part_7 : decode cX8_part 7 = .ok (.iload_n 2, 1) := by decide +kernel
theorem dX8_part_8 : decode cX8_part 8 = .ok (.i2l, 1) := by decide +kernel
theorem dX8_part_9 : decode cX8_part 9 = .ok (.lconst 0, 1) := by decide +kernel
theorem dX8_part_10 : decode cX8_part 10 = .ok (.ldc2_w 165, 3) := by decide +kernel
theorem dX8_part_13 : decode cX8_part 13 = .ok (.invokestatic 72, 3) := by decide +kernel
theorem dX8_part_16 : decode cX8_part 16 = .ok (.ifCond .eq 12, 3) := by decide +kernel
theorem dX8_part_19 : decode cX8_part 19 = .ok (.aload_n 0, 1) := by decide +kernel
theorem dX8_part_20 : decode cX8_part 20 = .ok (.iload_n 1, 1) := by decide +kernel
theorem dX8_part_21 : decode cX8_part 21 = .ok (.iload_n 2, 1) := by decide +kernel
theorem dX8_part_22 : decode cX8_part 22 = .ok (.invokevirtual 120, 3) := by decide +kernel
theorem dX8_part_25 : decode cX8_part 25 = .ok (.goto 8, 3) := by decide +kernel
theorem dX8_part_28 : decode cX8_part 28 = .ok (.bipush (-2), 2) := by decide +kernel
theorem dX8_part_30 : decode cX8_part 30 = .ok (.invokestatic 99, 3) := by decide +kernel
theorem dX8_part_33 : decode cX8_part 33 = .ok (.lreturn, 1) := by decide +kernel
theorem dX8_signOf_0 : decode cX8_signOf 0 = .ok (.lload_n 0, 1) := by decide +kernel
theorem dX8_signOf_1 : decode cX8_signOf 1 = .ok (.lconst 0, 1) := by decide +kernel
theorem dX8_signOf_2 : decode cX8_signOf 2 = .ok (.lcmp, 1) := by decide +kernel
theorem dX8_signOf_3 : decode cX8_signOf 3 = .ok (.ifCond .ge 7, 3) := by decide +kernel
theorem dX8_signOf_6 : decode cX8_signOf 6 = .ok (.iconst (-1), 1) := by decide +kernel
theorem dX8_signOf_7 : decode cX8_signOf 7 = .ok (.goto 14, 3) := by decide +kernel
theorem dX8_signOf_10 : decode cX8_signOf 10 = .ok (.lload_n 0, 1) := by decide +kernel
theorem dX8_signOf_11 : decode cX8_signOf 11 = .ok (.lconst 0, 1) := by decide +kernel
theorem dX8_signOf_12 : decode cX8_signOf 12 = .ok (.lcmp, 1) := by decide +kernel
theorem dX8_signOf_13 : decode cX8_signOf 13 = .ok (.ifCond .le 7, 3) := by decide +kernel
theorem dX8_signOf_16 : decode cX8_signOf 16 = .ok (.iconst 1, 1) := by decide +kernel
theorem dX8_signOf_17 : decode cX8_signOf 17 = .ok (.goto 4, 3) := by decide +kernel
theorem dX8_signOf_20 : decode cX8_signOf 20 = .ok (.iconst 0, 1) := by decide +kernel
theorem dX8_signOf_21 : decode cX8_signOf 21 = .ok (.ireturn, 1) := by decide +kernel
theorem dX8_sign_0 : decode cX8_sign 0 = .ok (.lload_n 1, 1) := by decide +kernel
theorem dX8_sign_1 : decode cX8_sign 1 = .ok (.invokestatic 180, 3) := by decide +kernel
theorem dX8_sign_4 : decode cX8_sign 4 = .ok (.istore 5, 2) := by decide +kernel
theorem dX8_sign_6 : decode cX8_sign 6 = .ok (.lload_n 3, 1) := by decide +kernel
theorem dX8_sign_7 : decode cX8_sign 7 = .ok (.invokestatic 180, 3) := by decide +kernel
theorem dX8_sign_10 : decode cX8_sign 10 = .ok (.istore 6, 2) := by decide +kernel
theorem dX8_sign_12 : decode cX8_sign 12 = .ok (.iload 5, 2) := by decide +kernel
theorem dX8_sign_14 : decode cX8_sign 14 = .ok (.iload 6, 2) := by decide +kernel
theorem dX8_sign_16 : decode cX8_sign 16 = .ok (.if_icmp .eq 8, 3) := by decide +kernel
theorem dX8_sign_19 : decode cX8_sign 19 = .ok (.iload 6, 2) := by decide +kernel
theorem dX8_sign_21 : decode cX8_sign 21 = .ok (.ifCond .ne 6, 3) := by decide +kernel
theorem dX8_sign_24 : decode cX8_sign 24 = .ok (.iload 5, 2) := by decide +kernel
theorem dX8_sign_26 : decode cX8_sign 26 = .ok (.ireturn, 1) := by decide +kernel
theorem dX8_sign_27 : decode cX8_sign 27 = .ok (.iload 5, 2) := by decide +kernel
theorem dX8_sign_29 : decode cX8_sign 29 = .ok (.ifCond .ne 6, 3) := by decide +kernel
theorem dX8_sign_32 : decode cX8_sign 32 = .ok (.iload 6, 2) := by decide +kernel
theorem dX8_sign_34 : decode cX8_sign 34 = .ok (.ireturn, 1) := by decide +kernel
theorem dX8_sign_35 : decode cX8_sign 35 = .ok (.aload_n 0, 1) := by decide +kernel
theorem dX8_sign_36 : decode cX8_sign 36 = .ok (.lload_n 1, 1) := by decide +kernel
theorem dX8_sign_37 : decode cX8_sign 37 = .ok (.lload_n 1, 1) := by decide +kernel
theorem dX8_sign_38 : decode cX8_sign 38 = .ok (.invokevirtual 124, 3) := by decide +kernel
theorem dX8_sign_41 : decode cX8_sign 41 = .ok (.aload_n 0, 1) := by decide +kernel
theorem dX8_sign_42 : decode cX8_sign 42 = .ok (.lload_n 3, 1) := by decide +kernel
theorem dX8_sign_43 : decode cX8_sign 43 = .ok (.lload_n 3, 1) := by decide +kernel
theorem dX8_sign_44 : decode cX8_sign 44 = .ok (.invokevirtual 138, 3) := by decide +kernel
theorem dX8_sign_47 : decode cX8_sign 47 = .ok (.lcmp, 1) := by decide +kernel
theorem dX8_sign_48 : decode cX8_sign 48 = .ok (.ifCond .le 8, 3) := by decide +kernel
theorem dX8_sign_51 : decode cX8_sign 51 = .ok (.iload 5, 2) := by decide +kernel
theorem dX8_sign_53 : decode cX8_sign 53 = .ok (.goto 5, 3) := by decide +kernel
theorem dX8_sign_56 : decode cX8_sign 56 = .ok (.iload 6, 2) := by decide +kernel
theorem dX8_sign_58 : decode cX8_sign 58 = .ok (.ireturn, 1) := by decide +kernel
theorem dX8_compare_0 : decode cX8_compare 0 = .ok (.iload_n 1, 1) := by decide +kernel
theorem dX8_compare_1 : decode cX8_compare 1 = .ok (.invokestatic 162, 3) := by decide +kernel
theorem dX8_compare_4 : decode cX8_compare 4 = .ok (.ifCond .eq 10, 3) := by decide +kernel
theorem dX8_compare_7 : decode cX8_compare 7 = .ok (.iload_n 2, 1) := by decide +kernel
theorem dX8_compare_8 : decode cX8_compare 8 = .ok (.invokestatic 162, 3) := by decide +kernel
theorem dX8_compare_11 : decode cX8_compare 11 = .ok (.ifCond .ne 6, 3) := by decide +kernel
theorem dX8_compare_14 : decode cX8_compare 14 = .ok (.ldc 184, 2) := by decide +kernel
theorem dX8_compare_16 : decode cX8_compare 16 = .ok (.ireturn, 1) := by decide +kernel
theorem dX8_compare_17 : decode cX8_compare 17 = .ok (.aload_n 0, 1) := by decide +kernel
theorem dX8_compare_18 : decode cX8_compare 18 = .ok (.iconst 0, 1) := by decide +kernel
theorem dX8_compare_19 : decode cX8_compare 19 = .ok (.putfield 105, 3) := by decide +kernel
theorem dX8_compare_22 : decode cX8_compare 22 = .ok (.aload_n 0, 1) := by decide +kernel
theorem dX8_compare_23 : decode cX8_compare 23 = .ok (.bipush 38, 2) := by decide +kernel
theorem dX8_compare_25 : decode cX8_compare 25 = .ok (.iload_n 1, 1) := by decide +kernel
theorem dX8_compare_26 : decode cX8_compare 26 = .ok (.iload_n 2, 1) := by decide +kernel
theorem dX8_compare_27 : decode cX8_compare 27 = .ok (.iconst 1, 1) := by decide +kernel
theorem dX8_compare_28 : decode cX8_compare 28 = .ok (.invokevirtual 170, 3) := by decide +kernel
theorem dX8_compare_31 : decode cX8_compare 31 = .ok (.aload_n 0, 1) := by decide +kernel
theorem dX8_compare_32 : decode cX8_compare 32 = .ok (.getfield 105, 3) := by decide +kernel
theorem dX8_compare_35 : decode cX8_compare 35 = .ok (.ifCond .eq 6, 3) := by decide +kernel
theorem dX8_compare_38 : decode cX8_compare 38 = .ok (.bipush (-5), 2) := by decide +kernel
theorem dX8_compare_40 : decode cX8_compare 40 = .ok (.ireturn, 1) := by decide +kernel
theorem dX8_compare_41 : decode cX8_compare 41 = .ok (.aload_n 0, 1) := by decide +kernel
theorem dX8_compare_42 : decode cX8_compare 42 = .ok (.bipush 38, 2) := by decide +kernel
theorem dX8_compare_44 : decode cX8_compare 44 = .ok (.iconst 2, 1) := by decide +kernel
theorem dX8_compare_45 : decode cX8_compare 45 = .ok (.invokevirtual 120, 3) := by decide +kernel
theorem dX8_compare_48 : decode cX8_compare 48 = .ok (.lconst 0, 1) := by decide +kernel
theorem dX8_compare_49 : decode cX8_compare 49 = .ok (.lcmp, 1) := by decide +kernel
theorem dX8_compare_50 : decode cX8_compare 50 = .ok (.ifCond .ne 15, 3) := by decide +kernel
theorem dX8_compare_53 : decode cX8_compare 53 = .ok (.aload_n 0, 1) := by decide +kernel
theorem dX8_compare_54 : decode cX8_compare 54 = .ok (.bipush 38, 2) := by decide +kernel
theorem dX8_compare_56 : decode cX8_compare 56 = .ok (.iconst 3, 1) := by decide +kernel
theorem dX8_compare_57 : decode cX8_compare 57 = .ok (.invokevirtual 120, 3) := by decide +kernel
theorem dX8_compare_60 : decode cX8_compare 60 = .ok (.lconst 0, 1) := by decide +kernel
theorem dX8_compare_61 : decode cX8_compare 61 = .ok (.lcmp, 1) := by decide +kernel
theorem dX8_compare_62 : decode cX8_compare 62 = .ok (.ifCond .eq 6, 3) := by decide +kernel
theorem dX8_compare_65 : decode cX8_compare 65 = .ok (.bipush (-3), 2) := by decide +kernel
theorem dX8_compare_67 : decode cX8_compare 67 = .ok (.ireturn, 1) := by decide +kernel
theorem dX8_compare_68 : decode cX8_compare 68 = .ok (.aload_n 0, 1) := by decide +kernel
theorem dX8_compare_69 : decode cX8_compare 69 = .ok (.aload_n 0, 1) := by decide +kernel
theorem dX8_compare_70 : decode cX8_compare 70 = .ok (.bipush 38, 2) := by decide +kernel
theorem dX8_compare_72 : decode cX8_compare 72 = .ok (.iconst 0, 1) := by decide +kernel
theorem dX8_compare_73 : decode cX8_compare 73 = .ok (.invokevirtual 120, 3) := by decide +kernel
theorem dX8_compare_76 : decode cX8_compare 76 = .ok (.aload_n 0, 1) := by decide +kernel
theorem dX8_compare_77 : decode cX8_compare 77 = .ok (.bipush 38, 2) := by decide +kernel
theorem dX8_compare_79 : decode cX8_compare 79 = .ok (.iconst 1, 1) := by decide +kernel
theorem dX8_compare_80 : decode cX8_compare 80 = .ok (.invokevirtual 120, 3) := by decide +kernel
theorem dX8_compare_83 : decode cX8_compare 83 = .ok (.invokevirtual 185, 3) := by decide +kernel
theorem dX8_compare_86 : decode cX8_compare 86 = .ok (.istore_n 3, 1) := by decide +kernel
theorem dX8_compare_87 : decode cX8_compare 87 = .ok (.aload_n 0, 1) := by decide +kernel
theorem dX8_compare_88 : decode cX8_compare 88 = .ok (.getfield 105, 3) := by decide +kernel
theorem dX8_compare_91 : decode cX8_compare 91 = .ok (.ifCond .eq 8, 3) := by decide +kernel
theorem dX8_compare_94 : decode cX8_compare 94 = .ok (.bipush (-5), 2) := by decide +kernel
theorem dX8_compare_96 : decode cX8_compare 96 = .ok (.goto 4, 3) := by decide +kernel
theorem dX8_compare_99 : decode cX8_compare 99 = .ok (.iload_n 3, 1) := by decide +kernel
theorem dX8_compare_100 : decode cX8_compare 100 = .ok (.ireturn, 1) := by decide +kernel
theorem dX8_way_0 : decode cX8_way 0 = .ok (.iload_n 0, 1) := by decide +kernel
theorem dX8_way_1 : decode cX8_way 1 = .ok (.bipush 6, 2) := by decide +kernel
theorem dX8_way_3 : decode cX8_way 3 = .ok (.irem, 1) := by decide +kernel
theorem dX8_way_4 : decode cX8_way 4 = .ok (.istore_n 2, 1) := by decide +kernel
theorem dX8_way_5 : decode cX8_way 5 = .ok (.iload_n 2, 1) := by decide +kernel
theorem dX8_way_6 : decode cX8_way 6 = .ok (.tableswitch 120 0 4 #[34, 47, 66, 84, 98], 34) := by decide +kernel
theorem dX8_way_40 : decode cX8_way 40 = .ok (.iload_n 1, 1) := by decide +kernel
theorem dX8_way_41 : decode cX8_way 41 = .ok (.ifCond .ne 7, 3) := by decide +kernel
theorem dX8_way_44 : decode cX8_way 44 = .ok (.iconst 2, 1) := by decide +kernel
theorem dX8_way_45 : decode cX8_way 45 = .ok (.goto 4, 3) := by decide +kernel
theorem dX8_way_48 : decode cX8_way 48 = .ok (.iconst 0, 1) := by decide +kernel
theorem dX8_way_49 : decode cX8_way 49 = .ok (.istore_n 3, 1) := by decide +kernel
theorem dX8_way_50 : decode cX8_way 50 = .ok (.goto 96, 3) := by decide +kernel
theorem dX8_way_53 : decode cX8_way 53 = .ok (.iload_n 1, 1) := by decide +kernel
theorem dX8_way_54 : decode cX8_way 54 = .ok (.iconst 1, 1) := by decide +kernel
theorem dX8_way_55 : decode cX8_way 55 = .ok (.if_icmp .eq 8, 3) := by decide +kernel
theorem dX8_way_58 : decode cX8_way 58 = .ok (.iload_n 1, 1) := by decide +kernel
theorem dX8_way_59 : decode cX8_way 59 = .ok (.iconst 2, 1) := by decide +kernel
theorem dX8_way_60 : decode cX8_way 60 = .ok (.if_icmp .ne 7, 3) := by decide +kernel
theorem dX8_way_63 : decode cX8_way 63 = .ok (.iconst 1, 1) := by decide +kernel
theorem dX8_way_64 : decode cX8_way 64 = .ok (.goto 4, 3) := by decide +kernel
theorem dX8_way_67 : decode cX8_way 67 = .ok (.iconst 0, 1) := by decide +kernel
theorem dX8_way_68 : decode cX8_way 68 = .ok (.istore_n 3, 1) := by decide +kernel
theorem dX8_way_69 : decode cX8_way 69 = .ok (.goto 77, 3) := by decide +kernel
theorem dX8_way_72 : decode cX8_way 72 = .ok (.iload_n 1, 1) := by decide +kernel
theorem dX8_way_73 : decode cX8_way 73 = .ok (.ifCond .eq 8, 3) := by decide +kernel
theorem dX8_way_76 : decode cX8_way 76 = .ok (.iload_n 1, 1) := by decide +kernel
theorem dX8_way_77 : decode cX8_way 77 = .ok (.iconst 3, 1) := by decide +kernel
theorem dX8_way_78 : decode cX8_way 78 = .ok (.if_icmp .ne 7, 3) := by decide +kernel
theorem dX8_way_81 : decode cX8_way 81 = .ok (.iconst 1, 1) := by decide +kernel
theorem dX8_way_82 : decode cX8_way 82 = .ok (.goto 4, 3) := by decide +kernel
theorem dX8_way_85 : decode cX8_way 85 = .ok (.iconst 0, 1) := by decide +kernel
theorem dX8_way_86 : decode cX8_way 86 = .ok (.istore_n 3, 1) := by decide +kernel
theorem dX8_way_87 : decode cX8_way 87 = .ok (.goto 59, 3) := by decide +kernel
theorem dX8_way_90 : decode cX8_way 90 = .ok (.iload_n 1, 1) := by decide +kernel
theorem dX8_way_91 : decode cX8_way 91 = .ok (.iconst 2, 1) := by decide +kernel
theorem dX8_way_92 : decode cX8_way 92 = .ok (.if_icmp .ne 7, 3) := by decide +kernel
theorem dX8_way_95 : decode cX8_way 95 = .ok (.iconst 2, 1) := by decide +kernel
theorem dX8_way_96 : decode cX8_way 96 = .ok (.goto 4, 3) := by decide +kernel
theorem dX8_way_99 : decode cX8_way 99 = .ok (.iconst 0, 1) := by decide +kernel
theorem dX8_way_100 : decode cX8_way 100 = .ok (.istore_n 3, 1) := by decide +kernel
theorem dX8_way_101 : decode cX8_way 101 = .ok (.goto 45, 3) := by decide +kernel
theorem dX8_way_104 : decode cX8_way 104 = .ok (.iload_n 1, 1) := by decide +kernel
theorem dX8_way_105 : decode cX8_way 105 = .ok (.ifCond .ne 7, 3) := by decide +kernel
theorem dX8_way_108 : decode cX8_way 108 = .ok (.iconst (-1), 1) := by decide +kernel
theorem dX8_way_109 : decode cX8_way 109 = .ok (.goto 13, 3) := by decide +kernel
theorem dX8_way_112 : decode cX8_way 112 = .ok (.iload_n 1, 1) := by decide +kernel
theorem dX8_way_113 : decode cX8_way 113 = .ok (.iconst 3, 1) := by decide +kernel
theorem dX8_way_114 : decode cX8_way 114 = .ok (.if_icmp .ne 7, 3) := by decide +kernel
theorem dX8_way_117 : decode cX8_way 117 = .ok (.iconst 1, 1) := by decide +kernel
theorem dX8_way_118 : decode cX8_way 118 = .ok (.goto 4, 3) := by decide +kernel
theorem dX8_way_121 : decode cX8_way 121 = .ok (.iconst 0, 1) := by decide +kernel
theorem dX8_way_122 : decode cX8_way 122 = .ok (.istore_n 3, 1) := by decide +kernel
theorem dX8_way_123 : decode cX8_way 123 = .ok (.goto 23, 3) := by decide +kernel
theorem dX8_way_126 : decode cX8_way 126 = .ok (.iload_n 1, 1) := by decide +kernel
theorem dX8_way_127 : decode cX8_way 127 = .ok (.iconst 1, 1) := by decide +kernel
theorem dX8_way_128 : decode cX8_way 128 = .ok (.if_icmp .ne 7, 3) := by decide +kernel
theorem dX8_way_131 : decode cX8_way 131 = .ok (.iconst (-1), 1) := by decide +kernel
theorem dX8_way_132 : decode cX8_way 132 = .ok (.goto 13, 3) := by decide +kernel
theorem dX8_way_135 : decode cX8_way 135 = .ok (.iload_n 1, 1) := by decide +kernel
theorem dX8_way_136 : decode cX8_way 136 = .ok (.iconst 2, 1) := by decide +kernel
theorem dX8_way_137 : decode cX8_way 137 = .ok (.if_icmp .ne 7, 3) := by decide +kernel
theorem dX8_way_140 : decode cX8_way 140 = .ok (.iconst 1, 1) := by decide +kernel
theorem dX8_way_141 : decode cX8_way 141 = .ok (.goto 4, 3) := by decide +kernel
theorem dX8_way_144 : decode cX8_way 144 = .ok (.iconst 0, 1) := by decide +kernel
theorem dX8_way_145 : decode cX8_way 145 = .ok (.istore_n 3, 1) := by decide +kernel
theorem dX8_way_146 : decode cX8_way 146 = .ok (.iload_n 0, 1) := by decide +kernel
theorem dX8_way_147 : decode cX8_way 147 = .ok (.bipush 6, 2) := by decide +kernel
theorem dX8_way_149 : decode cX8_way 149 = .ok (.if_icmp .ge 7, 3) := by decide +kernel
theorem dX8_way_152 : decode cX8_way 152 = .ok (.iload_n 3, 1) := by decide +kernel
theorem dX8_way_153 : decode cX8_way 153 = .ok (.goto 6, 3) := by decide +kernel
theorem dX8_way_156 : decode cX8_way 156 = .ok (.iconst 0, 1) := by decide +kernel
theorem dX8_way_157 : decode cX8_way 157 = .ok (.iload_n 3, 1) := by decide +kernel
theorem dX8_way_158 : decode cX8_way 158 = .ok (.isub, 1) := by decide +kernel
theorem dX8_way_159 : decode cX8_way 159 = .ok (.ireturn, 1) := by decide +kernel
theorem dX8_adds_0 : decode cX8_adds 0 = .ok (.iconst 0, 1) := by decide +kernel
theorem dX8_adds_1 : decode cX8_adds 1 = .ok (.istore 4, 2) := by decide +kernel
theorem dX8_adds_3 : decode cX8_adds 3 = .ok (.iload 4, 2) := by decide +kernel
theorem dX8_adds_5 : decode cX8_adds 5 = .ok (.iconst 4, 1) := by decide +kernel
theorem dX8_adds_6 : decode cX8_adds 6 = .ok (.if_icmp .ge 28, 3) := by decide +kernel
theorem dX8_adds_9 : decode cX8_adds 9 = .ok (.aload_n 0, 1) := by decide +kernel
theorem dX8_adds_10 : decode cX8_adds 10 = .ok (.getfield 38, 3) := by decide +kernel
theorem dX8_adds_13 : decode cX8_adds 13 = .ok (.iload 4, 2) := by decide +kernel
theorem dX8_adds_15 : decode cX8_adds 15 = .ok (.dup2, 1) := by decide +kernel
theorem dX8_adds_16 : decode cX8_adds 16 = .ok (.laload, 1) := by decide +kernel
theorem dX8_adds_17 : decode cX8_adds 17 = .ok (.lload_n 1, 1) := by decide +kernel
theorem dX8_adds_18 : decode cX8_adds 18 = .ok (.iload_n 3, 1) := by decide +kernel
theorem dX8_adds_19 : decode cX8_adds 19 = .ok (.iload 4, 2) := by decide +kernel
theorem dX8_adds_21 : decode cX8_adds 21 = .ok (.invokestatic 189, 3) := by decide +kernel
theorem dX8_adds_24 : decode cX8_adds 24 = .ok (.i2l, 1) := by decide +kernel
theorem dX8_adds_25 : decode cX8_adds 25 = .ok (.lmul, 1) := by decide +kernel
theorem dX8_adds_26 : decode cX8_adds 26 = .ok (.ladd, 1) := by decide +kernel
theorem dX8_adds_27 : decode cX8_adds 27 = .ok (.lastore, 1) := by decide +kernel
theorem dX8_adds_28 : decode cX8_adds 28 = .ok (.iinc 4 1, 3) := by decide +kernel
theorem dX8_adds_31 : decode cX8_adds 31 = .ok (.goto (-28), 3) := by decide +kernel
theorem dX8_adds_34 : decode cX8_adds 34 = .ok (.return_, 1) := by decide +kernel
theorem dX8_pulls_0 : decode cX8_pulls 0 = .ok (.iconst 0, 1) := by decide +kernel
theorem dX8_pulls_1 : decode cX8_pulls 1 = .ok (.istore_n 2, 1) := by decide +kernel
theorem dX8_pulls_2 : decode cX8_pulls 2 = .ok (.iload_n 2, 1) := by decide +kernel
theorem dX8_pulls_3 : decode cX8_pulls 3 = .ok (.iconst 4, 1) := by decide +kernel
theorem dX8_pulls_4 : decode cX8_pulls 4 = .ok (.if_icmp .ge 16, 3) := by decide +kernel
theorem dX8_pulls_7 : decode cX8_pulls 7 = .ok (.aload_n 0, 1) := by decide +kernel
theorem dX8_pulls_8 : decode cX8_pulls 8 = .ok (.getfield 38, 3) := by decide +kernel
theorem dX8_pulls_11 : decode cX8_pulls 11 = .ok (.iload_n 2, 1) := by decide +kernel
theorem dX8_pulls_12 : decode cX8_pulls 12 = .ok (.lconst 0, 1) := by decide +kernel
theorem dX8_pulls_13 : decode cX8_pulls 13 = .ok (.lastore, 1) := by decide +kernel
theorem dX8_pulls_14 : decode cX8_pulls 14 = .ok (.iinc 2 1, 3) := by decide +kernel
theorem dX8_pulls_17 : decode cX8_pulls 17 = .ok (.goto (-15), 3) := by decide +kernel
theorem dX8_pulls_20 : decode cX8_pulls 20 = .ok (.iconst 0, 1) := by decide +kernel
theorem dX8_pulls_21 : decode cX8_pulls 21 = .ok (.istore_n 2, 1) := by decide +kernel
theorem dX8_pulls_22 : decode cX8_pulls 22 = .ok (.iload_n 2, 1) := by decide +kernel
theorem dX8_pulls_23 : decode cX8_pulls 23 = .ok (.aload_n 0, 1) := by decide +kernel
theorem dX8_pulls_24 : decode cX8_pulls 24 = .ok (.getfield 192, 3) := by decide +kernel
theorem dX8_pulls_27 : decode cX8_pulls 27 = .ok (.if_icmp .ge 50, 3) := by decide +kernel
theorem dX8_pulls_30 : decode cX8_pulls 30 = .ok (.aload_n 0, 1) := by decide +kernel
theorem dX8_pulls_31 : decode cX8_pulls 31 = .ok (.aload_n 0, 1) := by decide +kernel
theorem dX8_pulls_32 : decode cX8_pulls 32 = .ok (.getfield 23, 3) := by decide +kernel
theorem dX8_pulls_35 : decode cX8_pulls 35 = .ok (.iload_n 2, 1) := by decide +kernel
theorem dX8_pulls_36 : decode cX8_pulls 36 = .ok (.iaload, 1) := by decide +kernel
theorem dX8_pulls_37 : decode cX8_pulls 37 = .ok (.i2l, 1) := by decide +kernel
theorem dX8_pulls_38 : decode cX8_pulls 38 = .ok (.iload_n 1, 1) := by decide +kernel
theorem dX8_pulls_39 : decode cX8_pulls 39 = .ok (.ifCond .ne 15, 3) := by decide +kernel
theorem dX8_pulls_42 : decode cX8_pulls 42 = .ok (.bipush 10, 2) := by decide +kernel
theorem dX8_pulls_44 : decode cX8_pulls 44 = .ok (.aload_n 0, 1) := by decide +kernel
theorem dX8_pulls_45 : decode cX8_pulls 45 = .ok (.getfield 29, 3) := by decide +kernel
theorem dX8_pulls_48 : decode cX8_pulls 48 = .ok (.iload_n 2, 1) := by decide +kernel
theorem dX8_pulls_49 : decode cX8_pulls 49 = .ok (.iaload, 1) := by decide +kernel
theorem dX8_pulls_50 : decode cX8_pulls 50 = .ok (.isub, 1) := by decide +kernel
theorem dX8_pulls_51 : decode cX8_pulls 51 = .ok (.goto 9, 3) := by decide +kernel
theorem dX8_pulls_54 : decode cX8_pulls 54 = .ok (.aload_n 0, 1) := by decide +kernel
theorem dX8_pulls_55 : decode cX8_pulls 55 = .ok (.getfield 29, 3) := by decide +kernel
theorem dX8_pulls_58 : decode cX8_pulls 58 = .ok (.iload_n 2, 1) := by decide +kernel
theorem dX8_pulls_59 : decode cX8_pulls 59 = .ok (.iaload, 1) := by decide +kernel
theorem dX8_pulls_60 : decode cX8_pulls 60 = .ok (.i2l, 1) := by decide +kernel
theorem dX8_pulls_61 : decode cX8_pulls 61 = .ok (.lmul, 1) := by decide +kernel
theorem dX8_pulls_62 : decode cX8_pulls 62 = .ok (.aload_n 0, 1) := by decide +kernel
theorem dX8_pulls_63 : decode cX8_pulls 63 = .ok (.getfield 26, 3) := by decide +kernel
theorem dX8_pulls_66 : decode cX8_pulls 66 = .ok (.iload_n 2, 1) := by decide +kernel
theorem dX8_pulls_67 : decode cX8_pulls 67 = .ok (.iaload, 1) := by decide +kernel
theorem dX8_pulls_68 : decode cX8_pulls 68 = .ok (.invokevirtual 195, 3) := by decide +kernel
theorem dX8_pulls_71 : decode cX8_pulls 71 = .ok (.iinc 2 1, 3) := by decide +kernel
theorem dX8_pulls_74 : decode cX8_pulls 74 = .ok (.goto (-52), 3) := by decide +kernel
theorem dX8_pulls_77 : decode cX8_pulls 77 = .ok (.iconst 0, 1) := by decide +kernel
theorem dX8_pulls_78 : decode cX8_pulls 78 = .ok (.istore_n 2, 1) := by decide +kernel
theorem dX8_pulls_79 : decode cX8_pulls 79 = .ok (.iload_n 2, 1) := by decide +kernel
theorem dX8_pulls_80 : decode cX8_pulls 80 = .ok (.bipush 12, 2) := by decide +kernel
theorem dX8_pulls_82 : decode cX8_pulls 82 = .ok (.if_icmp .ge 30, 3) := by decide +kernel
theorem dX8_pulls_85 : decode cX8_pulls 85 = .ok (.aload_n 0, 1) := by decide +kernel
theorem dX8_pulls_86 : decode cX8_pulls 86 = .ok (.ldc2_w 199, 3) := by decide +kernel
theorem dX8_pulls_89 : decode cX8_pulls 89 = .ok (.aload_n 0, 1) := by decide +kernel
theorem dX8_pulls_90 : decode cX8_pulls 90 = .ok (.getfield 32, 3) := by decide +kernel
theorem dX8_pulls_93 : decode cX8_pulls 93 = .ok (.bipush 12, 2) := by decide +kernel
theorem dX8_pulls_95 : decode cX8_pulls 95 = .ok (.iload_n 1, 1) := by decide +kernel
theorem dX8_pulls_96 : decode cX8_pulls 96 = .ok (.imul, 1) := by decide +kernel
theorem dX8_pulls_97 : decode cX8_pulls 97 = .ok (.iload_n 2, 1) := by decide +kernel
theorem dX8_pulls_98 : decode cX8_pulls 98 = .ok (.iadd, 1) := by decide +kernel
theorem dX8_pulls_99 : decode cX8_pulls 99 = .ok (.iaload, 1) := by decide +kernel
theorem dX8_pulls_100 : decode cX8_pulls 100 = .ok (.i2l, 1) := by decide +kernel
theorem dX8_pulls_101 : decode cX8_pulls 101 = .ok (.lmul, 1) := by decide +kernel
theorem dX8_pulls_102 : decode cX8_pulls 102 = .ok (.iload_n 2, 1) := by decide +kernel
theorem dX8_pulls_103 : decode cX8_pulls 103 = .ok (.invokevirtual 195, 3) := by decide +kernel
theorem dX8_pulls_106 : decode cX8_pulls 106 = .ok (.iinc 2 1, 3) := by decide +kernel
theorem dX8_pulls_109 : decode cX8_pulls 109 = .ok (.goto (-30), 3) := by decide +kernel
theorem dX8_pulls_112 : decode cX8_pulls 112 = .ok (.return_, 1) := by decide +kernel
theorem dX8_squareOf_0 : decode cX8_squareOf 0 = .ok (.aload_n 0, 1) := by decide +kernel
theorem dX8_squareOf_1 : decode cX8_squareOf 1 = .ok (.getfield 38, 3) := by decide +kernel
theorem dX8_squareOf_4 : decode cX8_squareOf 4 = .ok (.iconst 0, 1) := by decide +kernel
theorem dX8_squareOf_5 : decode cX8_squareOf 5 = .ok (.laload, 1) := by decide +kernel
theorem dX8_squareOf_6 : decode cX8_squareOf 6 = .ok (.lstore_n 2, 1) := by decide +kernel
theorem dX8_squareOf_7 : decode cX8_squareOf 7 = .ok (.aload_n 0, 1) := by decide +kernel
theorem dX8_squareOf_8 : decode cX8_squareOf 8 = .ok (.getfield 38, 3) := by decide +kernel
theorem dX8_squareOf_11 : decode cX8_squareOf 11 = .ok (.iconst 1, 1) := by decide +kernel
theorem dX8_squareOf_12 : decode cX8_squareOf 12 = .ok (.laload, 1) := by decide +kernel
theorem dX8_squareOf_13 : decode cX8_squareOf 13 = .ok (.lstore 4, 2) := by decide +kernel
theorem dX8_squareOf_15 : decode cX8_squareOf 15 = .ok (.aload_n 0, 1) := by decide +kernel
theorem dX8_squareOf_16 : decode cX8_squareOf 16 = .ok (.getfield 38, 3) := by decide +kernel
theorem dX8_squareOf_19 : decode cX8_squareOf 19 = .ok (.iconst 2, 1) := by decide +kernel
theorem dX8_squareOf_20 : decode cX8_squareOf 20 = .ok (.laload, 1) := by decide +kernel
theorem dX8_squareOf_21 : decode cX8_squareOf 21 = .ok (.lstore 6, 2) := by decide +kernel
theorem dX8_squareOf_23 : decode cX8_squareOf 23 = .ok (.aload_n 0, 1) := by decide +kernel
theorem dX8_squareOf_24 : decode cX8_squareOf 24 = .ok (.getfield 38, 3) := by decide +kernel
theorem dX8_squareOf_27 : decode cX8_squareOf 27 = .ok (.iconst 3, 1) := by decide +kernel
theorem dX8_squareOf_28 : decode cX8_squareOf 28 = .ok (.laload, 1) := by decide +kernel
theorem dX8_squareOf_29 : decode cX8_squareOf 29 = .ok (.lstore 8, 2) := by decide +kernel
theorem dX8_squareOf_31 : decode cX8_squareOf 31 = .ok (.iload_n 1, 1) := by decide +kernel
theorem dX8_squareOf_32 : decode cX8_squareOf 32 = .ok (.ifCond .ne 35, 3) := by decide +kernel
theorem dX8_squareOf_35 : decode cX8_squareOf 35 = .ok (.lload_n 2, 1) := by decide +kernel
theorem dX8_squareOf_36 : decode cX8_squareOf 36 = .ok (.lload_n 2, 1) := by decide +kernel
theorem dX8_squareOf_37 : decode cX8_squareOf 37 = .ok (.lmul, 1) := by decide +kernel
theorem dX8_squareOf_38 : decode cX8_squareOf 38 = .ok (.ldc2_w 83, 3) := by decide +kernel
theorem dX8_squareOf_41 : decode cX8_squareOf 41 = .ok (.lload 4, 2) := by decide +kernel
theorem dX8_squareOf_43 : decode cX8_squareOf 43 = .ok (.lmul, 1) := by decide +kernel
theorem dX8_squareOf_44 : decode cX8_squareOf 44 = .ok (.lload 4, 2) := by decide +kernel
theorem dX8_squareOf_46 : decode cX8_squareOf 46 = .ok (.lmul, 1) := by decide +kernel
theorem dX8_squareOf_47 : decode cX8_squareOf 47 = .ok (.ladd, 1) := by decide +kernel
theorem dX8_squareOf_48 : decode cX8_squareOf 48 = .ok (.lload 6, 2) := by decide +kernel
theorem dX8_squareOf_50 : decode cX8_squareOf 50 = .ok (.lload 6, 2) := by decide +kernel
theorem dX8_squareOf_52 : decode cX8_squareOf 52 = .ok (.lmul, 1) := by decide +kernel
theorem dX8_squareOf_53 : decode cX8_squareOf 53 = .ok (.ladd, 1) := by decide +kernel
theorem dX8_squareOf_54 : decode cX8_squareOf 54 = .ok (.ldc2_w 83, 3) := by decide +kernel
theorem dX8_squareOf_57 : decode cX8_squareOf 57 = .ok (.lload 8, 2) := by decide +kernel
theorem dX8_squareOf_59 : decode cX8_squareOf 59 = .ok (.lmul, 1) := by decide +kernel
theorem dX8_squareOf_60 : decode cX8_squareOf 60 = .ok (.lload 8, 2) := by decide +kernel
theorem dX8_squareOf_62 : decode cX8_squareOf 62 = .ok (.lmul, 1) := by decide +kernel
theorem dX8_squareOf_63 : decode cX8_squareOf 63 = .ok (.ladd, 1) := by decide +kernel
theorem dX8_squareOf_64 : decode cX8_squareOf 64 = .ok (.goto 21, 3) := by decide +kernel
theorem dX8_squareOf_67 : decode cX8_squareOf 67 = .ok (.ldc2_w 201, 3) := by decide +kernel
theorem dX8_squareOf_70 : decode cX8_squareOf 70 = .ok (.lload_n 2, 1) := by decide +kernel
theorem dX8_squareOf_71 : decode cX8_squareOf 71 = .ok (.lmul, 1) := by decide +kernel
theorem dX8_squareOf_72 : decode cX8_squareOf 72 = .ok (.lload 4, 2) := by decide +kernel
theorem dX8_squareOf_74 : decode cX8_squareOf 74 = .ok (.lmul, 1) := by decide +kernel
theorem dX8_squareOf_75 : decode cX8_squareOf 75 = .ok (.ldc2_w 201, 3) := by decide +kernel
theorem dX8_squareOf_78 : decode cX8_squareOf 78 = .ok (.lload 6, 2) := by decide +kernel
theorem dX8_squareOf_80 : decode cX8_squareOf 80 = .ok (.lmul, 1) := by decide +kernel
theorem dX8_squareOf_81 : decode cX8_squareOf 81 = .ok (.lload 8, 2) := by decide +kernel
theorem dX8_squareOf_83 : decode cX8_squareOf 83 = .ok (.lmul, 1) := by decide +kernel
theorem dX8_squareOf_84 : decode cX8_squareOf 84 = .ok (.ladd, 1) := by decide +kernel
theorem dX8_squareOf_85 : decode cX8_squareOf 85 = .ok (.lreturn, 1) := by decide +kernel
theorem dX8_isQuiet_0 : decode cX8_isQuiet 0 = .ok (.aload_n 0, 1) := by decide +kernel
theorem dX8_isQuiet_1 : decode cX8_isQuiet 1 = .ok (.aload_n 0, 1) := by decide +kernel
theorem dX8_isQuiet_2 : decode cX8_isQuiet 2 = .ok (.iconst 0, 1) := by decide +kernel
theorem dX8_isQuiet_3 : decode cX8_isQuiet 3 = .ok (.invokevirtual 203, 3) := by decide +kernel
theorem dX8_isQuiet_6 : decode cX8_isQuiet 6 = .ok (.ldc2_w 206, 3) := by decide +kernel
theorem dX8_isQuiet_9 : decode cX8_isQuiet 9 = .ok (.aload_n 0, 1) := by decide +kernel
theorem dX8_isQuiet_10 : decode cX8_isQuiet 10 = .ok (.getfield 69, 3) := by decide +kernel
theorem dX8_isQuiet_13 : decode cX8_isQuiet 13 = .ok (.i2l, 1) := by decide +kernel
theorem dX8_isQuiet_14 : decode cX8_isQuiet 14 = .ok (.lmul, 1) := by decide +kernel
theorem dX8_isQuiet_15 : decode cX8_isQuiet 15 = .ok (.aload_n 0, 1) := by decide +kernel
theorem dX8_isQuiet_16 : decode cX8_isQuiet 16 = .ok (.getfield 69, 3) := by decide +kernel
theorem dX8_isQuiet_19 : decode cX8_isQuiet 19 = .ok (.i2l, 1) := by decide +kernel
theorem dX8_isQuiet_20 : decode cX8_isQuiet 20 = .ok (.lmul, 1) := by decide +kernel
theorem dX8_isQuiet_21 : decode cX8_isQuiet 21 = .ok (.lsub, 1) := by decide +kernel
theorem dX8_isQuiet_22 : decode cX8_isQuiet 22 = .ok (.aload_n 0, 1) := by decide +kernel
theorem dX8_isQuiet_23 : decode cX8_isQuiet 23 = .ok (.iconst 1, 1) := by decide +kernel
theorem dX8_isQuiet_24 : decode cX8_isQuiet 24 = .ok (.invokevirtual 203, 3) := by decide +kernel
theorem dX8_isQuiet_27 : decode cX8_isQuiet 27 = .ok (.invokevirtual 185, 3) := by decide +kernel
theorem dX8_isQuiet_30 : decode cX8_isQuiet 30 = .ok (.ifCond .gt 7, 3) := by decide +kernel
theorem dX8_isQuiet_33 : decode cX8_isQuiet 33 = .ok (.iconst 1, 1) := by decide +kernel
theorem dX8_isQuiet_34 : decode cX8_isQuiet 34 = .ok (.goto 4, 3) := by decide +kernel
theorem dX8_isQuiet_37 : decode cX8_isQuiet 37 = .ok (.iconst 0, 1) := by decide +kernel
theorem dX8_isQuiet_38 : decode cX8_isQuiet 38 = .ok (.ireturn, 1) := by decide +kernel
theorem dX8_pullTo_0 : decode cX8_pullTo 0 = .ok (.aload_n 0, 1) := by decide +kernel
theorem dX8_pullTo_1 : decode cX8_pullTo 1 = .ok (.iload_n 2, 1) := by decide +kernel
theorem dX8_pullTo_2 : decode cX8_pullTo 2 = .ok (.invokevirtual 208, 3) := by decide +kernel
theorem dX8_pullTo_5 : decode cX8_pullTo 5 = .ok (.aload_n 0, 1) := by decide +kernel
theorem dX8_pullTo_6 : decode cX8_pullTo 6 = .ok (.iload_n 1, 1) := by decide +kernel
theorem dX8_pullTo_7 : decode cX8_pullTo 7 = .ok (.aload_n 0, 1) := by decide +kernel
theorem dX8_pullTo_8 : decode cX8_pullTo 8 = .ok (.getfield 38, 3) := by decide +kernel
theorem dX8_pullTo_11 : decode cX8_pullTo 11 = .ok (.iconst 0, 1) := by decide +kernel
theorem dX8_pullTo_12 : decode cX8_pullTo 12 = .ok (.laload, 1) := by decide +kernel
theorem dX8_pullTo_13 : decode cX8_pullTo 13 = .ok (.aload_n 0, 1) := by decide +kernel
theorem dX8_pullTo_14 : decode cX8_pullTo 14 = .ok (.getfield 38, 3) := by decide +kernel
theorem dX8_pullTo_17 : decode cX8_pullTo 17 = .ok (.iconst 1, 1) := by decide +kernel
theorem dX8_pullTo_18 : decode cX8_pullTo 18 = .ok (.laload, 1) := by decide +kernel
theorem dX8_pullTo_19 : decode cX8_pullTo 19 = .ok (.aload_n 0, 1) := by decide +kernel
theorem dX8_pullTo_20 : decode cX8_pullTo 20 = .ok (.getfield 38, 3) := by decide +kernel
theorem dX8_pullTo_23 : decode cX8_pullTo 23 = .ok (.iconst 2, 1) := by decide +kernel
theorem dX8_pullTo_24 : decode cX8_pullTo 24 = .ok (.laload, 1) := by decide +kernel
theorem dX8_pullTo_25 : decode cX8_pullTo 25 = .ok (.aload_n 0, 1) := by decide +kernel
theorem dX8_pullTo_26 : decode cX8_pullTo 26 = .ok (.getfield 38, 3) := by decide +kernel
theorem dX8_pullTo_29 : decode cX8_pullTo 29 = .ok (.iconst 3, 1) := by decide +kernel
theorem dX8_pullTo_30 : decode cX8_pullTo 30 = .ok (.laload, 1) := by decide +kernel
theorem dX8_pullTo_31 : decode cX8_pullTo 31 = .ok (.ldc2_w 211, 3) := by decide +kernel
theorem dX8_pullTo_34 : decode cX8_pullTo 34 = .ok (.invokevirtual 134, 3) := by decide +kernel
theorem dX8_pullTo_37 : decode cX8_pullTo 37 = .ok (.return_, 1) := by decide +kernel
theorem dX8_forgets_0 : decode cX8_forgets 0 = .ok (.aload_n 0, 1) := by decide +kernel
theorem dX8_forgets_1 : decode cX8_forgets 1 = .ok (.iconst 0, 1) := by decide +kernel
theorem dX8_forgets_2 : decode cX8_forgets 2 = .ok (.putfield 213, 3) := by decide +kernel
theorem dX8_forgets_5 : decode cX8_forgets 5 = .ok (.return_, 1) := by decide +kernel
theorem dX8_lump_0 : decode cX8_lump 0 = .ok (.iload_n 1, 1) := by decide +kernel
theorem dX8_lump_1 : decode cX8_lump 1 = .ok (.i2l, 1) := by decide +kernel
theorem dX8_lump_2 : decode cX8_lump 2 = .ok (.lconst 1, 1) := by decide +kernel
theorem dX8_lump_3 : decode cX8_lump 3 = .ok (.ldc2_w 216, 3) := by decide +kernel
theorem dX8_lump_6 : decode cX8_lump 6 = .ok (.invokestatic 72, 3) := by decide +kernel
theorem dX8_lump_9 : decode cX8_lump 9 = .ok (.ifCond .eq 22, 3) := by decide +kernel
theorem dX8_lump_12 : decode cX8_lump 12 = .ok (.iload_n 2, 1) := by decide +kernel
theorem dX8_lump_13 : decode cX8_lump 13 = .ok (.invokestatic 218, 3) := by decide +kernel
theorem dX8_lump_16 : decode cX8_lump 16 = .ok (.ifCond .eq 15, 3) := by decide +kernel
theorem dX8_lump_19 : decode cX8_lump 19 = .ok (.iload_n 3, 1) := by decide +kernel
theorem dX8_lump_20 : decode cX8_lump 20 = .ok (.i2l, 1) := by decide +kernel
theorem dX8_lump_21 : decode cX8_lump 21 = .ok (.lconst 0, 1) := by decide +kernel
theorem dX8_lump_22 : decode cX8_lump 22 = .ok (.ldc2_w 221, 3) := by decide +kernel
theorem dX8_lump_25 : decode cX8_lump 25 = .ok (.invokestatic 72, 3) := by decide +kernel
theorem dX8_lump_28 : decode cX8_lump 28 = .ok (.ifCond .ne 6, 3) := by decide +kernel
theorem dX8_lump_31 : decode cX8_lump 31 = .ok (.bipush (-2), 2) := by decide +kernel
theorem dX8_lump_33 : decode cX8_lump 33 = .ok (.ireturn, 1) := by decide +kernel
theorem dX8_lump_34 : decode cX8_lump 34 = .ok (.aload_n 0, 1) := by decide +kernel
theorem dX8_lump_35 : decode cX8_lump 35 = .ok (.getfield 192, 3) := by decide +kernel
theorem dX8_lump_38 : decode cX8_lump 38 = .ok (.bipush 8, 2) := by decide +kernel
theorem dX8_lump_40 : decode cX8_lump 40 = .ok (.if_icmp .ne 6, 3) := by decide +kernel
theorem dX8_lump_43 : decode cX8_lump 43 = .ok (.bipush (-4), 2) := by decide +kernel
theorem dX8_lump_45 : decode cX8_lump 45 = .ok (.ireturn, 1) := by decide +kernel
theorem dX8_lump_46 : decode cX8_lump 46 = .ok (.aload_n 0, 1) := by decide +kernel
theorem dX8_lump_47 : decode cX8_lump 47 = .ok (.getfield 23, 3) := by decide +kernel
theorem dX8_lump_50 : decode cX8_lump 50 = .ok (.aload_n 0, 1) := by decide +kernel
theorem dX8_lump_51 : decode cX8_lump 51 = .ok (.getfield 192, 3) := by decide +kernel
theorem dX8_lump_54 : decode cX8_lump 54 = .ok (.iload_n 1, 1) := by decide +kernel
theorem dX8_lump_55 : decode cX8_lump 55 = .ok (.iastore, 1) := by decide +kernel
theorem dX8_lump_56 : decode cX8_lump 56 = .ok (.aload_n 0, 1) := by decide +kernel
theorem dX8_lump_57 : decode cX8_lump 57 = .ok (.getfield 26, 3) := by decide +kernel
theorem dX8_lump_60 : decode cX8_lump 60 = .ok (.aload_n 0, 1) := by decide +kernel
theorem dX8_lump_61 : decode cX8_lump 61 = .ok (.getfield 192, 3) := by decide +kernel
theorem dX8_lump_64 : decode cX8_lump 64 = .ok (.iload_n 2, 1) := by decide +kernel
theorem dX8_lump_65 : decode cX8_lump 65 = .ok (.iastore, 1) := by decide +kernel
theorem dX8_lump_66 : decode cX8_lump 66 = .ok (.aload_n 0, 1) := by decide +kernel
theorem dX8_lump_67 : decode cX8_lump 67 = .ok (.getfield 29, 3) := by decide +kernel
theorem dX8_lump_70 : decode cX8_lump 70 = .ok (.aload_n 0, 1) := by decide +kernel
theorem dX8_lump_71 : decode cX8_lump 71 = .ok (.getfield 192, 3) := by decide +kernel
theorem dX8_lump_74 : decode cX8_lump 74 = .ok (.iload_n 3, 1) := by decide +kernel
theorem dX8_lump_75 : decode cX8_lump 75 = .ok (.iastore, 1) := by decide +kernel
theorem dX8_lump_76 : decode cX8_lump 76 = .ok (.aload_n 0, 1) := by decide +kernel
theorem dX8_lump_77 : decode cX8_lump 77 = .ok (.dup, 1) := by decide +kernel
theorem dX8_lump_78 : decode cX8_lump 78 = .ok (.getfield 192, 3) := by decide +kernel
theorem dX8_lump_81 : decode cX8_lump 81 = .ok (.iconst 1, 1) := by decide +kernel
theorem dX8_lump_82 : decode cX8_lump 82 = .ok (.iadd, 1) := by decide +kernel
theorem dX8_lump_83 : decode cX8_lump 83 = .ok (.putfield 192, 3) := by decide +kernel
theorem dX8_lump_86 : decode cX8_lump 86 = .ok (.aload_n 0, 1) := by decide +kernel
theorem dX8_lump_87 : decode cX8_lump 87 = .ok (.invokevirtual 223, 3) := by decide +kernel
theorem dX8_lump_90 : decode cX8_lump 90 = .ok (.aload_n 0, 1) := by decide +kernel
theorem dX8_lump_91 : decode cX8_lump 91 = .ok (.getfield 192, 3) := by decide +kernel
theorem dX8_lump_94 : decode cX8_lump 94 = .ok (.iconst 1, 1) := by decide +kernel
theorem dX8_lump_95 : decode cX8_lump 95 = .ok (.isub, 1) := by decide +kernel
theorem dX8_lump_96 : decode cX8_lump 96 = .ok (.ireturn, 1) := by decide +kernel
theorem dX8_unlump_0 : decode cX8_unlump 0 = .ok (.aload_n 0, 1) := by decide +kernel
theorem dX8_unlump_1 : decode cX8_unlump 1 = .ok (.getfield 192, 3) := by decide +kernel
theorem dX8_unlump_4 : decode cX8_unlump 4 = .ok (.ifCond .ne 6, 3) := by decide +kernel
theorem dX8_unlump_7 : decode cX8_unlump 7 = .ok (.bipush (-3), 2) := by decide +kernel
theorem dX8_unlump_9 : decode cX8_unlump 9 = .ok (.ireturn, 1) := by decide +kernel
theorem dX8_unlump_10 : decode cX8_unlump 10 = .ok (.aload_n 0, 1) := by decide +kernel
theorem dX8_unlump_11 : decode cX8_unlump 11 = .ok (.dup, 1) := by decide +kernel
theorem dX8_unlump_12 : decode cX8_unlump 12 = .ok (.getfield 192, 3) := by decide +kernel
theorem dX8_unlump_15 : decode cX8_unlump 15 = .ok (.iconst 1, 1) := by decide +kernel
theorem dX8_unlump_16 : decode cX8_unlump 16 = .ok (.isub, 1) := by decide +kernel
theorem dX8_unlump_17 : decode cX8_unlump 17 = .ok (.putfield 192, 3) := by decide +kernel
theorem dX8_unlump_20 : decode cX8_unlump 20 = .ok (.aload_n 0, 1) := by decide +kernel
theorem dX8_unlump_21 : decode cX8_unlump 21 = .ok (.invokevirtual 223, 3) := by decide +kernel
theorem dX8_unlump_24 : decode cX8_unlump 24 = .ok (.aload_n 0, 1) := by decide +kernel
theorem dX8_unlump_25 : decode cX8_unlump 25 = .ok (.getfield 192, 3) := by decide +kernel
theorem dX8_unlump_28 : decode cX8_unlump 28 = .ok (.ireturn, 1) := by decide +kernel
theorem dX8_holesIn_0 : decode cX8_holesIn 0 = .ok (.iconst 0, 1) := by decide +kernel
theorem dX8_holesIn_1 : decode cX8_holesIn 1 = .ok (.istore_n 2, 1) := by decide +kernel
theorem dX8_holesIn_2 : decode cX8_holesIn 2 = .ok (.iconst 0, 1) := by decide +kernel
theorem dX8_holesIn_3 : decode cX8_holesIn 3 = .ok (.istore_n 3, 1) := by decide +kernel
theorem dX8_holesIn_4 : decode cX8_holesIn 4 = .ok (.iload_n 3, 1) := by decide +kernel
theorem dX8_holesIn_5 : decode cX8_holesIn 5 = .ok (.bipush 12, 2) := by decide +kernel
theorem dX8_holesIn_7 : decode cX8_holesIn 7 = .ok (.if_icmp .ge 31, 3) := by decide +kernel
