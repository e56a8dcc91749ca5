theorem dX8_holesIn_10 : decode cX8_holesIn 10 = .ok (.iload_n 2, 1) := by decide +kernel
theorem dX8_holesIn_11 : decode cX8_holesIn 11 = .ok (.aload_n 0, 1) := by decide +kernel
theorem dX8_holesIn_12 : decode cX8_holesIn 12 = .ok (.getfield 32, 3) := by decide +kernel
theorem dX8_holesIn_15 : decode cX8_holesIn 15 = .ok (.bipush 12, 2) := by decide +kernel
theorem dX8_holesIn_17 : decode cX8_holesIn 17 = .ok (.iload_n 1, 1) := by decide +kernel
theorem dX8_holesIn_18 : decode cX8_holesIn 18 = .ok (.imul, 1) := by decide +kernel
theorem dX8_holesIn_19 : decode cX8_holesIn 19 = .ok (.iload_n 3, 1) := by decide +kernel
theorem dX8_holesIn_20 : decode cX8_holesIn 20 = .ok (.iadd, 1) := by decide +kernel
theorem dX8_holesIn_21 : decode cX8_holesIn 21 = .ok (.iaload, 1) := by decide +kernel
theorem dX8_holesIn_22 : decode cX8_holesIn 22 = .ok (.ifCond .le 7, 3) := by decide +kernel
theorem dX8_holesIn_25 : decode cX8_holesIn 25 = .ok (.iconst 1, 1) := by decide +kernel
theorem dX8_holesIn_26 : decode cX8_holesIn 26 = .ok (.goto 4, 3) := by decide +kernel
theorem dX8_holesIn_29 : decode cX8_holesIn 29 = .ok (.iconst 0, 1) := by decide +kernel
theorem dX8_holesIn_30 : decode cX8_holesIn 30 = .ok (.iadd, 1) := by decide +kernel
theorem dX8_holesIn_31 : decode cX8_holesIn 31 = .ok (.istore_n 2, 1) := by decide +kernel
theorem dX8_holesIn_32 : decode cX8_holesIn 32 = .ok (.iinc 3 1, 3) := by decide +kernel
theorem dX8_holesIn_35 : decode cX8_holesIn 35 = .ok (.goto (-31), 3) := by decide +kernel
theorem dX8_holesIn_38 : decode cX8_holesIn 38 = .ok (.iload_n 2, 1) := by decide +kernel
theorem dX8_holesIn_39 : decode cX8_holesIn 39 = .ok (.ireturn, 1) := by decide +kernel
theorem dX8_isFree_0 : decode cX8_isFree 0 = .ok (.aload_n 0, 1) := by decide +kernel
theorem dX8_isFree_1 : decode cX8_isFree 1 = .ok (.getfield 35, 3) := by decide +kernel
theorem dX8_isFree_4 : decode cX8_isFree 4 = .ok (.iload_n 1, 1) := by decide +kernel
theorem dX8_isFree_5 : decode cX8_isFree 5 = .ok (.iaload, 1) := by decide +kernel
theorem dX8_isFree_6 : decode cX8_isFree 6 = .ok (.iload_n 2, 1) := by decide +kernel
theorem dX8_isFree_7 : decode cX8_isFree 7 = .ok (.ishr, 1) := by decide +kernel
theorem dX8_isFree_8 : decode cX8_isFree 8 = .ok (.iconst 1, 1) := by decide +kernel
theorem dX8_isFree_9 : decode cX8_isFree 9 = .ok (.iand, 1) := by decide +kernel
theorem dX8_isFree_10 : decode cX8_isFree 10 = .ok (.iconst 1, 1) := by decide +kernel
theorem dX8_isFree_11 : decode cX8_isFree 11 = .ok (.if_icmp .ne 21, 3) := by decide +kernel
theorem dX8_isFree_14 : decode cX8_isFree 14 = .ok (.aload_n 0, 1) := by decide +kernel
theorem dX8_isFree_15 : decode cX8_isFree 15 = .ok (.getfield 32, 3) := by decide +kernel
theorem dX8_isFree_18 : decode cX8_isFree 18 = .ok (.bipush 12, 2) := by decide +kernel
theorem dX8_isFree_20 : decode cX8_isFree 20 = .ok (.iload_n 1, 1) := by decide +kernel
theorem dX8_isFree_21 : decode cX8_isFree 21 = .ok (.imul, 1) := by decide +kernel
theorem dX8_isFree_22 : decode cX8_isFree 22 = .ok (.iload_n 2, 1) := by decide +kernel
theorem dX8_isFree_23 : decode cX8_isFree 23 = .ok (.iadd, 1) := by decide +kernel
theorem dX8_isFree_24 : decode cX8_isFree 24 = .ok (.iaload, 1) := by decide +kernel
theorem dX8_isFree_25 : decode cX8_isFree 25 = .ok (.ifCond .ne 7, 3) := by decide +kernel
theorem dX8_isFree_28 : decode cX8_isFree 28 = .ok (.iconst 1, 1) := by decide +kernel
theorem dX8_isFree_29 : decode cX8_isFree 29 = .ok (.goto 4, 3) := by decide +kernel
theorem dX8_isFree_32 : decode cX8_isFree 32 = .ok (.iconst 0, 1) := by decide +kernel
theorem dX8_isFree_33 : decode cX8_isFree 33 = .ok (.ireturn, 1) := by decide +kernel
theorem dX8_drill_0 : decode cX8_drill 0 = .ok (.iload_n 1, 1) := by decide +kernel
theorem dX8_drill_1 : decode cX8_drill 1 = .ok (.invokestatic 226, 3) := by decide +kernel
theorem dX8_drill_4 : decode cX8_drill 4 = .ok (.ifCond .eq 22, 3) := by decide +kernel
theorem dX8_drill_7 : decode cX8_drill 7 = .ok (.iload_n 2, 1) := by decide +kernel
theorem dX8_drill_8 : decode cX8_drill 8 = .ok (.invokestatic 218, 3) := by decide +kernel
theorem dX8_drill_11 : decode cX8_drill 11 = .ok (.ifCond .eq 15, 3) := by decide +kernel
theorem dX8_drill_14 : decode cX8_drill 14 = .ok (.iload_n 3, 1) := by decide +kernel
theorem dX8_drill_15 : decode cX8_drill 15 = .ok (.i2l, 1) := by decide +kernel
theorem dX8_drill_16 : decode cX8_drill 16 = .ok (.lconst 1, 1) := by decide +kernel
theorem dX8_drill_17 : decode cX8_drill 17 = .ok (.ldc2_w 229, 3) := by decide +kernel
theorem dX8_drill_20 : decode cX8_drill 20 = .ok (.invokestatic 72, 3) := by decide +kernel
theorem dX8_drill_23 : decode cX8_drill 23 = .ok (.ifCond .ne 6, 3) := by decide +kernel
theorem dX8_drill_26 : decode cX8_drill 26 = .ok (.bipush (-2), 2) := by decide +kernel
theorem dX8_drill_28 : decode cX8_drill 28 = .ok (.ireturn, 1) := by decide +kernel
theorem dX8_drill_29 : decode cX8_drill 29 = .ok (.aload_n 0, 1) := by decide +kernel
theorem dX8_drill_30 : decode cX8_drill 30 = .ok (.iload_n 1, 1) := by decide +kernel
theorem dX8_drill_31 : decode cX8_drill 31 = .ok (.iload_n 2, 1) := by decide +kernel
theorem dX8_drill_32 : decode cX8_drill 32 = .ok (.invokevirtual 231, 3) := by decide +kernel
theorem dX8_drill_35 : decode cX8_drill 35 = .ok (.ifCond .ne 6, 3) := by decide +kernel
theorem dX8_drill_38 : decode cX8_drill 38 = .ok (.bipush (-3), 2) := by decide +kernel
theorem dX8_drill_40 : decode cX8_drill 40 = .ok (.ireturn, 1) := by decide +kernel
theorem dX8_drill_41 : decode cX8_drill 41 = .ok (.aload_n 0, 1) := by decide +kernel
theorem dX8_drill_42 : decode cX8_drill 42 = .ok (.getfield 32, 3) := by decide +kernel
theorem dX8_drill_45 : decode cX8_drill 45 = .ok (.bipush 12, 2) := by decide +kernel
theorem dX8_drill_47 : decode cX8_drill 47 = .ok (.iload_n 1, 1) := by decide +kernel
theorem dX8_drill_48 : decode cX8_drill 48 = .ok (.imul, 1) := by decide +kernel
theorem dX8_drill_49 : decode cX8_drill 49 = .ok (.iload_n 2, 1) := by decide +kernel
theorem dX8_drill_50 : decode cX8_drill 50 = .ok (.iadd, 1) := by decide +kernel
theorem dX8_drill_51 : decode cX8_drill 51 = .ok (.iload_n 3, 1) := by decide +kernel
theorem dX8_drill_52 : decode cX8_drill 52 = .ok (.iastore, 1) := by decide +kernel
theorem dX8_drill_53 : decode cX8_drill 53 = .ok (.aload_n 0, 1) := by decide +kernel
theorem dX8_drill_54 : decode cX8_drill 54 = .ok (.invokevirtual 223, 3) := by decide +kernel
theorem dX8_drill_57 : decode cX8_drill 57 = .ok (.aload_n 0, 1) := by decide +kernel
theorem dX8_drill_58 : decode cX8_drill 58 = .ok (.iload_n 1, 1) := by decide +kernel
theorem dX8_drill_59 : decode cX8_drill 59 = .ok (.invokevirtual 235, 3) := by decide +kernel
theorem dX8_drill_62 : decode cX8_drill 62 = .ok (.ireturn, 1) := by decide +kernel
theorem dX8_fill_0 : decode cX8_fill 0 = .ok (.iload_n 1, 1) := by decide +kernel
theorem dX8_fill_1 : decode cX8_fill 1 = .ok (.invokestatic 226, 3) := by decide +kernel
theorem dX8_fill_4 : decode cX8_fill 4 = .ok (.ifCond .eq 10, 3) := by decide +kernel
theorem dX8_fill_7 : decode cX8_fill 7 = .ok (.iload_n 2, 1) := by decide +kernel
theorem dX8_fill_8 : decode cX8_fill 8 = .ok (.invokestatic 218, 3) := by decide +kernel
theorem dX8_fill_11 : decode cX8_fill 11 = .ok (.ifCond .ne 6, 3) := by decide +kernel
theorem dX8_fill_14 : decode cX8_fill 14 = .ok (.bipush (-2), 2) := by decide +kernel
theorem dX8_fill_16 : decode cX8_fill 16 = .ok (.ireturn, 1) := by decide +kernel
theorem dX8_fill_17 : decode cX8_fill 17 = .ok (.aload_n 0, 1) := by decide +kernel
theorem dX8_fill_18 : decode cX8_fill 18 = .ok (.getfield 32, 3) := by decide +kernel
theorem dX8_fill_21 : decode cX8_fill 21 = .ok (.bipush 12, 2) := by decide +kernel
theorem dX8_fill_23 : decode cX8_fill 23 = .ok (.iload_n 1, 1) := by decide +kernel
theorem dX8_fill_24 : decode cX8_fill 24 = .ok (.imul, 1) := by decide +kernel
theorem dX8_fill_25 : decode cX8_fill 25 = .ok (.iload_n 2, 1) := by decide +kernel
theorem dX8_fill_26 : decode cX8_fill 26 = .ok (.iadd, 1) := by decide +kernel
theorem dX8_fill_27 : decode cX8_fill 27 = .ok (.iaload, 1) := by decide +kernel
theorem dX8_fill_28 : decode cX8_fill 28 = .ok (.istore_n 3, 1) := by decide +kernel
theorem dX8_fill_29 : decode cX8_fill 29 = .ok (.iload_n 3, 1) := by decide +kernel
theorem dX8_fill_30 : decode cX8_fill 30 = .ok (.ifCond .ne 6, 3) := by decide +kernel
theorem dX8_fill_33 : decode cX8_fill 33 = .ok (.bipush (-3), 2) := by decide +kernel
theorem dX8_fill_35 : decode cX8_fill 35 = .ok (.ireturn, 1) := by decide +kernel
theorem dX8_fill_36 : decode cX8_fill 36 = .ok (.aload_n 0, 1) := by decide +kernel
theorem dX8_fill_37 : decode cX8_fill 37 = .ok (.getfield 32, 3) := by decide +kernel
theorem dX8_fill_40 : decode cX8_fill 40 = .ok (.bipush 12, 2) := by decide +kernel
theorem dX8_fill_42 : decode cX8_fill 42 = .ok (.iload_n 1, 1) := by decide +kernel
theorem dX8_fill_43 : decode cX8_fill 43 = .ok (.imul, 1) := by decide +kernel
theorem dX8_fill_44 : decode cX8_fill 44 = .ok (.iload_n 2, 1) := by decide +kernel
theorem dX8_fill_45 : decode cX8_fill 45 = .ok (.iadd, 1) := by decide +kernel
theorem dX8_fill_46 : decode cX8_fill 46 = .ok (.iconst 0, 1) := by decide +kernel
theorem dX8_fill_47 : decode cX8_fill 47 = .ok (.iastore, 1) := by decide +kernel
theorem dX8_fill_48 : decode cX8_fill 48 = .ok (.aload_n 0, 1) := by decide +kernel
theorem dX8_fill_49 : decode cX8_fill 49 = .ok (.invokevirtual 223, 3) := by decide +kernel
theorem dX8_fill_52 : decode cX8_fill 52 = .ok (.iload_n 3, 1) := by decide +kernel
theorem dX8_fill_53 : decode cX8_fill 53 = .ok (.ireturn, 1) := by decide +kernel
theorem dX8_hole_0 : decode cX8_hole 0 = .ok (.iload_n 1, 1) := by decide +kernel
theorem dX8_hole_1 : decode cX8_hole 1 = .ok (.invokestatic 226, 3) := by decide +kernel
theorem dX8_hole_4 : decode cX8_hole 4 = .ok (.ifCond .eq 24, 3) := by decide +kernel
theorem dX8_hole_7 : decode cX8_hole 7 = .ok (.iload_n 2, 1) := by decide +kernel
theorem dX8_hole_8 : decode cX8_hole 8 = .ok (.invokestatic 218, 3) := by decide +kernel
theorem dX8_hole_11 : decode cX8_hole 11 = .ok (.ifCond .eq 17, 3) := by decide +kernel
theorem dX8_hole_14 : decode cX8_hole 14 = .ok (.aload_n 0, 1) := by decide +kernel
theorem dX8_hole_15 : decode cX8_hole 15 = .ok (.getfield 32, 3) := by decide +kernel
theorem dX8_hole_18 : decode cX8_hole 18 = .ok (.bipush 12, 2) := by decide +kernel
theorem dX8_hole_20 : decode cX8_hole 20 = .ok (.iload_n 1, 1) := by decide +kernel
theorem dX8_hole_21 : decode cX8_hole 21 = .ok (.imul, 1) := by decide +kernel
theorem dX8_hole_22 : decode cX8_hole 22 = .ok (.iload_n 2, 1) := by decide +kernel
theorem dX8_hole_23 : decode cX8_hole 23 = .ok (.iadd, 1) := by decide +kernel
theorem dX8_hole_24 : decode cX8_hole 24 = .ok (.iaload, 1) := by decide +kernel
theorem dX8_hole_25 : decode cX8_hole 25 = .ok (.goto 5, 3) := by decide +kernel
theorem dX8_hole_28 : decode cX8_hole 28 = .ok (.bipush (-2), 2) := by decide +kernel
theorem dX8_hole_30 : decode cX8_hole 30 = .ok (.ireturn, 1) := by decide +kernel
theorem dX8_lawful_0 : decode cX8_lawful 0 = .ok (.iload_n 1, 1) := by decide +kernel
theorem dX8_lawful_1 : decode cX8_lawful 1 = .ok (.invokestatic 226, 3) := by decide +kernel
theorem dX8_lawful_4 : decode cX8_lawful 4 = .ok (.ifCond .eq 15, 3) := by decide +kernel
theorem dX8_lawful_7 : decode cX8_lawful 7 = .ok (.iload_n 2, 1) := by decide +kernel
theorem dX8_lawful_8 : decode cX8_lawful 8 = .ok (.i2l, 1) := by decide +kernel
theorem dX8_lawful_9 : decode cX8_lawful 9 = .ok (.lconst 0, 1) := by decide +kernel
theorem dX8_lawful_10 : decode cX8_lawful 10 = .ok (.ldc2_w 238, 3) := by decide +kernel
theorem dX8_lawful_13 : decode cX8_lawful 13 = .ok (.invokestatic 72, 3) := by decide +kernel
theorem dX8_lawful_16 : decode cX8_lawful 16 = .ok (.ifCond .ne 6, 3) := by decide +kernel
theorem dX8_lawful_19 : decode cX8_lawful 19 = .ok (.bipush (-2), 2) := by decide +kernel
theorem dX8_lawful_21 : decode cX8_lawful 21 = .ok (.ireturn, 1) := by decide +kernel
theorem dX8_lawful_22 : decode cX8_lawful 22 = .ok (.aload_n 0, 1) := by decide +kernel
theorem dX8_lawful_23 : decode cX8_lawful 23 = .ok (.getfield 35, 3) := by decide +kernel
theorem dX8_lawful_26 : decode cX8_lawful 26 = .ok (.iload_n 1, 1) := by decide +kernel
theorem dX8_lawful_27 : decode cX8_lawful 27 = .ok (.iaload, 1) := by decide +kernel
theorem dX8_lawful_28 : decode cX8_lawful 28 = .ok (.istore_n 3, 1) := by decide +kernel
theorem dX8_lawful_29 : decode cX8_lawful 29 = .ok (.aload_n 0, 1) := by decide +kernel
theorem dX8_lawful_30 : decode cX8_lawful 30 = .ok (.getfield 35, 3) := by decide +kernel
theorem dX8_lawful_33 : decode cX8_lawful 33 = .ok (.iload_n 1, 1) := by decide +kernel
theorem dX8_lawful_34 : decode cX8_lawful 34 = .ok (.iload_n 2, 1) := by decide +kernel
theorem dX8_lawful_35 : decode cX8_lawful 35 = .ok (.iastore, 1) := by decide +kernel
theorem dX8_lawful_36 : decode cX8_lawful 36 = .ok (.iload_n 3, 1) := by decide +kernel
theorem dX8_lawful_37 : decode cX8_lawful 37 = .ok (.ireturn, 1) := by decide +kernel
theorem dX8_bitsIn_0 : decode cX8_bitsIn 0 = .ok (.iconst 0, 1) := by decide +kernel
theorem dX8_bitsIn_1 : decode cX8_bitsIn 1 = .ok (.istore_n 1, 1) := by decide +kernel
theorem dX8_bitsIn_2 : decode cX8_bitsIn 2 = .ok (.iconst 0, 1) := by decide +kernel
theorem dX8_bitsIn_3 : decode cX8_bitsIn 3 = .ok (.istore_n 2, 1) := by decide +kernel
theorem dX8_bitsIn_4 : decode cX8_bitsIn 4 = .ok (.iload_n 2, 1) := by decide +kernel
theorem dX8_bitsIn_5 : decode cX8_bitsIn 5 = .ok (.bipush 12, 2) := by decide +kernel
theorem dX8_bitsIn_7 : decode cX8_bitsIn 7 = .ok (.if_icmp .ge 17, 3) := by decide +kernel
theorem dX8_bitsIn_10 : decode cX8_bitsIn 10 = .ok (.iload_n 1, 1) := by decide +kernel
theorem dX8_bitsIn_11 : decode cX8_bitsIn 11 = .ok (.iload_n 0, 1) := by decide +kernel
theorem dX8_bitsIn_12 : decode cX8_bitsIn 12 = .ok (.iload_n 2, 1) := by decide +kernel
theorem dX8_bitsIn_13 : decode cX8_bitsIn 13 = .ok (.ishr, 1) := by decide +kernel
theorem dX8_bitsIn_14 : decode cX8_bitsIn 14 = .ok (.iconst 1, 1) := by decide +kernel
theorem dX8_bitsIn_15 : decode cX8_bitsIn 15 = .ok (.iand, 1) := by decide +kernel
theorem dX8_bitsIn_16 : decode cX8_bitsIn 16 = .ok (.iadd, 1) := by decide +kernel
theorem dX8_bitsIn_17 : decode cX8_bitsIn 17 = .ok (.istore_n 1, 1) := by decide +kernel
theorem dX8_bitsIn_18 : decode cX8_bitsIn 18 = .ok (.iinc 2 1, 3) := by decide +kernel
theorem dX8_bitsIn_21 : decode cX8_bitsIn 21 = .ok (.goto (-17), 3) := by decide +kernel
theorem dX8_bitsIn_24 : decode cX8_bitsIn 24 = .ok (.iload_n 1, 1) := by decide +kernel
theorem dX8_bitsIn_25 : decode cX8_bitsIn 25 = .ok (.ireturn, 1) := by decide +kernel
theorem dX8_sizes_0 : decode cX8_sizes 0 = .ok (.iload_n 1, 1) := by decide +kernel
theorem dX8_sizes_1 : decode cX8_sizes 1 = .ok (.i2l, 1) := by decide +kernel
theorem dX8_sizes_2 : decode cX8_sizes 2 = .ok (.lconst 0, 1) := by decide +kernel
theorem dX8_sizes_3 : decode cX8_sizes 3 = .ok (.ldc2_w 240, 3) := by decide +kernel
theorem dX8_sizes_6 : decode cX8_sizes 6 = .ok (.invokestatic 72, 3) := by decide +kernel
theorem dX8_sizes_9 : decode cX8_sizes 9 = .ok (.ifCond .eq 25, 3) := by decide +kernel
theorem dX8_sizes_12 : decode cX8_sizes 12 = .ok (.iload_n 1, 1) := by decide +kernel
theorem dX8_sizes_13 : decode cX8_sizes 13 = .ok (.iconst 1, 1) := by decide +kernel
theorem dX8_sizes_14 : decode cX8_sizes 14 = .ok (.iand, 1) := by decide +kernel
theorem dX8_sizes_15 : decode cX8_sizes 15 = .ok (.iconst 1, 1) := by decide +kernel
theorem dX8_sizes_16 : decode cX8_sizes 16 = .ok (.if_icmp .eq 18, 3) := by decide +kernel
theorem dX8_sizes_19 : decode cX8_sizes 19 = .ok (.iload_n 1, 1) := by decide +kernel
theorem dX8_sizes_20 : decode cX8_sizes 20 = .ok (.invokestatic 242, 3) := by decide +kernel
theorem dX8_sizes_23 : decode cX8_sizes 23 = .ok (.i2l, 1) := by decide +kernel
theorem dX8_sizes_24 : decode cX8_sizes 24 = .ok (.lconst 1, 1) := by decide +kernel
theorem dX8_sizes_25 : decode cX8_sizes 25 = .ok (.ldc2_w 83, 3) := by decide +kernel
theorem dX8_sizes_28 : decode cX8_sizes 28 = .ok (.invokestatic 72, 3) := by decide +kernel
theorem dX8_sizes_31 : decode cX8_sizes 31 = .ok (.ifCond .ne 6, 3) := by decide +kernel
theorem dX8_sizes_34 : decode cX8_sizes 34 = .ok (.bipush (-2), 2) := by decide +kernel
theorem dX8_sizes_36 : decode cX8_sizes 36 = .ok (.ireturn, 1) := by decide +kernel
theorem dX8_sizes_37 : decode cX8_sizes 37 = .ok (.aload_n 0, 1) := by decide +kernel
theorem dX8_sizes_38 : decode cX8_sizes 38 = .ok (.getfield 65, 3) := by decide +kernel
theorem dX8_sizes_41 : decode cX8_sizes 41 = .ok (.istore_n 2, 1) := by decide +kernel
theorem dX8_sizes_42 : decode cX8_sizes 42 = .ok (.aload_n 0, 1) := by decide +kernel
theorem dX8_sizes_43 : decode cX8_sizes 43 = .ok (.iload_n 1, 1) := by decide +kernel
theorem dX8_sizes_44 : decode cX8_sizes 44 = .ok (.putfield 65, 3) := by decide +kernel
theorem dX8_sizes_47 : decode cX8_sizes 47 = .ok (.iload_n 2, 1) := by decide +kernel
theorem dX8_sizes_48 : decode cX8_sizes 48 = .ok (.ireturn, 1) := by decide +kernel
theorem dX8_limit_0 : decode cX8_limit 0 = .ok (.iload_n 1, 1) := by decide +kernel
theorem dX8_limit_1 : decode cX8_limit 1 = .ok (.i2l, 1) := by decide +kernel
theorem dX8_limit_2 : decode cX8_limit 2 = .ok (.lconst 0, 1) := by decide +kernel
theorem dX8_limit_3 : decode cX8_limit 3 = .ok (.ldc2_w 216, 3) := by decide +kernel
theorem dX8_limit_6 : decode cX8_limit 6 = .ok (.invokestatic 72, 3) := by decide +kernel
theorem dX8_limit_9 : decode cX8_limit 9 = .ok (.ifCond .ne 6, 3) := by decide +kernel
theorem dX8_limit_12 : decode cX8_limit 12 = .ok (.bipush (-2), 2) := by decide +kernel
theorem dX8_limit_14 : decode cX8_limit 14 = .ok (.ireturn, 1) := by decide +kernel
theorem dX8_limit_15 : decode cX8_limit 15 = .ok (.aload_n 0, 1) := by decide +kernel
theorem dX8_limit_16 : decode cX8_limit 16 = .ok (.getfield 69, 3) := by decide +kernel
theorem dX8_limit_19 : decode cX8_limit 19 = .ok (.istore_n 2, 1) := by decide +kernel
theorem dX8_limit_20 : decode cX8_limit 20 = .ok (.aload_n 0, 1) := by decide +kernel
theorem dX8_limit_21 : decode cX8_limit 21 = .ok (.iload_n 1, 1) := by decide +kernel
theorem dX8_limit_22 : decode cX8_limit 22 = .ok (.putfield 69, 3) := by decide +kernel
theorem dX8_limit_25 : decode cX8_limit 25 = .ok (.iload_n 2, 1) := by decide +kernel
theorem dX8_limit_26 : decode cX8_limit 26 = .ok (.ireturn, 1) := by decide +kernel
theorem dX8_pullBy_0 : decode cX8_pullBy 0 = .ok (.aload_n 0, 1) := by decide +kernel
theorem dX8_pullBy_1 : decode cX8_pullBy 1 = .ok (.iload_n 1, 1) := by decide +kernel
theorem dX8_pullBy_2 : decode cX8_pullBy 2 = .ok (.invokevirtual 208, 3) := by decide +kernel
theorem dX8_pullBy_5 : decode cX8_pullBy 5 = .ok (.iload_n 2, 1) := by decide +kernel
theorem dX8_pullBy_6 : decode cX8_pullBy 6 = .ok (.iconst 5, 1) := by decide +kernel
theorem dX8_pullBy_7 : decode cX8_pullBy 7 = .ok (.if_icmp .ge 39, 3) := by decide +kernel
theorem dX8_pullBy_10 : decode cX8_pullBy 10 = .ok (.aload_n 0, 1) := by decide +kernel
theorem dX8_pullBy_11 : decode cX8_pullBy 11 = .ok (.bipush 29, 2) := by decide +kernel
theorem dX8_pullBy_13 : decode cX8_pullBy 13 = .ok (.aload_n 0, 1) := by decide +kernel
theorem dX8_pullBy_14 : decode cX8_pullBy 14 = .ok (.getfield 38, 3) := by decide +kernel
theorem dX8_pullBy_17 : decode cX8_pullBy 17 = .ok (.iconst 0, 1) := by decide +kernel
theorem dX8_pullBy_18 : decode cX8_pullBy 18 = .ok (.laload, 1) := by decide +kernel
theorem dX8_pullBy_19 : decode cX8_pullBy 19 = .ok (.aload_n 0, 1) := by decide +kernel
theorem dX8_pullBy_20 : decode cX8_pullBy 20 = .ok (.getfield 38, 3) := by decide +kernel
theorem dX8_pullBy_23 : decode cX8_pullBy 23 = .ok (.iconst 1, 1) := by decide +kernel
theorem dX8_pullBy_24 : decode cX8_pullBy 24 = .ok (.laload, 1) := by decide +kernel
theorem dX8_pullBy_25 : decode cX8_pullBy 25 = .ok (.aload_n 0, 1) := by decide +kernel
theorem dX8_pullBy_26 : decode cX8_pullBy 26 = .ok (.getfield 38, 3) := by decide +kernel
theorem dX8_pullBy_29 : decode cX8_pullBy 29 = .ok (.iconst 2, 1) := by decide +kernel
theorem dX8_pullBy_30 : decode cX8_pullBy 30 = .ok (.laload, 1) := by decide +kernel
theorem dX8_pullBy_31 : decode cX8_pullBy 31 = .ok (.aload_n 0, 1) := by decide +kernel
theorem dX8_pullBy_32 : decode cX8_pullBy 32 = .ok (.getfield 38, 3) := by decide +kernel
theorem dX8_pullBy_35 : decode cX8_pullBy 35 = .ok (.iconst 3, 1) := by decide +kernel
theorem dX8_pullBy_36 : decode cX8_pullBy 36 = .ok (.laload, 1) := by decide +kernel
theorem dX8_pullBy_37 : decode cX8_pullBy 37 = .ok (.ldc2_w 211, 3) := by decide +kernel
theorem dX8_pullBy_40 : decode cX8_pullBy 40 = .ok (.invokevirtual 134, 3) := by decide +kernel
theorem dX8_pullBy_43 : decode cX8_pullBy 43 = .ok (.goto 24, 3) := by decide +kernel
theorem dX8_pullBy_46 : decode cX8_pullBy 46 = .ok (.aload_n 0, 1) := by decide +kernel
theorem dX8_pullBy_47 : decode cX8_pullBy 47 = .ok (.bipush 29, 2) := by decide +kernel
theorem dX8_pullBy_49 : decode cX8_pullBy 49 = .ok (.aload_n 0, 1) := by decide +kernel
theorem dX8_pullBy_50 : decode cX8_pullBy 50 = .ok (.iconst 0, 1) := by decide +kernel
theorem dX8_pullBy_51 : decode cX8_pullBy 51 = .ok (.invokevirtual 203, 3) := by decide +kernel
theorem dX8_pullBy_54 : decode cX8_pullBy 54 = .ok (.aload_n 0, 1) := by decide +kernel
theorem dX8_pullBy_55 : decode cX8_pullBy 55 = .ok (.iconst 1, 1) := by decide +kernel
theorem dX8_pullBy_56 : decode cX8_pullBy 56 = .ok (.invokevirtual 203, 3) := by decide +kernel
theorem dX8_pullBy_59 : decode cX8_pullBy 59 = .ok (.lconst 0, 1) := by decide +kernel
theorem dX8_pullBy_60 : decode cX8_pullBy 60 = .ok (.lconst 0, 1) := by decide +kernel
theorem dX8_pullBy_61 : decode cX8_pullBy 61 = .ok (.ldc2_w 206, 3) := by decide +kernel
theorem dX8_pullBy_64 : decode cX8_pullBy 64 = .ok (.invokevirtual 134, 3) := by decide +kernel
theorem dX8_pullBy_67 : decode cX8_pullBy 67 = .ok (.aload_n 0, 1) := by decide +kernel
theorem dX8_pullBy_68 : decode cX8_pullBy 68 = .ok (.bipush 29, 2) := by decide +kernel
theorem dX8_pullBy_70 : decode cX8_pullBy 70 = .ok (.iload_n 2, 1) := by decide +kernel
theorem dX8_pullBy_71 : decode cX8_pullBy 71 = .ok (.iconst 5, 1) := by decide +kernel
theorem dX8_pullBy_72 : decode cX8_pullBy 72 = .ok (.irem, 1) := by decide +kernel
theorem dX8_pullBy_73 : decode cX8_pullBy 73 = .ok (.invokevirtual 120, 3) := by decide +kernel
theorem dX8_pullBy_76 : decode cX8_pullBy 76 = .ok (.lreturn, 1) := by decide +kernel
theorem dX8_pull_0 : decode cX8_pull 0 = .ok (.iload_n 1, 1) := by decide +kernel
theorem dX8_pull_1 : decode cX8_pull 1 = .ok (.invokestatic 226, 3) := by decide +kernel
theorem dX8_pull_4 : decode cX8_pull 4 = .ok (.ifCond .eq 24, 3) := by decide +kernel
theorem dX8_pull_7 : decode cX8_pull 7 = .ok (.iload_n 2, 1) := by decide +kernel
theorem dX8_pull_8 : decode cX8_pull 8 = .ok (.i2l, 1) := by decide +kernel
theorem dX8_pull_9 : decode cX8_pull 9 = .ok (.lconst 0, 1) := by decide +kernel
theorem dX8_pull_10 : decode cX8_pull 10 = .ok (.ldc2_w 229, 3) := by decide +kernel
theorem dX8_pull_13 : decode cX8_pull 13 = .ok (.invokestatic 72, 3) := by decide +kernel
theorem dX8_pull_16 : decode cX8_pull 16 = .ok (.ifCond .eq 12, 3) := by decide +kernel
theorem dX8_pull_19 : decode cX8_pull 19 = .ok (.aload_n 0, 1) := by decide +kernel
theorem dX8_pull_20 : decode cX8_pull 20 = .ok (.iload_n 1, 1) := by decide +kernel
theorem dX8_pull_21 : decode cX8_pull 21 = .ok (.iload_n 2, 1) := by decide +kernel
theorem dX8_pull_22 : decode cX8_pull 22 = .ok (.invokevirtual 245, 3) := by decide +kernel
theorem dX8_pull_25 : decode cX8_pull 25 = .ok (.goto 8, 3) := by decide +kernel
theorem dX8_pull_28 : decode cX8_pull 28 = .ok (.bipush (-2), 2) := by decide +kernel
theorem dX8_pull_30 : decode cX8_pull 30 = .ok (.invokestatic 99, 3) := by decide +kernel
theorem dX8_pull_33 : decode cX8_pull 33 = .ok (.lreturn, 1) := by decide +kernel
theorem dX8_quietBy_0 : decode cX8_quietBy 0 = .ok (.aload_n 0, 1) := by decide +kernel
theorem dX8_quietBy_1 : decode cX8_quietBy 1 = .ok (.iload_n 1, 1) := by decide +kernel
theorem dX8_quietBy_2 : decode cX8_quietBy 2 = .ok (.invokevirtual 208, 3) := by decide +kernel
theorem dX8_quietBy_5 : decode cX8_quietBy 5 = .ok (.aload_n 0, 1) := by decide +kernel
theorem dX8_quietBy_6 : decode cX8_quietBy 6 = .ok (.invokevirtual 248, 3) := by decide +kernel
theorem dX8_quietBy_9 : decode cX8_quietBy 9 = .ok (.ifCond .eq 7, 3) := by decide +kernel
theorem dX8_quietBy_12 : decode cX8_quietBy 12 = .ok (.iconst 1, 1) := by decide +kernel
theorem dX8_quietBy_13 : decode cX8_quietBy 13 = .ok (.goto 4, 3) := by decide +kernel
theorem dX8_quietBy_16 : decode cX8_quietBy 16 = .ok (.iconst 0, 1) := by decide +kernel
theorem dX8_quietBy_17 : decode cX8_quietBy 17 = .ok (.ireturn, 1) := by decide +kernel
theorem dX8_quiet_0 : decode cX8_quiet 0 = .ok (.iload_n 1, 1) := by decide +kernel
theorem dX8_quiet_1 : decode cX8_quiet 1 = .ok (.invokestatic 226, 3) := by decide +kernel
theorem dX8_quiet_4 : decode cX8_quiet 4 = .ok (.ifCond .eq 11, 3) := by decide +kernel
theorem dX8_quiet_7 : decode cX8_quiet 7 = .ok (.aload_n 0, 1) := by decide +kernel
theorem dX8_quiet_8 : decode cX8_quiet 8 = .ok (.iload_n 1, 1) := by decide +kernel
theorem dX8_quiet_9 : decode cX8_quiet 9 = .ok (.invokevirtual 252, 3) := by decide +kernel
theorem dX8_quiet_12 : decode cX8_quiet 12 = .ok (.goto 5, 3) := by decide +kernel
theorem dX8_quiet_15 : decode cX8_quiet 15 = .ok (.bipush (-2), 2) := by decide +kernel
theorem dX8_quiet_17 : decode cX8_quiet 17 = .ok (.ireturn, 1) := by decide +kernel
theorem dX8_bearing_0 : decode cX8_bearing 0 = .ok (.iload_n 1, 1) := by decide +kernel
theorem dX8_bearing_1 : decode cX8_bearing 1 = .ok (.invokestatic 226, 3) := by decide +kernel
theorem dX8_bearing_4 : decode cX8_bearing 4 = .ok (.ifCond .eq 40, 3) := by decide +kernel
theorem dX8_bearing_7 : decode cX8_bearing 7 = .ok (.iload_n 2, 1) := by decide +kernel
theorem dX8_bearing_8 : decode cX8_bearing 8 = .ok (.invokestatic 226, 3) := by decide +kernel
theorem dX8_bearing_11 : decode cX8_bearing 11 = .ok (.ifCond .eq 33, 3) := by decide +kernel
theorem dX8_bearing_14 : decode cX8_bearing 14 = .ok (.iload_n 3, 1) := by decide +kernel
theorem dX8_bearing_15 : decode cX8_bearing 15 = .ok (.invokestatic 226, 3) := by decide +kernel
theorem dX8_bearing_18 : decode cX8_bearing 18 = .ok (.ifCond .eq 26, 3) := by decide +kernel
theorem dX8_bearing_21 : decode cX8_bearing 21 = .ok (.iload 4, 2) := by decide +kernel
theorem dX8_bearing_23 : decode cX8_bearing 23 = .ok (.i2l, 1) := by decide +kernel
theorem dX8_bearing_24 : decode cX8_bearing 24 = .ok (.lconst 0, 1) := by decide +kernel
theorem dX8_bearing_25 : decode cX8_bearing 25 = .ok (.iload_n 3, 1) := by decide +kernel
theorem dX8_bearing_26 : decode cX8_bearing 26 = .ok (.ifCond .ne 9, 3) := by decide +kernel
theorem dX8_bearing_29 : decode cX8_bearing 29 = .ok (.ldc2_w 229, 3) := by decide +kernel
theorem dX8_bearing_32 : decode cX8_bearing 32 = .ok (.goto 6, 3) := by decide +kernel
theorem dX8_bearing_35 : decode cX8_bearing 35 = .ok (.ldc2_w 76, 3) := by decide +kernel
theorem dX8_bearing_38 : decode cX8_bearing 38 = .ok (.invokestatic 72, 3) := by decide +kernel
theorem dX8_bearing_41 : decode cX8_bearing 41 = .ok (.ifCond .ne 6, 3) := by decide +kernel
theorem dX8_bearing_44 : decode cX8_bearing 44 = .ok (.bipush (-2), 2) := by decide +kernel
theorem dX8_bearing_46 : decode cX8_bearing 46 = .ok (.ireturn, 1) := by decide +kernel
theorem dX8_bearing_47 : decode cX8_bearing 47 = .ok (.iconst 2, 1) := by decide +kernel
theorem dX8_bearing_48 : decode cX8_bearing 48 = .ok (.iload_n 1, 1) := by decide +kernel
theorem dX8_bearing_49 : decode cX8_bearing 49 = .ok (.imul, 1) := by decide +kernel
theorem dX8_bearing_50 : decode cX8_bearing 50 = .ok (.iload_n 2, 1) := by decide +kernel
theorem dX8_bearing_51 : decode cX8_bearing 51 = .ok (.iadd, 1) := by decide +kernel
theorem dX8_bearing_52 : decode cX8_bearing 52 = .ok (.istore 5, 2) := by decide +kernel
theorem dX8_bearing_54 : decode cX8_bearing 54 = .ok (.iload_n 3, 1) := by decide +kernel
theorem dX8_bearing_55 : decode cX8_bearing 55 = .ok (.ifCond .ne 13, 3) := by decide +kernel
theorem dX8_bearing_58 : decode cX8_bearing 58 = .ok (.aload_n 0, 1) := by decide +kernel
theorem dX8_bearing_59 : decode cX8_bearing 59 = .ok (.getfield 41, 3) := by decide +kernel
theorem dX8_bearing_62 : decode cX8_bearing 62 = .ok (.iload 5, 2) := by decide +kernel
theorem dX8_bearing_64 : decode cX8_bearing 64 = .ok (.iaload, 1) := by decide +kernel
theorem dX8_bearing_65 : decode cX8_bearing 65 = .ok (.goto 10, 3) := by decide +kernel
theorem dX8_bearing_68 : decode cX8_bearing 68 = .ok (.aload_n 0, 1) := by decide +kernel
theorem dX8_bearing_69 : decode cX8_bearing 69 = .ok (.getfield 44, 3) := by decide +kernel
theorem dX8_bearing_72 : decode cX8_bearing 72 = .ok (.iload 5, 2) := by decide +kernel
theorem dX8_bearing_74 : decode cX8_bearing 74 = .ok (.iaload, 1) := by decide +kernel
theorem dX8_bearing_75 : decode cX8_bearing 75 = .ok (.istore 6, 2) := by decide +kernel
theorem dX8_bearing_77 : decode cX8_bearing 77 = .ok (.iload_n 3, 1) := by decide +kernel
theorem dX8_bearing_78 : decode cX8_bearing 78 = .ok (.ifCond .ne 15, 3) := by decide +kernel
theorem dX8_bearing_81 : decode cX8_bearing 81 = .ok (.aload_n 0, 1) := by decide +kernel
theorem dX8_bearing_82 : decode cX8_bearing 82 = .ok (.getfield 41, 3) := by decide +kernel
theorem dX8_bearing_85 : decode cX8_bearing 85 = .ok (.iload 5, 2) := by decide +kernel
theorem dX8_bearing_87 : decode cX8_bearing 87 = .ok (.iload 4, 2) := by decide +kernel
theorem dX8_bearing_89 : decode cX8_bearing 89 = .ok (.iastore, 1) := by decide +kernel
theorem dX8_bearing_90 : decode cX8_bearing 90 = .ok (.goto 12, 3) := by decide +kernel
theorem dX8_bearing_93 : decode cX8_bearing 93 = .ok (.aload_n 0, 1) := by decide +kernel
theorem dX8_bearing_94 : decode cX8_bearing 94 = .ok (.getfield 44, 3) := by decide +kernel
theorem dX8_bearing_97 : decode cX8_bearing 97 = .ok (.iload 5, 2) := by decide +kernel
theorem dX8_bearing_99 : decode cX8_bearing 99 = .ok (.iload 4, 2) := by decide +kernel
theorem dX8_bearing_101 : decode cX8_bearing 101 = .ok (.iastore, 1) := by decide +kernel
theorem dX8_bearing_102 : decode cX8_bearing 102 = .ok (.aload_n 0, 1) := by decide +kernel
theorem dX8_bearing_103 : decode cX8_bearing 103 = .ok (.invokevirtual 223, 3) := by decide +kernel
theorem dX8_bearing_106 : decode cX8_bearing 106 = .ok (.iload 6, 2) := by decide +kernel
theorem dX8_bearing_108 : decode cX8_bearing 108 = .ok (.ireturn, 1) := by decide +kernel
theorem dX8_wayTo_0 : decode cX8_wayTo 0 = .ok (.aload_n 0, 1) := by decide +kernel
theorem dX8_wayTo_1 : decode cX8_wayTo 1 = .ok (.iload_n 1, 1) := by decide +kernel
theorem dX8_wayTo_2 : decode cX8_wayTo 2 = .ok (.lload_n 3, 1) := by decide +kernel
theorem dX8_wayTo_3 : decode cX8_wayTo 3 = .ok (.iload_n 2, 1) := by decide +kernel
theorem dX8_wayTo_4 : decode cX8_wayTo 4 = .ok (.iconst 0, 1) := by decide +kernel
theorem dX8_wayTo_5 : decode cX8_wayTo 5 = .ok (.invokestatic 189, 3) := by decide +kernel
theorem dX8_wayTo_8 : decode cX8_wayTo 8 = .ok (.i2l, 1) := by decide +kernel
theorem dX8_wayTo_9 : decode cX8_wayTo 9 = .ok (.lmul, 1) := by decide +kernel
theorem dX8_wayTo_10 : decode cX8_wayTo 10 = .ok (.lload_n 3, 1) := by decide +kernel
theorem dX8_wayTo_11 : decode cX8_wayTo 11 = .ok (.iload_n 2, 1) := by decide +kernel
theorem dX8_wayTo_12 : decode cX8_wayTo 12 = .ok (.iconst 1, 1) := by decide +kernel
theorem dX8_wayTo_13 : decode cX8_wayTo 13 = .ok (.invokestatic 189, 3) := by decide +kernel
theorem dX8_wayTo_16 : decode cX8_wayTo 16 = .ok (.i2l, 1) := by decide +kernel
theorem dX8_wayTo_17 : decode cX8_wayTo 17 = .ok (.lmul, 1) := by decide +kernel
theorem dX8_wayTo_18 : decode cX8_wayTo 18 = .ok (.lload_n 3, 1) := by decide +kernel
theorem dX8_wayTo_19 : decode cX8_wayTo 19 = .ok (.iload_n 2, 1) := by decide +kernel
theorem dX8_wayTo_20 : decode cX8_wayTo 20 = .ok (.iconst 2, 1) := by decide +kernel
theorem dX8_wayTo_21 : decode cX8_wayTo 21 = .ok (.invokestatic 189, 3) := by decide +kernel
theorem dX8_wayTo_24 : decode cX8_wayTo 24 = .ok (.i2l, 1) := by decide +kernel
theorem dX8_wayTo_25 : decode cX8_wayTo 25 = .ok (.lmul, 1) := by decide +kernel
theorem dX8_wayTo_26 : decode cX8_wayTo 26 = .ok (.lload_n 3, 1) := by decide +kernel
theorem dX8_wayTo_27 : decode cX8_wayTo 27 = .ok (.iload_n 2, 1) := by decide +kernel
theorem dX8_wayTo_28 : decode cX8_wayTo 28 = .ok (.iconst 3, 1) := by decide +kernel
theorem dX8_wayTo_29 : decode cX8_wayTo 29 = .ok (.invokestatic 189, 3) := by decide +kernel
theorem dX8_wayTo_32 : decode cX8_wayTo 32 = .ok (.i2l, 1) := by decide +kernel
theorem dX8_wayTo_33 : decode cX8_wayTo 33 = .ok (.lmul, 1) := by decide +kernel
theorem dX8_wayTo_34 : decode cX8_wayTo 34 = .ok (.ldc2_w 201, 3) := by decide +kernel
theorem dX8_wayTo_37 : decode cX8_wayTo 37 = .ok (.invokevirtual 134, 3) := by decide +kernel
theorem dX8_wayTo_40 : decode cX8_wayTo 40 = .ok (.return_, 1) := by decide +kernel
theorem dX8_kept_0 : decode cX8_kept 0 = .ok (.aload_n 0, 1) := by decide +kernel
theorem dX8_kept_1 : decode cX8_kept 1 = .ok (.getfield 213, 3) := by decide +kernel
theorem dX8_kept_4 : decode cX8_kept 4 = .ok (.invokestatic 242, 3) := by decide +kernel
theorem dX8_kept_7 : decode cX8_kept 7 = .ok (.ireturn, 1) := by decide +kernel
theorem dX8_trial_0 : decode cX8_trial 0 = .ok (.iload_n 1, 1) := by decide +kernel
theorem dX8_trial_1 : decode cX8_trial 1 = .ok (.i2l, 1) := by decide +kernel
theorem dX8_trial_2 : decode cX8_trial 2 = .ok (.lconst 0, 1) := by decide +kernel
theorem dX8_trial_3 : decode cX8_trial 3 = .ok (.ldc2_w 201, 3) := by decide +kernel
theorem dX8_trial_6 : decode cX8_trial 6 = .ok (.invokestatic 72, 3) := by decide +kernel
theorem dX8_trial_9 : decode cX8_trial 9 = .ok (.ifCond .eq 26, 3) := by decide +kernel
theorem dX8_trial_12 : decode cX8_trial 12 = .ok (.iload_n 1, 1) := by decide +kernel
theorem dX8_trial_13 : decode cX8_trial 13 = .ok (.ifCond .le 25, 3) := by decide +kernel
theorem dX8_trial_16 : decode cX8_trial 16 = .ok (.iload_n 2, 1) := by decide +kernel
theorem dX8_trial_17 : decode cX8_trial 17 = .ok (.i2l, 1) := by decide +kernel
theorem dX8_trial_18 : decode cX8_trial 18 = .ok (.lconst 1, 1) := by decide +kernel
theorem dX8_trial_19 : decode cX8_trial 19 = .ok (.ldc2_w 216, 3) := by decide +kernel
theorem dX8_trial_22 : decode cX8_trial 22 = .ok (.invokestatic 72, 3) := by decide +kernel
theorem dX8_trial_25 : decode cX8_trial 25 = .ok (.ifCond .eq 10, 3) := by decide +kernel
theorem dX8_trial_28 : decode cX8_trial 28 = .ok (.iload_n 3, 1) := by decide +kernel
theorem dX8_trial_29 : decode cX8_trial 29 = .ok (.invokestatic 218, 3) := by decide +kernel
theorem dX8_trial_32 : decode cX8_trial 32 = .ok (.ifCond .ne 6, 3) := by decide +kernel
theorem dX8_trial_35 : decode cX8_trial 35 = .ok (.bipush (-2), 2) := by decide +kernel
theorem dX8_trial_37 : decode cX8_trial 37 = .ok (.ireturn, 1) := by decide +kernel
theorem dX8_trial_38 : decode cX8_trial 38 = .ok (.aload_n 0, 1) := by decide +kernel
theorem dX8_trial_39 : decode cX8_trial 39 = .ok (.getfield 47, 3) := by decide +kernel
theorem dX8_trial_42 : decode cX8_trial 42 = .ok (.iload_n 1, 1) := by decide +kernel
theorem dX8_trial_43 : decode cX8_trial 43 = .ok (.iload_n 1, 1) := by decide +kernel
theorem dX8_trial_44 : decode cX8_trial 44 = .ok (.ifCond .ne 7, 3) := by decide +kernel
theorem dX8_trial_47 : decode cX8_trial 47 = .ok (.iconst 0, 1) := by decide +kernel
theorem dX8_trial_48 : decode cX8_trial 48 = .ok (.goto 4, 3) := by decide +kernel
theorem dX8_trial_51 : decode cX8_trial 51 = .ok (.iload_n 2, 1) := by decide +kernel
theorem dX8_trial_52 : decode cX8_trial 52 = .ok (.iastore, 1) := by decide +kernel
theorem dX8_trial_53 : decode cX8_trial 53 = .ok (.aload_n 0, 1) := by decide +kernel
theorem dX8_trial_54 : decode cX8_trial 54 = .ok (.getfield 50, 3) := by decide +kernel
theorem dX8_trial_57 : decode cX8_trial 57 = .ok (.iload_n 1, 1) := by decide +kernel
theorem dX8_trial_58 : decode cX8_trial 58 = .ok (.iload_n 1, 1) := by decide +kernel
theorem dX8_trial_59 : decode cX8_trial 59 = .ok (.ifCond .ne 7, 3) := by decide +kernel
theorem dX8_trial_62 : decode cX8_trial 62 = .ok (.iconst 0, 1) := by decide +kernel
theorem dX8_trial_63 : decode cX8_trial 63 = .ok (.goto 4, 3) := by decide +kernel
theorem dX8_trial_66 : decode cX8_trial 66 = .ok (.iload_n 3, 1) := by decide +kernel
theorem dX8_trial_67 : decode cX8_trial 67 = .ok (.iastore, 1) := by decide +kernel
theorem dX8_trial_68 : decode cX8_trial 68 = .ok (.aload_n 0, 1) := by decide +kernel
theorem dX8_trial_69 : decode cX8_trial 69 = .ok (.iconst 0, 1) := by decide +kernel
theorem dX8_trial_70 : decode cX8_trial 70 = .ok (.putfield 105, 3) := by decide +kernel
theorem dX8_trial_73 : decode cX8_trial 73 = .ok (.iconst 0, 1) := by decide +kernel
theorem dX8_trial_74 : decode cX8_trial 74 = .ok (.istore 4, 2) := by decide +kernel
theorem dX8_trial_76 : decode cX8_trial 76 = .ok (.iload 4, 2) := by decide +kernel
theorem dX8_trial_78 : decode cX8_trial 78 = .ok (.iconst 2, 1) := by decide +kernel
theorem dX8_trial_79 : decode cX8_trial 79 = .ok (.if_icmp .ge 131, 3) := by decide +kernel
theorem dX8_trial_82 : decode cX8_trial 82 = .ok (.iconst 0, 1) := by decide +kernel
theorem dX8_trial_83 : decode cX8_trial 83 = .ok (.istore 5, 2) := by decide +kernel
theorem dX8_trial_85 : decode cX8_trial 85 = .ok (.iload 5, 2) := by decide +kernel
theorem dX8_trial_87 : decode cX8_trial 87 = .ok (.iconst 2, 1) := by decide +kernel
theorem dX8_trial_88 : decode cX8_trial 88 = .ok (.if_icmp .ge 98, 3) := by decide +kernel
theorem dX8_trial_91 : decode cX8_trial 91 = .ok (.aload_n 0, 1) := by decide +kernel
theorem dX8_trial_92 : decode cX8_trial 92 = .ok (.bipush 20, 2) := by decide +kernel
theorem dX8_trial_94 : decode cX8_trial 94 = .ok (.iload 5, 2) := by decide +kernel
theorem dX8_trial_96 : decode cX8_trial 96 = .ok (.invokevirtual 255, 3) := by decide +kernel
theorem dX8_trial_99 : decode cX8_trial 99 = .ok (.aload_n 0, 1) := by decide +kernel
theorem dX8_trial_100 : decode cX8_trial 100 = .ok (.bipush 21, 2) := by decide +kernel
theorem dX8_trial_102 : decode cX8_trial 102 = .ok (.aload_n 0, 1) := by decide +kernel
theorem dX8_trial_103 : decode cX8_trial 103 = .ok (.getfield 50, 3) := by decide +kernel
theorem dX8_trial_106 : decode cX8_trial 106 = .ok (.iload_n 1, 1) := by decide +kernel
theorem dX8_trial_107 : decode cX8_trial 107 = .ok (.iaload, 1) := by decide +kernel
theorem dX8_trial_108 : decode cX8_trial 108 = .ok (.iload_n 1, 1) := by decide +kernel
theorem dX8_trial_109 : decode cX8_trial 109 = .ok (.iload 5, 2) := by decide +kernel
theorem dX8_trial_111 : decode cX8_trial 111 = .ok (.iconst 1, 1) := by decide +kernel
theorem dX8_trial_112 : decode cX8_trial 112 = .ok (.iadd, 1) := by decide +kernel
theorem dX8_trial_113 : decode cX8_trial 113 = .ok (.if_icmp .ne 8, 3) := by decide +kernel
theorem dX8_trial_116 : decode cX8_trial 116 = .ok (.iload_n 2, 1) := by decide +kernel
theorem dX8_trial_117 : decode cX8_trial 117 = .ok (.i2l, 1) := by decide +kernel
theorem dX8_trial_118 : decode cX8_trial 118 = .ok (.goto 4, 3) := by decide +kernel
theorem dX8_trial_121 : decode cX8_trial 121 = .ok (.lconst 0, 1) := by decide +kernel
theorem dX8_trial_122 : decode cX8_trial 122 = .ok (.invokevirtual 258, 3) := by decide +kernel
theorem dX8_trial_125 : decode cX8_trial 125 = .ok (.aload_n 0, 1) := by decide +kernel
theorem dX8_trial_126 : decode cX8_trial 126 = .ok (.bipush 22, 2) := by decide +kernel
theorem dX8_trial_128 : decode cX8_trial 128 = .ok (.bipush 20, 2) := by decide +kernel
theorem dX8_trial_130 : decode cX8_trial 130 = .ok (.bipush 21, 2) := by decide +kernel
theorem dX8_trial_132 : decode cX8_trial 132 = .ok (.iconst 0, 1) := by decide +kernel
theorem dX8_trial_133 : decode cX8_trial 133 = .ok (.invokevirtual 170, 3) := by decide +kernel
theorem dX8_trial_136 : decode cX8_trial 136 = .ok (.aload_n 0, 1) := by decide +kernel
theorem dX8_trial_137 : decode cX8_trial 137 = .ok (.bipush 23, 2) := by decide +kernel
theorem dX8_trial_139 : decode cX8_trial 139 = .ok (.aload_n 0, 1) := by decide +kernel
theorem dX8_trial_140 : decode cX8_trial 140 = .ok (.getfield 44, 3) := by decide +kernel
theorem dX8_trial_143 : decode cX8_trial 143 = .ok (.iconst 2, 1) := by decide +kernel
theorem dX8_trial_144 : decode cX8_trial 144 = .ok (.iload 4, 2) := by decide +kernel
theorem dX8_trial_146 : decode cX8_trial 146 = .ok (.imul, 1) := by decide +kernel
theorem dX8_trial_147 : decode cX8_trial 147 = .ok (.iload 5, 2) := by decide +kernel
theorem dX8_trial_149 : decode cX8_trial 149 = .ok (.iadd, 1) := by decide +kernel
theorem dX8_trial_150 : decode cX8_trial 150 = .ok (.iaload, 1) := by decide +kernel
theorem dX8_trial_151 : decode cX8_trial 151 = .ok (.aload_n 0, 1) := by decide +kernel
theorem dX8_trial_152 : decode cX8_trial 152 = .ok (.getfield 41, 3) := by decide +kernel
theorem dX8_trial_155 : decode cX8_trial 155 = .ok (.iconst 2, 1) := by decide +kernel
theorem dX8_trial_156 : decode cX8_trial 156 = .ok (.iload 4, 2) := by decide +kernel
theorem dX8_trial_158 : decode cX8_trial 158 = .ok (.imul, 1) := by decide +kernel
theorem dX8_trial_159 : decode cX8_trial 159 = .ok (.iload 5, 2) := by decide +kernel
theorem dX8_trial_161 : decode cX8_trial 161 = .ok (.iadd, 1) := by decide +kernel
theorem dX8_trial_162 : decode cX8_trial 162 = .ok (.iaload, 1) := by decide +kernel
theorem dX8_trial_163 : decode cX8_trial 163 = .ok (.i2l, 1) := by decide +kernel
theorem dX8_trial_164 : decode cX8_trial 164 = .ok (.invokevirtual 258, 3) := by decide +kernel
theorem dX8_trial_167 : decode cX8_trial 167 = .ok (.aload_n 0, 1) := by decide +kernel
theorem dX8_trial_168 : decode cX8_trial 168 = .ok (.bipush 24, 2) := by decide +kernel
theorem dX8_trial_170 : decode cX8_trial 170 = .ok (.iload 5, 2) := by decide +kernel
theorem dX8_trial_172 : decode cX8_trial 172 = .ok (.iadd, 1) := by decide +kernel
theorem dX8_trial_173 : decode cX8_trial 173 = .ok (.bipush 22, 2) := by decide +kernel
theorem dX8_trial_175 : decode cX8_trial 175 = .ok (.bipush 23, 2) := by decide +kernel
theorem dX8_trial_177 : decode cX8_trial 177 = .ok (.invokevirtual 148, 3) := by decide +kernel
theorem dX8_trial_180 : decode cX8_trial 180 = .ok (.iinc 5 1, 3) := by decide +kernel
theorem dX8_trial_183 : decode cX8_trial 183 = .ok (.goto (-98), 3) := by decide +kernel
theorem dX8_trial_186 : decode cX8_trial 186 = .ok (.aload_n 0, 1) := by decide +kernel
theorem dX8_trial_187 : decode cX8_trial 187 = .ok (.bipush 6, 2) := by decide +kernel
theorem dX8_trial_189 : decode cX8_trial 189 = .ok (.iconst 2, 1) := by decide +kernel
theorem dX8_trial_190 : decode cX8_trial 190 = .ok (.iload_n 1, 1) := by decide +kernel
theorem dX8_trial_191 : decode cX8_trial 191 = .ok (.imul, 1) := by decide +kernel
theorem dX8_trial_192 : decode cX8_trial 192 = .ok (.iadd, 1) := by decide +kernel
theorem dX8_trial_193 : decode cX8_trial 193 = .ok (.iload 4, 2) := by decide +kernel
theorem dX8_trial_195 : decode cX8_trial 195 = .ok (.iadd, 1) := by decide +kernel
theorem dX8_trial_196 : decode cX8_trial 196 = .ok (.bipush 24, 2) := by decide +kernel
theorem dX8_trial_198 : decode cX8_trial 198 = .ok (.bipush 25, 2) := by decide +kernel
theorem dX8_trial_200 : decode cX8_trial 200 = .ok (.iconst 0, 1) := by decide +kernel
theorem dX8_trial_201 : decode cX8_trial 201 = .ok (.invokevirtual 170, 3) := by decide +kernel
theorem dX8_trial_204 : decode cX8_trial 204 = .ok (.iinc 4 1, 3) := by decide +kernel
theorem dX8_trial_207 : decode cX8_trial 207 = .ok (.goto (-131), 3) := by decide +kernel
theorem dX8_trial_210 : decode cX8_trial 210 = .ok (.aload_n 0, 1) := by decide +kernel
theorem dX8_trial_211 : decode cX8_trial 211 = .ok (.dup, 1) := by decide +kernel
theorem dX8_trial_212 : decode cX8_trial 212 = .ok (.getfield 213, 3) := by decide +kernel
theorem dX8_trial_215 : decode cX8_trial 215 = .ok (.iconst 1, 1) := by decide +kernel
theorem dX8_trial_216 : decode cX8_trial 216 = .ok (.iload_n 1, 1) := by decide +kernel
theorem dX8_trial_217 : decode cX8_trial 217 = .ok (.ishl, 1) := by decide +kernel
theorem dX8_trial_218 : decode cX8_trial 218 = .ok (.ior, 1) := by decide +kernel
theorem dX8_trial_219 : decode cX8_trial 219 = .ok (.putfield 213, 3) := by decide +kernel
theorem dX8_trial_222 : decode cX8_trial 222 = .ok (.aload_n 0, 1) := by decide +kernel
theorem dX8_trial_223 : decode cX8_trial 223 = .ok (.invokevirtual 261, 3) := by decide +kernel
theorem dX8_trial_226 : decode cX8_trial 226 = .ok (.ireturn, 1) := by decide +kernel
theorem dX8_isKept_0 : decode cX8_isKept 0 = .ok (.aload_n 0, 1) := by decide +kernel
theorem dX8_isKept_1 : decode cX8_isKept 1 = .ok (.getfield 213, 3) := by decide +kernel
theorem dX8_isKept_4 : decode cX8_isKept 4 = .ok (.iload_n 1, 1) := by decide +kernel
theorem dX8_isKept_5 : decode cX8_isKept 5 = .ok (.ishr, 1) := by decide +kernel
theorem dX8_isKept_6 : decode cX8_isKept 6 = .ok (.iconst 1, 1) := by decide +kernel
theorem dX8_isKept_7 : decode cX8_isKept 7 = .ok (.iand, 1) := by decide +kernel
theorem dX8_isKept_8 : decode cX8_isKept 8 = .ok (.iconst 1, 1) := by decide +kernel
theorem dX8_isKept_9 : decode cX8_isKept 9 = .ok (.if_icmp .ne 7, 3) := by decide +kernel
theorem dX8_isKept_12 : decode cX8_isKept 12 = .ok (.iconst 1, 1) := by decide +kernel
theorem dX8_isKept_13 : decode cX8_isKept 13 = .ok (.goto 4, 3) := by decide +kernel
theorem dX8_isKept_16 : decode cX8_isKept 16 = .ok (.iconst 0, 1) := by decide +kernel
theorem dX8_isKept_17 : decode cX8_isKept 17 = .ok (.ireturn, 1) := by decide +kernel
theorem dX8_readingBy_0 : decode cX8_readingBy 0 = .ok (.aload_n 0, 1) := by decide +kernel
theorem dX8_readingBy_1 : decode cX8_readingBy 1 = .ok (.iload_n 1, 1) := by decide +kernel
theorem dX8_readingBy_2 : decode cX8_readingBy 2 = .ok (.invokevirtual 265, 3) := by decide +kernel
theorem dX8_readingBy_5 : decode cX8_readingBy 5 = .ok (.ifCond .eq 19, 3) := by decide +kernel
theorem dX8_readingBy_8 : decode cX8_readingBy 8 = .ok (.aload_n 0, 1) := by decide +kernel
theorem dX8_readingBy_9 : decode cX8_readingBy 9 = .ok (.bipush 6, 2) := by decide +kernel
theorem dX8_readingBy_11 : decode cX8_readingBy 11 = .ok (.iconst 2, 1) := by decide +kernel
theorem dX8_readingBy_12 : decode cX8_readingBy 12 = .ok (.iload_n 1, 1) := by decide +kernel
theorem dX8_readingBy_13 : decode cX8_readingBy 13 = .ok (.imul, 1) := by decide +kernel
theorem dX8_readingBy_14 : decode cX8_readingBy 14 = .ok (.iadd, 1) := by decide +kernel
theorem dX8_readingBy_15 : decode cX8_readingBy 15 = .ok (.iload_n 2, 1) := by decide +kernel
theorem dX8_readingBy_16 : decode cX8_readingBy 16 = .ok (.iadd, 1) := by decide +kernel
theorem dX8_readingBy_17 : decode cX8_readingBy 17 = .ok (.iload_n 3, 1) := by decide +kernel
theorem dX8_readingBy_18 : decode cX8_readingBy 18 = .ok (.invokevirtual 120, 3) := by decide +kernel
theorem dX8_readingBy_21 : decode cX8_readingBy 21 = .ok (.goto 8, 3) := by decide +kernel
theorem dX8_readingBy_24 : decode cX8_readingBy 24 = .ok (.bipush (-3), 2) := by decide +kernel
theorem dX8_readingBy_26 : decode cX8_readingBy 26 = .ok (.invokestatic 99, 3) := by decide +kernel
theorem dX8_readingBy_29 : decode cX8_readingBy 29 = .ok (.lreturn, 1) := by decide +kernel
theorem dX8_reading_0 : decode cX8_reading 0 = .ok (.iload_n 1, 1) := by decide +kernel
theorem dX8_reading_1 : decode cX8_reading 1 = .ok (.i2l, 1) := by decide +kernel
theorem dX8_reading_2 : decode cX8_reading 2 = .ok (.lconst 0, 1) := by decide +kernel
theorem dX8_reading_3 : decode cX8_reading 3 = .ok (.ldc2_w 201, 3) := by decide +kernel
theorem dX8_reading_6 : decode cX8_reading 6 = .ok (.invokestatic 72, 3) := by decide +kernel
theorem dX8_reading_9 : decode cX8_reading 9 = .ok (.ifCond .eq 32, 3) := by decide +kernel
theorem dX8_reading_12 : decode cX8_reading 12 = .ok (.iload_n 2, 1) := by decide +kernel
theorem dX8_reading_13 : decode cX8_reading 13 = .ok (.invokestatic 226, 3) := by decide +kernel
theorem dX8_reading_16 : decode cX8_reading 16 = .ok (.ifCond .eq 25, 3) := by decide +kernel
theorem dX8_reading_19 : decode cX8_reading 19 = .ok (.iload_n 3, 1) := by decide +kernel
theorem dX8_reading_20 : decode cX8_reading 20 = .ok (.i2l, 1) := by decide +kernel
theorem dX8_reading_21 : decode cX8_reading 21 = .ok (.lconst 0, 1) := by decide +kernel
theorem dX8_reading_22 : decode cX8_reading 22 = .ok (.ldc2_w 165, 3) := by decide +kernel
theorem dX8_reading_25 : decode cX8_reading 25 = .ok (.invokestatic 72, 3) := by decide +kernel
theorem dX8_reading_28 : decode cX8_reading 28 = .ok (.ifCond .eq 13, 3) := by decide +kernel
theorem dX8_reading_31 : decode cX8_reading 31 = .ok (.aload_n 0, 1) := by decide +kernel
theorem dX8_reading_32 : decode cX8_reading 32 = .ok (.iload_n 1, 1) := by decide +kernel
theorem dX8_reading_33 : decode cX8_reading 33 = .ok (.iload_n 2, 1) := by decide +kernel
theorem dX8_reading_34 : decode cX8_reading 34 = .ok (.iload_n 3, 1) := by decide +kernel
theorem dX8_reading_35 : decode cX8_reading 35 = .ok (.invokevirtual 268, 3) := by decide +kernel
theorem dX8_reading_38 : decode cX8_reading 38 = .ok (.goto 8, 3) := by decide +kernel
theorem dX8_reading_41 : decode cX8_reading 41 = .ok (.bipush (-2), 2) := by decide +kernel
theorem dX8_reading_43 : decode cX8_reading 43 = .ok (.invokestatic 99, 3) := by decide +kernel
theorem dX8_reading_46 : decode cX8_reading 46 = .ok (.lreturn, 1) := by decide +kernel
theorem dX8_effectTo_0 : decode cX8_effectTo 0 = .ok (.aload_n 0, 1) := by decide +kernel
theorem dX8_effectTo_1 : decode cX8_effectTo 1 = .ok (.bipush 20, 2) := by decide +kernel
theorem dX8_effectTo_3 : decode cX8_effectTo 3 = .ok (.bipush 6, 2) := by decide +kernel
theorem dX8_effectTo_5 : decode cX8_effectTo 5 = .ok (.iconst 2, 1) := by decide +kernel
theorem dX8_effectTo_6 : decode cX8_effectTo 6 = .ok (.iload_n 2, 1) := by decide +kernel
theorem dX8_effectTo_7 : decode cX8_effectTo 7 = .ok (.iconst 1, 1) := by decide +kernel
theorem dX8_effectTo_8 : decode cX8_effectTo 8 = .ok (.iadd, 1) := by decide +kernel
theorem dX8_effectTo_9 : decode cX8_effectTo 9 = .ok (.imul, 1) := by decide +kernel
theorem dX8_effectTo_10 : decode cX8_effectTo 10 = .ok (.iadd, 1) := by decide +kernel
theorem dX8_effectTo_11 : decode cX8_effectTo 11 = .ok (.iload_n 3, 1) := by decide +kernel
theorem dX8_effectTo_12 : decode cX8_effectTo 12 = .ok (.iadd, 1) := by decide +kernel
theorem dX8_effectTo_13 : decode cX8_effectTo 13 = .ok (.bipush 6, 2) := by decide +kernel
theorem dX8_effectTo_15 : decode cX8_effectTo 15 = .ok (.iload_n 3, 1) := by decide +kernel
theorem dX8_effectTo_16 : decode cX8_effectTo 16 = .ok (.iadd, 1) := by decide +kernel
theorem dX8_effectTo_17 : decode cX8_effectTo 17 = .ok (.iconst 1, 1) := by decide +kernel
theorem dX8_effectTo_18 : decode cX8_effectTo 18 = .ok (.invokevirtual 170, 3) := by decide +kernel
theorem dX8_effectTo_21 : decode cX8_effectTo 21 = .ok (.aload_n 0, 1) := by decide +kernel
theorem dX8_effectTo_22 : decode cX8_effectTo 22 = .ok (.bipush 21, 2) := by decide +kernel
theorem dX8_effectTo_24 : decode cX8_effectTo 24 = .ok (.aload_n 0, 1) := by decide +kernel
theorem dX8_effectTo_25 : decode cX8_effectTo 25 = .ok (.getfield 50, 3) := by decide +kernel
theorem dX8_effectTo_28 : decode cX8_effectTo 28 = .ok (.iload_n 2, 1) := by decide +kernel
theorem dX8_effectTo_29 : decode cX8_effectTo 29 = .ok (.iconst 1, 1) := by decide +kernel
theorem dX8_effectTo_30 : decode cX8_effectTo 30 = .ok (.iadd, 1) := by decide +kernel
theorem dX8_effectTo_31 : decode cX8_effectTo 31 = .ok (.iaload, 1) := by decide +kernel
theorem dX8_effectTo_32 : decode cX8_effectTo 32 = .ok (.aload_n 0, 1) := by decide +kernel
theorem dX8_effectTo_33 : decode cX8_effectTo 33 = .ok (.getfield 47, 3) := by decide +kernel
theorem dX8_effectTo_36 : decode cX8_effectTo 36 = .ok (.iload_n 2, 1) := by decide +kernel
theorem dX8_effectTo_37 : decode cX8_effectTo 37 = .ok (.iconst 1, 1) := by decide +kernel
theorem dX8_effectTo_38 : decode cX8_effectTo 38 = .ok (.iadd, 1) := by decide +kernel
theorem dX8_effectTo_39 : decode cX8_effectTo 39 = .ok (.iaload, 1) := by decide +kernel
theorem dX8_effectTo_40 : decode cX8_effectTo 40 = .ok (.i2l, 1) := by decide +kernel
theorem dX8_effectTo_41 : decode cX8_effectTo 41 = .ok (.invokevirtual 258, 3) := by decide +kernel
theorem dX8_effectTo_44 : decode cX8_effectTo 44 = .ok (.aload_n 0, 1) := by decide +kernel
theorem dX8_effectTo_45 : decode cX8_effectTo 45 = .ok (.getfield 105, 3) := by decide +kernel
theorem dX8_effectTo_48 : decode cX8_effectTo 48 = .ok (.ifCond .ne 12, 3) := by decide +kernel
theorem dX8_effectTo_51 : decode cX8_effectTo 51 = .ok (.aload_n 0, 1) := by decide +kernel
theorem dX8_effectTo_52 : decode cX8_effectTo 52 = .ok (.iload_n 1, 1) := by decide +kernel
theorem dX8_effectTo_53 : decode cX8_effectTo 53 = .ok (.bipush 20, 2) := by decide +kernel
theorem dX8_effectTo_55 : decode cX8_effectTo 55 = .ok (.bipush 21, 2) := by decide +kernel
theorem dX8_effectTo_57 : decode cX8_effectTo 57 = .ok (.invokevirtual 174, 3) := by decide +kernel
theorem dX8_effectTo_60 : decode cX8_effectTo 60 = .ok (.return_, 1) := by decide +kernel
theorem dX8_effect_0 : decode cX8_effect 0 = .ok (.iload_n 1, 1) := by decide +kernel
theorem dX8_effect_1 : decode cX8_effect 1 = .ok (.invokestatic 226, 3) := by decide +kernel
theorem dX8_effect_4 : decode cX8_effect 4 = .ok (.ifCond .eq 17, 3) := by decide +kernel
theorem dX8_effect_7 : decode cX8_effect 7 = .ok (.iload_n 2, 1) := by decide +kernel
theorem dX8_effect_8 : decode cX8_effect 8 = .ok (.invokestatic 226, 3) := by decide +kernel
theorem dX8_effect_11 : decode cX8_effect 11 = .ok (.ifCond .eq 10, 3) := by decide +kernel
theorem dX8_effect_14 : decode cX8_effect 14 = .ok (.iload_n 3, 1) := by decide +kernel
theorem dX8_effect_15 : decode cX8_effect 15 = .ok (.invokestatic 162, 3) := by decide +kernel
theorem dX8_effect_18 : decode cX8_effect 18 = .ok (.ifCond .ne 6, 3) := by decide +kernel
theorem dX8_effect_21 : decode cX8_effect 21 = .ok (.bipush (-2), 2) := by decide +kernel
theorem dX8_effect_23 : decode cX8_effect 23 = .ok (.ireturn, 1) := by decide +kernel
theorem dX8_effect_24 : decode cX8_effect 24 = .ok (.aload_n 0, 1) := by decide +kernel
theorem dX8_effect_25 : decode cX8_effect 25 = .ok (.iconst 0, 1) := by decide +kernel
theorem dX8_effect_26 : decode cX8_effect 26 = .ok (.invokevirtual 265, 3) := by decide +kernel
theorem dX8_effect_29 : decode cX8_effect 29 = .ok (.ifCond .eq 13, 3) := by decide +kernel
theorem dX8_effect_32 : decode cX8_effect 32 = .ok (.aload_n 0, 1) := by decide +kernel
theorem dX8_effect_33 : decode cX8_effect 33 = .ok (.iload_n 1, 1) := by decide +kernel
theorem dX8_effect_34 : decode cX8_effect 34 = .ok (.iconst 1, 1) := by decide +kernel
theorem dX8_effect_35 : decode cX8_effect 35 = .ok (.iadd, 1) := by decide +kernel
theorem dX8_effect_36 : decode cX8_effect 36 = .ok (.invokevirtual 265, 3) := by decide +kernel
theorem dX8_effect_39 : decode cX8_effect 39 = .ok (.ifCond .ne 6, 3) := by decide +kernel
theorem dX8_effect_42 : decode cX8_effect 42 = .ok (.bipush (-3), 2) := by decide +kernel
theorem dX8_effect_44 : decode cX8_effect 44 = .ok (.ireturn, 1) := by decide +kernel
theorem dX8_effect_45 : decode cX8_effect 45 = .ok (.aload_n 0, 1) := by decide +kernel
theorem dX8_effect_46 : decode cX8_effect 46 = .ok (.iconst 0, 1) := by decide +kernel
theorem dX8_effect_47 : decode cX8_effect 47 = .ok (.putfield 105, 3) := by decide +kernel
theorem dX8_effect_50 : decode cX8_effect 50 = .ok (.aload_n 0, 1) := by decide +kernel
theorem dX8_effect_51 : decode cX8_effect 51 = .ok (.bipush 12, 2) := by decide +kernel
theorem dX8_effect_53 : decode cX8_effect 53 = .ok (.iload_n 1, 1) := by decide +kernel
theorem dX8_effect_54 : decode cX8_effect 54 = .ok (.iload_n 2, 1) := by decide +kernel
theorem dX8_effect_55 : decode cX8_effect 55 = .ok (.invokevirtual 272, 3) := by decide +kernel
theorem dX8_effect_58 : decode cX8_effect 58 = .ok (.aload_n 0, 1) := by decide +kernel
theorem dX8_effect_59 : decode cX8_effect 59 = .ok (.getfield 105, 3) := by decide +kernel
theorem dX8_effect_62 : decode cX8_effect 62 = .ok (.ifCond .eq 6, 3) := by decide +kernel
theorem dX8_effect_65 : decode cX8_effect 65 = .ok (.bipush (-5), 2) := by decide +kernel
theorem dX8_effect_67 : decode cX8_effect 67 = .ok (.ireturn, 1) := by decide +kernel
theorem dX8_effect_68 : decode cX8_effect 68 = .ok (.aload_n 0, 1) := by decide +kernel
theorem dX8_effect_69 : decode cX8_effect 69 = .ok (.iload_n 3, 1) := by decide +kernel
theorem dX8_effect_70 : decode cX8_effect 70 = .ok (.bipush 12, 2) := by decide +kernel
theorem dX8_effect_72 : decode cX8_effect 72 = .ok (.invokevirtual 177, 3) := by decide +kernel
theorem dX8_effect_75 : decode cX8_effect 75 = .ok (.iconst 1, 1) := by decide +kernel
theorem dX8_effect_76 : decode cX8_effect 76 = .ok (.ireturn, 1) := by decide +kernel
theorem dX8_crossTo_0 : decode cX8_crossTo 0 = .ok (.aload_n 0, 1) := by decide +kernel
theorem dX8_crossTo_1 : decode cX8_crossTo 1 = .ok (.bipush 20, 2) := by decide +kernel
theorem dX8_crossTo_3 : decode cX8_crossTo 3 = .ok (.iload_n 2, 1) := by decide +kernel
theorem dX8_crossTo_4 : decode cX8_crossTo 4 = .ok (.iload_n 3, 1) := by decide +kernel
theorem dX8_crossTo_5 : decode cX8_crossTo 5 = .ok (.invokevirtual 148, 3) := by decide +kernel
theorem dX8_crossTo_8 : decode cX8_crossTo 8 = .ok (.aload_n 0, 1) := by decide +kernel
theorem dX8_crossTo_9 : decode cX8_crossTo 9 = .ok (.getfield 105, 3) := by decide +kernel
theorem dX8_crossTo_12 : decode cX8_crossTo 12 = .ok (.ifCond .ne 13, 3) := by decide +kernel
theorem dX8_crossTo_15 : decode cX8_crossTo 15 = .ok (.aload_n 0, 1) := by decide +kernel
theorem dX8_crossTo_16 : decode cX8_crossTo 16 = .ok (.bipush 21, 2) := by decide +kernel
theorem dX8_crossTo_18 : decode cX8_crossTo 18 = .ok (.iload 4, 2) := by decide +kernel
theorem dX8_crossTo_20 : decode cX8_crossTo 20 = .ok (.iload 5, 2) := by decide +kernel
theorem dX8_crossTo_22 : decode cX8_crossTo 22 = .ok (.invokevirtual 148, 3) := by decide +kernel
theorem dX8_crossTo_25 : decode cX8_crossTo 25 = .ok (.aload_n 0, 1) := by decide +kernel
theorem dX8_crossTo_26 : decode cX8_crossTo 26 = .ok (.getfield 105, 3) := by decide +kernel
theorem dX8_crossTo_29 : decode cX8_crossTo 29 = .ok (.ifCond .ne 13, 3) := by decide +kernel
theorem dX8_crossTo_32 : decode cX8_crossTo 32 = .ok (.aload_n 0, 1) := by decide +kernel
theorem dX8_crossTo_33 : decode cX8_crossTo 33 = .ok (.iload_n 1, 1) := by decide +kernel
theorem dX8_crossTo_34 : decode cX8_crossTo 34 = .ok (.bipush 20, 2) := by decide +kernel
theorem dX8_crossTo_36 : decode cX8_crossTo 36 = .ok (.bipush 21, 2) := by decide +kernel
theorem dX8_crossTo_38 : decode cX8_crossTo 38 = .ok (.iconst 1, 1) := by decide +kernel
theorem dX8_crossTo_39 : decode cX8_crossTo 39 = .ok (.invokevirtual 170, 3) := by decide +kernel
theorem dX8_crossTo_42 : decode cX8_crossTo 42 = .ok (.return_, 1) := by decide +kernel
theorem dX8_found_0 : decode cX8_found 0 = .ok (.iload_n 1, 1) := by decide +kernel
theorem dX8_found_1 : decode cX8_found 1 = .ok (.invokestatic 226, 3) := by decide +kernel
theorem dX8_found_4 : decode cX8_found 4 = .ok (.ifCond .eq 10, 3) := by decide +kernel
theorem dX8_found_7 : decode cX8_found 7 = .ok (.iload_n 2, 1) := by decide +kernel
theorem dX8_found_8 : decode cX8_found 8 = .ok (.invokestatic 162, 3) := by decide +kernel
theorem dX8_found_11 : decode cX8_found 11 = .ok (.ifCond .ne 6, 3) := by decide +kernel
theorem dX8_found_14 : decode cX8_found 14 = .ok (.bipush (-2), 2) := by decide +kernel
theorem dX8_found_16 : decode cX8_found 16 = .ok (.ireturn, 1) := by decide +kernel
theorem dX8_found_17 : decode cX8_found 17 = .ok (.aload_n 0, 1) := by decide +kernel
theorem dX8_found_18 : decode cX8_found 18 = .ok (.getfield 213, 3) := by decide +kernel
theorem dX8_found_21 : decode cX8_found 21 = .ok (.bipush 7, 2) := by decide +kernel
theorem dX8_found_23 : decode cX8_found 23 = .ok (.if_icmp .eq 6, 3) := by decide +kernel
theorem dX8_found_26 : decode cX8_found 26 = .ok (.bipush (-3), 2) := by decide +kernel
theorem dX8_found_28 : decode cX8_found 28 = .ok (.ireturn, 1) := by decide +kernel
theorem dX8_found_29 : decode cX8_found 29 = .ok (.aload_n 0, 1) := by decide +kernel
theorem dX8_found_30 : decode cX8_found 30 = .ok (.iconst 0, 1) := by decide +kernel
theorem dX8_found_31 : decode cX8_found 31 = .ok (.putfield 105, 3) := by decide +kernel
theorem dX8_found_34 : decode cX8_found 34 = .ok (.iconst 0, 1) := by decide +kernel
theorem dX8_found_35 : decode cX8_found 35 = .ok (.istore_n 3, 1) := by decide +kernel
theorem dX8_found_36 : decode cX8_found 36 = .ok (.iload_n 3, 1) := by decide +kernel
theorem dX8_found_37 : decode cX8_found 37 = .ok (.iconst 4, 1) := by decide +kernel
theorem dX8_found_38 : decode cX8_found 38 = .ok (.if_icmp .ge 30, 3) := by decide +kernel
theorem dX8_found_41 : decode cX8_found 41 = .ok (.aload_n 0, 1) := by decide +kernel
theorem dX8_found_42 : decode cX8_found 42 = .ok (.getfield 105, 3) := by decide +kernel
theorem dX8_found_45 : decode cX8_found 45 = .ok (.ifCond .ne 23, 3) := by decide +kernel
theorem dX8_found_48 : decode cX8_found 48 = .ok (.aload_n 0, 1) := by decide +kernel
theorem dX8_found_49 : decode cX8_found 49 = .ok (.bipush 12, 2) := by decide +kernel
theorem dX8_found_51 : decode cX8_found 51 = .ok (.iload_n 3, 1) := by decide +kernel
theorem dX8_found_52 : decode cX8_found 52 = .ok (.iadd, 1) := by decide +kernel
theorem dX8_found_53 : decode cX8_found 53 = .ok (.iload_n 3, 1) := by decide +kernel
theorem dX8_found_54 : decode cX8_found 54 = .ok (.iconst 2, 1) := by decide +kernel
theorem dX8_found_55 : decode cX8_found 55 = .ok (.idiv, 1) := by decide +kernel
theorem dX8_found_56 : decode cX8_found 56 = .ok (.iload_n 3, 1) := by decide +kernel
theorem dX8_found_57 : decode cX8_found 57 = .ok (.iconst 2, 1) := by decide +kernel
theorem dX8_found_58 : decode cX8_found 58 = .ok (.irem, 1) := by decide +kernel
theorem dX8_found_59 : decode cX8_found 59 = .ok (.invokevirtual 272, 3) := by decide +kernel
theorem dX8_found_62 : decode cX8_found 62 = .ok (.iinc 3 1, 3) := by decide +kernel
theorem dX8_found_65 : decode cX8_found 65 = .ok (.goto (-29), 3) := by decide +kernel
theorem dX8_found_68 : decode cX8_found 68 = .ok (.aload_n 0, 1) := by decide +kernel
theorem dX8_found_69 : decode cX8_found 69 = .ok (.getfield 105, 3) := by decide +kernel
theorem dX8_found_72 : decode cX8_found 72 = .ok (.ifCond .ne 17, 3) := by decide +kernel
theorem dX8_found_75 : decode cX8_found 75 = .ok (.aload_n 0, 1) := by decide +kernel
theorem dX8_found_76 : decode cX8_found 76 = .ok (.bipush 16, 2) := by decide +kernel
theorem dX8_found_78 : decode cX8_found 78 = .ok (.bipush 12, 2) := by decide +kernel
theorem dX8_found_80 : decode cX8_found 80 = .ok (.bipush 15, 2) := by decide +kernel
theorem dX8_found_82 : decode cX8_found 82 = .ok (.bipush 14, 2) := by decide +kernel
theorem dX8_found_84 : decode cX8_found 84 = .ok (.bipush 13, 2) := by decide +kernel
theorem dX8_found_86 : decode cX8_found 86 = .ok (.invokevirtual 275, 3) := by decide +kernel
theorem dX8_found_89 : decode cX8_found 89 = .ok (.aload_n 0, 1) := by decide +kernel
theorem dX8_found_90 : decode cX8_found 90 = .ok (.getfield 105, 3) := by decide +kernel
theorem dX8_found_93 : decode cX8_found 93 = .ok (.ifCond .eq 6, 3) := by decide +kernel
theorem dX8_found_96 : decode cX8_found 96 = .ok (.bipush (-5), 2) := by decide +kernel
theorem dX8_found_98 : decode cX8_found 98 = .ok (.ireturn, 1) := by decide +kernel
theorem dX8_found_99 : decode cX8_found 99 = .ok (.aload_n 0, 1) := by decide +kernel
theorem dX8_found_100 : decode cX8_found 100 = .ok (.bipush 16, 2) := by decide +kernel
theorem dX8_found_102 : decode cX8_found 102 = .ok (.invokevirtual 167, 3) := by decide +kernel
theorem dX8_found_105 : decode cX8_found 105 = .ok (.ifCond .eq 6, 3) := by decide +kernel
theorem dX8_found_108 : decode cX8_found 108 = .ok (.bipush (-6), 2) := by decide +kernel
theorem dX8_found_110 : decode cX8_found 110 = .ok (.ireturn, 1) := by decide +kernel
theorem dX8_found_111 : decode cX8_found 111 = .ok (.iload_n 1, 1) := by decide +kernel
theorem dX8_found_112 : decode cX8_found 112 = .ok (.ifCond .ne 20, 3) := by decide +kernel
theorem dX8_found_115 : decode cX8_found 115 = .ok (.aload_n 0, 1) := by decide +kernel
theorem dX8_found_116 : decode cX8_found 116 = .ok (.bipush 17, 2) := by decide +kernel
theorem dX8_found_118 : decode cX8_found 118 = .ok (.bipush 6, 2) := by decide +kernel
theorem dX8_found_120 : decode cX8_found 120 = .ok (.bipush 15, 2) := by decide +kernel
theorem dX8_found_122 : decode cX8_found 122 = .ok (.bipush 14, 2) := by decide +kernel
theorem dX8_found_124 : decode cX8_found 124 = .ok (.bipush 7, 2) := by decide +kernel
theorem dX8_found_126 : decode cX8_found 126 = .ok (.invokevirtual 275, 3) := by decide +kernel
theorem dX8_found_129 : decode cX8_found 129 = .ok (.goto 17, 3) := by decide +kernel
theorem dX8_found_132 : decode cX8_found 132 = .ok (.aload_n 0, 1) := by decide +kernel
theorem dX8_found_133 : decode cX8_found 133 = .ok (.bipush 17, 2) := by decide +kernel
theorem dX8_found_135 : decode cX8_found 135 = .ok (.bipush 12, 2) := by decide +kernel
theorem dX8_found_137 : decode cX8_found 137 = .ok (.bipush 7, 2) := by decide +kernel
theorem dX8_found_139 : decode cX8_found 139 = .ok (.bipush 6, 2) := by decide +kernel
theorem dX8_found_141 : decode cX8_found 141 = .ok (.bipush 13, 2) := by decide +kernel
theorem dX8_found_143 : decode cX8_found 143 = .ok (.invokevirtual 275, 3) := by decide +kernel
theorem dX8_found_146 : decode cX8_found 146 = .ok (.aload_n 0, 1) := by decide +kernel
theorem dX8_found_147 : decode cX8_found 147 = .ok (.getfield 105, 3) := by decide +kernel
theorem dX8_found_150 : decode cX8_found 150 = .ok (.ifCond .ne 13, 3) := by decide +kernel
theorem dX8_found_153 : decode cX8_found 153 = .ok (.aload_n 0, 1) := by decide +kernel
theorem dX8_found_154 : decode cX8_found 154 = .ok (.bipush 18, 2) := by decide +kernel
theorem dX8_found_156 : decode cX8_found 156 = .ok (.bipush 17, 2) := by decide +kernel
theorem dX8_found_158 : decode cX8_found 158 = .ok (.bipush 16, 2) := by decide +kernel
theorem dX8_found_160 : decode cX8_found 160 = .ok (.invokevirtual 174, 3) := by decide +kernel
theorem dX8_found_163 : decode cX8_found 163 = .ok (.aload_n 0, 1) := by decide +kernel
theorem dX8_found_164 : decode cX8_found 164 = .ok (.getfield 105, 3) := by decide +kernel
theorem dX8_found_167 : decode cX8_found 167 = .ok (.ifCond .eq 6, 3) := by decide +kernel
theorem dX8_found_170 : decode cX8_found 170 = .ok (.bipush (-5), 2) := by decide +kernel
theorem dX8_found_172 : decode cX8_found 172 = .ok (.ireturn, 1) := by decide +kernel
theorem dX8_found_173 : decode cX8_found 173 = .ok (.aload_n 0, 1) := by decide +kernel
theorem dX8_found_174 : decode cX8_found 174 = .ok (.iload_n 2, 1) := by decide +kernel
theorem dX8_found_175 : decode cX8_found 175 = .ok (.bipush 18, 2) := by decide +kernel
theorem dX8_found_177 : decode cX8_found 177 = .ok (.invokevirtual 177, 3) := by decide +kernel
theorem dX8_found_180 : decode cX8_found 180 = .ok (.iconst 1, 1) := by decide +kernel
theorem dX8_found_181 : decode cX8_found 181 = .ok (.ireturn, 1) := by decide +kernel
theorem dX8_looksAt_0 : decode cX8_looksAt 0 = .ok (.aload_n 0, 1) := by decide +kernel
theorem dX8_looksAt_1 : decode cX8_looksAt 1 = .ok (.invokevirtual 248, 3) := by decide +kernel
theorem dX8_looksAt_4 : decode cX8_looksAt 4 = .ok (.istore_n 2, 1) := by decide +kernel
theorem dX8_looksAt_5 : decode cX8_looksAt 5 = .ok (.aload_n 0, 1) := by decide +kernel
theorem dX8_looksAt_6 : decode cX8_looksAt 6 = .ok (.iconst 0, 1) := by decide +kernel
theorem dX8_looksAt_7 : decode cX8_looksAt 7 = .ok (.invokevirtual 203, 3) := by decide +kernel
theorem dX8_looksAt_10 : decode cX8_looksAt 10 = .ok (.lstore_n 3, 1) := by decide +kernel
theorem dX8_looksAt_11 : decode cX8_looksAt 11 = .ok (.aload_n 0, 1) := by decide +kernel
theorem dX8_looksAt_12 : decode cX8_looksAt 12 = .ok (.iconst 1, 1) := by decide +kernel
theorem dX8_looksAt_13 : decode cX8_looksAt 13 = .ok (.invokevirtual 203, 3) := by decide +kernel
theorem dX8_looksAt_16 : decode cX8_looksAt 16 = .ok (.lstore 5, 2) := by decide +kernel
theorem dX8_looksAt_18 : decode cX8_looksAt 18 = .ok (.iload_n 2, 1) := by decide +kernel
theorem dX8_looksAt_19 : decode cX8_looksAt 19 = .ok (.ifCond .eq 90, 3) := by decide +kernel
theorem dX8_looksAt_22 : decode cX8_looksAt 22 = .ok (.aload_n 0, 1) := by decide +kernel
theorem dX8_looksAt_23 : decode cX8_looksAt 23 = .ok (.getfield 279, 3) := by decide +kernel
theorem dX8_looksAt_26 : decode cX8_looksAt 26 = .ok (.iconst (-1), 1) := by decide +kernel
theorem dX8_looksAt_27 : decode cX8_looksAt 27 = .ok (.if_icmp .eq 23, 3) := by decide +kernel
theorem dX8_looksAt_30 : decode cX8_looksAt 30 = .ok (.aload_n 0, 1) := by decide +kernel
theorem dX8_looksAt_31 : decode cX8_looksAt 31 = .ok (.lload_n 3, 1) := by decide +kernel
theorem dX8_looksAt_32 : decode cX8_looksAt 32 = .ok (.aload_n 0, 1) := by decide +kernel
theorem dX8_looksAt_33 : decode cX8_looksAt 33 = .ok (.getfield 282, 3) := by decide +kernel
theorem dX8_looksAt_36 : decode cX8_looksAt 36 = .ok (.lsub, 1) := by decide +kernel
theorem dX8_looksAt_37 : decode cX8_looksAt 37 = .ok (.lload 5, 2) := by decide +kernel
theorem dX8_looksAt_39 : decode cX8_looksAt 39 = .ok (.aload_n 0, 1) := by decide +kernel
theorem dX8_looksAt_40 : decode cX8_looksAt 40 = .ok (.getfield 286, 3) := by decide +kernel
theorem dX8_looksAt_43 : decode cX8_looksAt 43 = .ok (.lsub, 1) := by decide +kernel
theorem dX8_looksAt_44 : decode cX8_looksAt 44 = .ok (.invokevirtual 185, 3) := by decide +kernel
theorem dX8_looksAt_47 : decode cX8_looksAt 47 = .ok (.ifCond .ge 62, 3) := by decide +kernel
theorem dX8_looksAt_50 : decode cX8_looksAt 50 = .ok (.aload_n 0, 1) := by decide +kernel
theorem dX8_looksAt_51 : decode cX8_looksAt 51 = .ok (.iload_n 1, 1) := by decide +kernel
theorem dX8_looksAt_52 : decode cX8_looksAt 52 = .ok (.putfield 279, 3) := by decide +kernel
theorem dX8_looksAt_55 : decode cX8_looksAt 55 = .ok (.aload_n 0, 1) := by decide +kernel
theorem dX8_looksAt_56 : decode cX8_looksAt 56 = .ok (.lload_n 3, 1) := by decide +kernel
theorem dX8_looksAt_57 : decode cX8_looksAt 57 = .ok (.putfield 282, 3) := by decide +kernel
theorem dX8_looksAt_60 : decode cX8_looksAt 60 = .ok (.aload_n 0, 1) := by decide +kernel
theorem dX8_looksAt_61 : decode cX8_looksAt 61 = .ok (.lload 5, 2) := by decide +kernel
theorem dX8_looksAt_63 : decode cX8_looksAt 63 = .ok (.putfield 286, 3) := by decide +kernel
theorem dX8_looksAt_66 : decode cX8_looksAt 66 = .ok (.iconst 0, 1) := by decide +kernel
theorem dX8_looksAt_67 : decode cX8_looksAt 67 = .ok (.istore 7, 2) := by decide +kernel
theorem dX8_looksAt_69 : decode cX8_looksAt 69 = .ok (.iload 7, 2) := by decide +kernel
theorem dX8_looksAt_71 : decode cX8_looksAt 71 = .ok (.iload_n 1, 1) := by decide +kernel
theorem dX8_looksAt_72 : decode cX8_looksAt 72 = .ok (.if_icmp .ge 37, 3) := by decide +kernel
theorem dX8_looksAt_75 : decode cX8_looksAt 75 = .ok (.aload_n 0, 1) := by decide +kernel
theorem dX8_looksAt_76 : decode cX8_looksAt 76 = .ok (.getfield 59, 3) := by decide +kernel
theorem dX8_looksAt_79 : decode cX8_looksAt 79 = .ok (.iload 7, 2) := by decide +kernel
theorem dX8_looksAt_81 : decode cX8_looksAt 81 = .ok (.aload_n 0, 1) := by decide +kernel
theorem dX8_looksAt_82 : decode cX8_looksAt 82 = .ok (.getfield 53, 3) := by decide +kernel
theorem dX8_looksAt_85 : decode cX8_looksAt 85 = .ok (.iload 7, 2) := by decide +kernel
theorem dX8_looksAt_87 : decode cX8_looksAt 87 = .ok (.iaload, 1) := by decide +kernel
theorem dX8_looksAt_88 : decode cX8_looksAt 88 = .ok (.iastore, 1) := by decide +kernel
theorem dX8_looksAt_89 : decode cX8_looksAt 89 = .ok (.aload_n 0, 1) := by decide +kernel
theorem dX8_looksAt_90 : decode cX8_looksAt 90 = .ok (.getfield 62, 3) := by decide +kernel
theorem dX8_looksAt_93 : decode cX8_looksAt 93 = .ok (.iload 7, 2) := by decide +kernel
theorem dX8_looksAt_95 : decode cX8_looksAt 95 = .ok (.aload_n 0, 1) := by decide +kernel
theorem dX8_looksAt_96 : decode cX8_looksAt 96 = .ok (.getfield 56, 3) := by decide +kernel
theorem dX8_looksAt_99 : decode cX8_looksAt 99 = .ok (.iload 7, 2) := by decide +kernel
theorem dX8_looksAt_101 : decode cX8_looksAt 101 = .ok (.iaload, 1) := by decide +kernel
theorem dX8_looksAt_102 : decode cX8_looksAt 102 = .ok (.iastore, 1) := by decide +kernel
theorem dX8_looksAt_103 : decode cX8_looksAt 103 = .ok (.iinc 7 1, 3) := by decide +kernel
theorem dX8_looksAt_106 : decode cX8_looksAt 106 = .ok (.goto (-37), 3) := by decide +kernel
theorem dX8_looksAt_109 : decode cX8_looksAt 109 = .ok (.return_, 1) := by decide +kernel
theorem dX8_steps_0 : decode cX8_steps 0 = .ok (.iconst 0, 1) := by decide +kernel
theorem dX8_steps_1 : decode cX8_steps 1 = .ok (.istore_n 3, 1) := by decide +kernel
theorem dX8_steps_2 : decode cX8_steps 2 = .ok (.bipush 10, 2) := by decide +kernel
theorem dX8_steps_4 : decode cX8_steps 4 = .ok (.aload_n 0, 1) := by decide +kernel
theorem dX8_steps_5 : decode cX8_steps 5 = .ok (.getfield 53, 3) := by decide +kernel
theorem dX8_steps_8 : decode cX8_steps 8 = .ok (.iload_n 2, 1) := by decide +kernel
theorem dX8_steps_9 : decode cX8_steps 9 = .ok (.iaload, 1) := by decide +kernel
theorem dX8_steps_10 : decode cX8_steps 10 = .ok (.imul, 1) := by decide +kernel
theorem dX8_steps_11 : decode cX8_steps 11 = .ok (.aload_n 0, 1) := by decide +kernel
theorem dX8_steps_12 : decode cX8_steps 12 = .ok (.getfield 56, 3) := by decide +kernel
theorem dX8_steps_15 : decode cX8_steps 15 = .ok (.iload_n 2, 1) := by decide +kernel
theorem dX8_steps_16 : decode cX8_steps 16 = .ok (.iaload, 1) := by decide +kernel
theorem dX8_steps_17 : decode cX8_steps 17 = .ok (.iadd, 1) := by decide +kernel
theorem dX8_steps_18 : decode cX8_steps 18 = .ok (.iconst 1, 1) := by decide +kernel
theorem dX8_steps_19 : decode cX8_steps 19 = .ok (.iadd, 1) := by decide +kernel
theorem dX8_steps_20 : decode cX8_steps 20 = .ok (.istore 4, 2) := by decide +kernel
theorem dX8_steps_22 : decode cX8_steps 22 = .ok (.iload 4, 2) := by decide +kernel
theorem dX8_steps_24 : decode cX8_steps 24 = .ok (.istore 5, 2) := by decide +kernel
theorem dX8_steps_26 : decode cX8_steps 26 = .ok (.iload 5, 2) := by decide +kernel
theorem dX8_steps_28 : decode cX8_steps 28 = .ok (.bipush 120, 2) := by decide +kernel
theorem dX8_steps_30 : decode cX8_steps 30 = .ok (.if_icmp .ge 70, 3) := by decide +kernel
theorem dX8_steps_33 : decode cX8_steps 33 = .ok (.iload_n 3, 1) := by decide +kernel
theorem dX8_steps_34 : decode cX8_steps 34 = .ok (.ifCond .ne 66, 3) := by decide +kernel
theorem dX8_steps_37 : decode cX8_steps 37 = .ok (.aload_n 0, 1) := by decide +kernel
theorem dX8_steps_38 : decode cX8_steps 38 = .ok (.getfield 65, 3) := by decide +kernel
theorem dX8_steps_41 : decode cX8_steps 41 = .ok (.iload 5, 2) := by decide +kernel
theorem dX8_steps_43 : decode cX8_steps 43 = .ok (.bipush 10, 2) := by decide +kernel
theorem dX8_steps_45 : decode cX8_steps 45 = .ok (.irem, 1) := by decide +kernel
theorem dX8_steps_46 : decode cX8_steps 46 = .ok (.ishr, 1) := by decide +kernel
theorem dX8_steps_47 : decode cX8_steps 47 = .ok (.iconst 1, 1) := by decide +kernel
theorem dX8_steps_48 : decode cX8_steps 48 = .ok (.iand, 1) := by decide +kernel
theorem dX8_steps_49 : decode cX8_steps 49 = .ok (.iconst 1, 1) := by decide +kernel
theorem dX8_steps_50 : decode cX8_steps 50 = .ok (.if_icmp .ne 20, 3) := by decide +kernel
theorem dX8_steps_53 : decode cX8_steps 53 = .ok (.aload_n 0, 1) := by decide +kernel
theorem dX8_steps_54 : decode cX8_steps 54 = .ok (.iload_n 1, 1) := by decide +kernel
theorem dX8_steps_55 : decode cX8_steps 55 = .ok (.iload 5, 2) := by decide +kernel
theorem dX8_steps_57 : decode cX8_steps 57 = .ok (.bipush 10, 2) := by decide +kernel
theorem dX8_steps_59 : decode cX8_steps 59 = .ok (.idiv, 1) := by decide +kernel
theorem dX8_steps_60 : decode cX8_steps 60 = .ok (.invokevirtual 231, 3) := by decide +kernel
theorem dX8_steps_63 : decode cX8_steps 63 = .ok (.ifCond .eq 7, 3) := by decide +kernel
theorem dX8_steps_66 : decode cX8_steps 66 = .ok (.iconst 1, 1) := by decide +kernel
theorem dX8_steps_67 : decode cX8_steps 67 = .ok (.goto 4, 3) := by decide +kernel
theorem dX8_steps_70 : decode cX8_steps 70 = .ok (.iconst 0, 1) := by decide +kernel
theorem dX8_steps_71 : decode cX8_steps 71 = .ok (.istore_n 3, 1) := by decide +kernel
theorem dX8_steps_72 : decode cX8_steps 72 = .ok (.aload_n 0, 1) := by decide +kernel
theorem dX8_steps_73 : decode cX8_steps 73 = .ok (.getfield 53, 3) := by decide +kernel
theorem dX8_steps_76 : decode cX8_steps 76 = .ok (.iload_n 2, 1) := by decide +kernel
theorem dX8_steps_77 : decode cX8_steps 77 = .ok (.iload 5, 2) := by decide +kernel
theorem dX8_steps_79 : decode cX8_steps 79 = .ok (.bipush 10, 2) := by decide +kernel
theorem dX8_steps_81 : decode cX8_steps 81 = .ok (.idiv, 1) := by decide +kernel
theorem dX8_steps_82 : decode cX8_steps 82 = .ok (.iastore, 1) := by decide +kernel
theorem dX8_steps_83 : decode cX8_steps 83 = .ok (.aload_n 0, 1) := by decide +kernel
theorem dX8_steps_84 : decode cX8_steps 84 = .ok (.getfield 56, 3) := by decide +kernel
theorem dX8_steps_87 : decode cX8_steps 87 = .ok (.iload_n 2, 1) := by decide +kernel
theorem dX8_steps_88 : decode cX8_steps 88 = .ok (.iload 5, 2) := by decide +kernel
theorem dX8_steps_90 : decode cX8_steps 90 = .ok (.bipush 10, 2) := by decide +kernel
theorem dX8_steps_92 : decode cX8_steps 92 = .ok (.irem, 1) := by decide +kernel
theorem dX8_steps_93 : decode cX8_steps 93 = .ok (.iastore, 1) := by decide +kernel
theorem dX8_steps_94 : decode cX8_steps 94 = .ok (.iinc 5 1, 3) := by decide +kernel
theorem dX8_steps_97 : decode cX8_steps 97 = .ok (.goto (-71), 3) := by decide +kernel
theorem dX8_steps_100 : decode cX8_steps 100 = .ok (.iload_n 3, 1) := by decide +kernel
theorem dX8_steps_101 : decode cX8_steps 101 = .ok (.ireturn, 1) := by decide +kernel
theorem dX8_tries_0 : decode cX8_tries 0 = .ok (.iconst 0, 1) := by decide +kernel
theorem dX8_tries_1 : decode cX8_tries 1 = .ok (.istore_n 3, 1) := by decide +kernel
theorem dX8_tries_2 : decode cX8_tries 2 = .ok (.aload_n 0, 1) := by decide +kernel
theorem dX8_tries_3 : decode cX8_tries 3 = .ok (.iload_n 1, 1) := by decide +kernel
theorem dX8_tries_4 : decode cX8_tries 4 = .ok (.invokevirtual 208, 3) := by decide +kernel
theorem dX8_tries_7 : decode cX8_tries 7 = .ok (.iload_n 2, 1) := by decide +kernel
