theorem dX7_sheet_18 : decode cX7_sheet 18 = .ok (.ifCond .ge 12, 3) := by decide +kernel
theorem dX7_sheet_21 : decode cX7_sheet 21 = .ok (.aload_n 0, 1) := by decide +kernel
theorem dX7_sheet_22 : decode cX7_sheet 22 = .ok (.getfield 61, 3) := by decide +kernel
theorem dX7_sheet_25 : decode cX7_sheet 25 = .ok (.iconst 3, 1) := by decide +kernel
theorem dX7_sheet_26 : decode cX7_sheet 26 = .ok (.invokevirtual 80, 3) := by decide +kernel
theorem dX7_sheet_29 : decode cX7_sheet 29 = .ok (.ireturn, 1) := by decide +kernel
theorem dX7_sheet_30 : decode cX7_sheet 30 = .ok (.aload_n 0, 1) := by decide +kernel
theorem dX7_sheet_31 : decode cX7_sheet 31 = .ok (.getfield 61, 3) := by decide +kernel
theorem dX7_sheet_34 : decode cX7_sheet 34 = .ok (.iload_n 1, 1) := by decide +kernel
theorem dX7_sheet_35 : decode cX7_sheet 35 = .ok (.iload_n 2, 1) := by decide +kernel
theorem dX7_sheet_36 : decode cX7_sheet 36 = .ok (.invokevirtual 249, 3) := by decide +kernel
theorem dX7_sheet_39 : decode cX7_sheet 39 = .ok (.iload_n 2, 1) := by decide +kernel
theorem dX7_sheet_40 : decode cX7_sheet 40 = .ok (.ireturn, 1) := by decide +kernel
theorem dX7_lose_0 : decode cX7_lose 0 = .ok (.iload_n 1, 1) := by decide +kernel
theorem dX7_lose_1 : decode cX7_lose 1 = .ok (.iconst 4, 1) := by decide +kernel
theorem dX7_lose_2 : decode cX7_lose 2 = .ok (.invokestatic 65, 3) := by decide +kernel
theorem dX7_lose_5 : decode cX7_lose 5 = .ok (.ifCond .eq 6, 3) := by decide +kernel
theorem dX7_lose_8 : decode cX7_lose 8 = .ok (.bipush (-2), 2) := by decide +kernel
theorem dX7_lose_10 : decode cX7_lose 10 = .ok (.ireturn, 1) := by decide +kernel
theorem dX7_lose_11 : decode cX7_lose 11 = .ok (.aload_n 0, 1) := by decide +kernel
theorem dX7_lose_12 : decode cX7_lose 12 = .ok (.getfield 61, 3) := by decide +kernel
theorem dX7_lose_15 : decode cX7_lose 15 = .ok (.iload_n 1, 1) := by decide +kernel
theorem dX7_lose_16 : decode cX7_lose 16 = .ok (.invokevirtual 76, 3) := by decide +kernel
theorem dX7_lose_19 : decode cX7_lose 19 = .ok (.ifCond .eq 12, 3) := by decide +kernel
theorem dX7_lose_22 : decode cX7_lose 22 = .ok (.aload_n 0, 1) := by decide +kernel
theorem dX7_lose_23 : decode cX7_lose 23 = .ok (.getfield 61, 3) := by decide +kernel
theorem dX7_lose_26 : decode cX7_lose 26 = .ok (.iconst 1, 1) := by decide +kernel
theorem dX7_lose_27 : decode cX7_lose 27 = .ok (.invokevirtual 80, 3) := by decide +kernel
theorem dX7_lose_30 : decode cX7_lose 30 = .ok (.ireturn, 1) := by decide +kernel
theorem dX7_lose_31 : decode cX7_lose 31 = .ok (.aload_n 0, 1) := by decide +kernel
theorem dX7_lose_32 : decode cX7_lose 32 = .ok (.getfield 61, 3) := by decide +kernel
theorem dX7_lose_35 : decode cX7_lose 35 = .ok (.iload_n 1, 1) := by decide +kernel
theorem dX7_lose_36 : decode cX7_lose 36 = .ok (.invokevirtual 252, 3) := by decide +kernel
theorem dX7_lose_39 : decode cX7_lose 39 = .ok (.istore_n 2, 1) := by decide +kernel
theorem dX7_lose_40 : decode cX7_lose 40 = .ok (.aload_n 0, 1) := by decide +kernel
theorem dX7_lose_41 : decode cX7_lose 41 = .ok (.getfield 61, 3) := by decide +kernel
theorem dX7_lose_44 : decode cX7_lose 44 = .ok (.iload_n 1, 1) := by decide +kernel
theorem dX7_lose_45 : decode cX7_lose 45 = .ok (.invokevirtual 255, 3) := by decide +kernel
theorem dX7_lose_48 : decode cX7_lose 48 = .ok (.iload_n 2, 1) := by decide +kernel
theorem dX7_lose_49 : decode cX7_lose 49 = .ok (.ireturn, 1) := by decide +kernel
theorem dX7_lay_0 : decode cX7_lay 0 = .ok (.iload_n 1, 1) := by decide +kernel
theorem dX7_lay_1 : decode cX7_lay 1 = .ok (.iconst 4, 1) := by decide +kernel
theorem dX7_lay_2 : decode cX7_lay 2 = .ok (.invokestatic 65, 3) := by decide +kernel
theorem dX7_lay_5 : decode cX7_lay 5 = .ok (.ifCond .ne 13, 3) := by decide +kernel
theorem dX7_lay_8 : decode cX7_lay 8 = .ok (.iload 4, 2) := by decide +kernel
theorem dX7_lay_10 : decode cX7_lay 10 = .ok (.bipush 63, 2) := by decide +kernel
theorem dX7_lay_12 : decode cX7_lay 12 = .ok (.invokestatic 65, 3) := by decide +kernel
theorem dX7_lay_15 : decode cX7_lay 15 = .ok (.ifCond .eq 6, 3) := by decide +kernel
theorem dX7_lay_18 : decode cX7_lay 18 = .ok (.bipush (-2), 2) := by decide +kernel
theorem dX7_lay_20 : decode cX7_lay 20 = .ok (.ireturn, 1) := by decide +kernel
theorem dX7_lay_21 : decode cX7_lay 21 = .ok (.aload_n 0, 1) := by decide +kernel
theorem dX7_lay_22 : decode cX7_lay 22 = .ok (.getfield 61, 3) := by decide +kernel
theorem dX7_lay_25 : decode cX7_lay 25 = .ok (.iload_n 1, 1) := by decide +kernel
theorem dX7_lay_26 : decode cX7_lay 26 = .ok (.invokevirtual 76, 3) := by decide +kernel
theorem dX7_lay_29 : decode cX7_lay 29 = .ok (.ifCond .eq 12, 3) := by decide +kernel
theorem dX7_lay_32 : decode cX7_lay 32 = .ok (.aload_n 0, 1) := by decide +kernel
theorem dX7_lay_33 : decode cX7_lay 33 = .ok (.getfield 61, 3) := by decide +kernel
theorem dX7_lay_36 : decode cX7_lay 36 = .ok (.iconst 1, 1) := by decide +kernel
theorem dX7_lay_37 : decode cX7_lay 37 = .ok (.invokevirtual 80, 3) := by decide +kernel
theorem dX7_lay_40 : decode cX7_lay 40 = .ok (.ireturn, 1) := by decide +kernel
theorem dX7_lay_41 : decode cX7_lay 41 = .ok (.aload_n 0, 1) := by decide +kernel
theorem dX7_lay_42 : decode cX7_lay 42 = .ok (.getfield 61, 3) := by decide +kernel
theorem dX7_lay_45 : decode cX7_lay 45 = .ok (.iload_n 1, 1) := by decide +kernel
theorem dX7_lay_46 : decode cX7_lay 46 = .ok (.iload_n 2, 1) := by decide +kernel
theorem dX7_lay_47 : decode cX7_lay 47 = .ok (.iconst 1, 1) := by decide +kernel
theorem dX7_lay_48 : decode cX7_lay 48 = .ok (.invokevirtual 84, 3) := by decide +kernel
theorem dX7_lay_51 : decode cX7_lay 51 = .ok (.ifCond .eq 12, 3) := by decide +kernel
theorem dX7_lay_54 : decode cX7_lay 54 = .ok (.aload_n 0, 1) := by decide +kernel
theorem dX7_lay_55 : decode cX7_lay 55 = .ok (.getfield 61, 3) := by decide +kernel
theorem dX7_lay_58 : decode cX7_lay 58 = .ok (.iconst 2, 1) := by decide +kernel
theorem dX7_lay_59 : decode cX7_lay 59 = .ok (.invokevirtual 80, 3) := by decide +kernel
theorem dX7_lay_62 : decode cX7_lay 62 = .ok (.ireturn, 1) := by decide +kernel
theorem dX7_lay_63 : decode cX7_lay 63 = .ok (.aload_n 0, 1) := by decide +kernel
theorem dX7_lay_64 : decode cX7_lay 64 = .ok (.getfield 61, 3) := by decide +kernel
theorem dX7_lay_67 : decode cX7_lay 67 = .ok (.iload_n 1, 1) := by decide +kernel
theorem dX7_lay_68 : decode cX7_lay 68 = .ok (.iload_n 2, 1) := by decide +kernel
theorem dX7_lay_69 : decode cX7_lay 69 = .ok (.iload_n 3, 1) := by decide +kernel
theorem dX7_lay_70 : decode cX7_lay 70 = .ok (.i2l, 1) := by decide +kernel
theorem dX7_lay_71 : decode cX7_lay 71 = .ok (.iload 4, 2) := by decide +kernel
theorem dX7_lay_73 : decode cX7_lay 73 = .ok (.lshl, 1) := by decide +kernel
theorem dX7_lay_74 : decode cX7_lay 74 = .ok (.invokevirtual 258, 3) := by decide +kernel
theorem dX7_lay_77 : decode cX7_lay 77 = .ok (.iconst 1, 1) := by decide +kernel
theorem dX7_lay_78 : decode cX7_lay 78 = .ok (.ireturn, 1) := by decide +kernel
theorem dX7_get_0 : decode cX7_get 0 = .ok (.iload_n 1, 1) := by decide +kernel
theorem dX7_get_1 : decode cX7_get 1 = .ok (.iconst 4, 1) := by decide +kernel
theorem dX7_get_2 : decode cX7_get 2 = .ok (.invokestatic 65, 3) := by decide +kernel
theorem dX7_get_5 : decode cX7_get 5 = .ok (.ifCond .eq 9, 3) := by decide +kernel
theorem dX7_get_8 : decode cX7_get 8 = .ok (.bipush (-2), 2) := by decide +kernel
theorem dX7_get_10 : decode cX7_get 10 = .ok (.invokestatic 109, 3) := by decide +kernel
theorem dX7_get_13 : decode cX7_get 13 = .ok (.lreturn, 1) := by decide +kernel
theorem dX7_get_14 : decode cX7_get 14 = .ok (.aload_n 0, 1) := by decide +kernel
theorem dX7_get_15 : decode cX7_get 15 = .ok (.getfield 61, 3) := by decide +kernel
theorem dX7_get_18 : decode cX7_get 18 = .ok (.iload_n 1, 1) := by decide +kernel
theorem dX7_get_19 : decode cX7_get 19 = .ok (.invokevirtual 76, 3) := by decide +kernel
theorem dX7_get_22 : decode cX7_get 22 = .ok (.ifCond .eq 15, 3) := by decide +kernel
theorem dX7_get_25 : decode cX7_get 25 = .ok (.aload_n 0, 1) := by decide +kernel
theorem dX7_get_26 : decode cX7_get 26 = .ok (.getfield 61, 3) := by decide +kernel
theorem dX7_get_29 : decode cX7_get 29 = .ok (.iconst 1, 1) := by decide +kernel
theorem dX7_get_30 : decode cX7_get 30 = .ok (.invokevirtual 80, 3) := by decide +kernel
theorem dX7_get_33 : decode cX7_get 33 = .ok (.invokestatic 109, 3) := by decide +kernel
theorem dX7_get_36 : decode cX7_get 36 = .ok (.lreturn, 1) := by decide +kernel
theorem dX7_get_37 : decode cX7_get 37 = .ok (.aload_n 0, 1) := by decide +kernel
theorem dX7_get_38 : decode cX7_get 38 = .ok (.getfield 61, 3) := by decide +kernel
theorem dX7_get_41 : decode cX7_get 41 = .ok (.iload_n 1, 1) := by decide +kernel
theorem dX7_get_42 : decode cX7_get 42 = .ok (.iload_n 2, 1) := by decide +kernel
theorem dX7_get_43 : decode cX7_get 43 = .ok (.iconst 1, 1) := by decide +kernel
theorem dX7_get_44 : decode cX7_get 44 = .ok (.invokevirtual 84, 3) := by decide +kernel
theorem dX7_get_47 : decode cX7_get 47 = .ok (.ifCond .eq 15, 3) := by decide +kernel
theorem dX7_get_50 : decode cX7_get 50 = .ok (.aload_n 0, 1) := by decide +kernel
theorem dX7_get_51 : decode cX7_get 51 = .ok (.getfield 61, 3) := by decide +kernel
theorem dX7_get_54 : decode cX7_get 54 = .ok (.iconst 2, 1) := by decide +kernel
theorem dX7_get_55 : decode cX7_get 55 = .ok (.invokevirtual 80, 3) := by decide +kernel
theorem dX7_get_58 : decode cX7_get 58 = .ok (.invokestatic 109, 3) := by decide +kernel
theorem dX7_get_61 : decode cX7_get 61 = .ok (.lreturn, 1) := by decide +kernel
theorem dX7_get_62 : decode cX7_get 62 = .ok (.aload_n 0, 1) := by decide +kernel
theorem dX7_get_63 : decode cX7_get 63 = .ok (.getfield 61, 3) := by decide +kernel
theorem dX7_get_66 : decode cX7_get 66 = .ok (.iload_n 1, 1) := by decide +kernel
theorem dX7_get_67 : decode cX7_get 67 = .ok (.iload_n 2, 1) := by decide +kernel
theorem dX7_get_68 : decode cX7_get 68 = .ok (.invokevirtual 88, 3) := by decide +kernel
theorem dX7_get_71 : decode cX7_get 71 = .ok (.lreturn, 1) := by decide +kernel
theorem dX7_copy_0 : decode cX7_copy 0 = .ok (.iload_n 1, 1) := by decide +kernel
theorem dX7_copy_1 : decode cX7_copy 1 = .ok (.iconst 4, 1) := by decide +kernel
theorem dX7_copy_2 : decode cX7_copy 2 = .ok (.invokestatic 65, 3) := by decide +kernel
theorem dX7_copy_5 : decode cX7_copy 5 = .ok (.ifCond .ne 11, 3) := by decide +kernel
theorem dX7_copy_8 : decode cX7_copy 8 = .ok (.iload_n 3, 1) := by decide +kernel
theorem dX7_copy_9 : decode cX7_copy 9 = .ok (.iconst 4, 1) := by decide +kernel
theorem dX7_copy_10 : decode cX7_copy 10 = .ok (.invokestatic 65, 3) := by decide +kernel
theorem dX7_copy_13 : decode cX7_copy 13 = .ok (.ifCond .eq 6, 3) := by decide +kernel
theorem dX7_copy_16 : decode cX7_copy 16 = .ok (.bipush (-2), 2) := by decide +kernel
theorem dX7_copy_18 : decode cX7_copy 18 = .ok (.ireturn, 1) := by decide +kernel
theorem dX7_copy_19 : decode cX7_copy 19 = .ok (.aload_n 0, 1) := by decide +kernel
theorem dX7_copy_20 : decode cX7_copy 20 = .ok (.getfield 61, 3) := by decide +kernel
theorem dX7_copy_23 : decode cX7_copy 23 = .ok (.iload_n 1, 1) := by decide +kernel
theorem dX7_copy_24 : decode cX7_copy 24 = .ok (.invokevirtual 76, 3) := by decide +kernel
theorem dX7_copy_27 : decode cX7_copy 27 = .ok (.ifCond .ne 14, 3) := by decide +kernel
theorem dX7_copy_30 : decode cX7_copy 30 = .ok (.aload_n 0, 1) := by decide +kernel
theorem dX7_copy_31 : decode cX7_copy 31 = .ok (.getfield 61, 3) := by decide +kernel
theorem dX7_copy_34 : decode cX7_copy 34 = .ok (.iload_n 3, 1) := by decide +kernel
theorem dX7_copy_35 : decode cX7_copy 35 = .ok (.invokevirtual 76, 3) := by decide +kernel
theorem dX7_copy_38 : decode cX7_copy 38 = .ok (.ifCond .eq 12, 3) := by decide +kernel
theorem dX7_copy_41 : decode cX7_copy 41 = .ok (.aload_n 0, 1) := by decide +kernel
theorem dX7_copy_42 : decode cX7_copy 42 = .ok (.getfield 61, 3) := by decide +kernel
theorem dX7_copy_45 : decode cX7_copy 45 = .ok (.iconst 1, 1) := by decide +kernel
theorem dX7_copy_46 : decode cX7_copy 46 = .ok (.invokevirtual 80, 3) := by decide +kernel
theorem dX7_copy_49 : decode cX7_copy 49 = .ok (.ireturn, 1) := by decide +kernel
theorem dX7_copy_50 : decode cX7_copy 50 = .ok (.iload 5, 2) := by decide +kernel
theorem dX7_copy_52 : decode cX7_copy 52 = .ok (.ifCond .lt 32, 3) := by decide +kernel
theorem dX7_copy_55 : decode cX7_copy 55 = .ok (.aload_n 0, 1) := by decide +kernel
theorem dX7_copy_56 : decode cX7_copy 56 = .ok (.getfield 61, 3) := by decide +kernel
theorem dX7_copy_59 : decode cX7_copy 59 = .ok (.iload_n 1, 1) := by decide +kernel
theorem dX7_copy_60 : decode cX7_copy 60 = .ok (.iload_n 2, 1) := by decide +kernel
theorem dX7_copy_61 : decode cX7_copy 61 = .ok (.iload 5, 2) := by decide +kernel
theorem dX7_copy_63 : decode cX7_copy 63 = .ok (.invokevirtual 84, 3) := by decide +kernel
theorem dX7_copy_66 : decode cX7_copy 66 = .ok (.ifCond .ne 18, 3) := by decide +kernel
theorem dX7_copy_69 : decode cX7_copy 69 = .ok (.aload_n 0, 1) := by decide +kernel
theorem dX7_copy_70 : decode cX7_copy 70 = .ok (.getfield 61, 3) := by decide +kernel
theorem dX7_copy_73 : decode cX7_copy 73 = .ok (.iload_n 3, 1) := by decide +kernel
theorem dX7_copy_74 : decode cX7_copy 74 = .ok (.iload 4, 2) := by decide +kernel
theorem dX7_copy_76 : decode cX7_copy 76 = .ok (.iload 5, 2) := by decide +kernel
theorem dX7_copy_78 : decode cX7_copy 78 = .ok (.invokevirtual 84, 3) := by decide +kernel
theorem dX7_copy_81 : decode cX7_copy 81 = .ok (.ifCond .eq 12, 3) := by decide +kernel
theorem dX7_copy_84 : decode cX7_copy 84 = .ok (.aload_n 0, 1) := by decide +kernel
theorem dX7_copy_85 : decode cX7_copy 85 = .ok (.getfield 61, 3) := by decide +kernel
theorem dX7_copy_88 : decode cX7_copy 88 = .ok (.iconst 2, 1) := by decide +kernel
theorem dX7_copy_89 : decode cX7_copy 89 = .ok (.invokevirtual 80, 3) := by decide +kernel
theorem dX7_copy_92 : decode cX7_copy 92 = .ok (.ireturn, 1) := by decide +kernel
theorem dX7_copy_93 : decode cX7_copy 93 = .ok (.aload_n 0, 1) := by decide +kernel
theorem dX7_copy_94 : decode cX7_copy 94 = .ok (.getfield 61, 3) := by decide +kernel
theorem dX7_copy_97 : decode cX7_copy 97 = .ok (.iload_n 1, 1) := by decide +kernel
theorem dX7_copy_98 : decode cX7_copy 98 = .ok (.iload_n 2, 1) := by decide +kernel
theorem dX7_copy_99 : decode cX7_copy 99 = .ok (.iload_n 3, 1) := by decide +kernel
theorem dX7_copy_100 : decode cX7_copy 100 = .ok (.iload 4, 2) := by decide +kernel
theorem dX7_copy_102 : decode cX7_copy 102 = .ok (.iload 5, 2) := by decide +kernel
theorem dX7_copy_104 : decode cX7_copy 104 = .ok (.invokevirtual 262, 3) := by decide +kernel
theorem dX7_copy_107 : decode cX7_copy 107 = .ok (.iconst 1, 1) := by decide +kernel
theorem dX7_copy_108 : decode cX7_copy 108 = .ok (.ireturn, 1) := by decide +kernel
theorem dX7_write_0 : decode cX7_write 0 = .ok (.iload_n 1, 1) := by decide +kernel
theorem dX7_write_1 : decode cX7_write 1 = .ok (.iconst 4, 1) := by decide +kernel
theorem dX7_write_2 : decode cX7_write 2 = .ok (.invokestatic 65, 3) := by decide +kernel
theorem dX7_write_5 : decode cX7_write 5 = .ok (.ifCond .eq 6, 3) := by decide +kernel
theorem dX7_write_8 : decode cX7_write 8 = .ok (.bipush (-2), 2) := by decide +kernel
theorem dX7_write_10 : decode cX7_write 10 = .ok (.ireturn, 1) := by decide +kernel
theorem dX7_write_11 : decode cX7_write 11 = .ok (.aload_n 0, 1) := by decide +kernel
theorem dX7_write_12 : decode cX7_write 12 = .ok (.getfield 61, 3) := by decide +kernel
theorem dX7_write_15 : decode cX7_write 15 = .ok (.iload_n 1, 1) := by decide +kernel
theorem dX7_write_16 : decode cX7_write 16 = .ok (.invokevirtual 76, 3) := by decide +kernel
theorem dX7_write_19 : decode cX7_write 19 = .ok (.ifCond .eq 12, 3) := by decide +kernel
theorem dX7_write_22 : decode cX7_write 22 = .ok (.aload_n 0, 1) := by decide +kernel
theorem dX7_write_23 : decode cX7_write 23 = .ok (.getfield 61, 3) := by decide +kernel
theorem dX7_write_26 : decode cX7_write 26 = .ok (.iconst 1, 1) := by decide +kernel
theorem dX7_write_27 : decode cX7_write 27 = .ok (.invokevirtual 80, 3) := by decide +kernel
theorem dX7_write_30 : decode cX7_write 30 = .ok (.ireturn, 1) := by decide +kernel
theorem dX7_write_31 : decode cX7_write 31 = .ok (.aload_n 0, 1) := by decide +kernel
theorem dX7_write_32 : decode cX7_write 32 = .ok (.getfield 61, 3) := by decide +kernel
theorem dX7_write_35 : decode cX7_write 35 = .ok (.iload_n 1, 1) := by decide +kernel
theorem dX7_write_36 : decode cX7_write 36 = .ok (.invokevirtual 252, 3) := by decide +kernel
theorem dX7_write_39 : decode cX7_write 39 = .ok (.bipush 30, 2) := by decide +kernel
theorem dX7_write_41 : decode cX7_write 41 = .ok (.invokestatic 243, 3) := by decide +kernel
theorem dX7_write_44 : decode cX7_write 44 = .ok (.istore_n 2, 1) := by decide +kernel
theorem dX7_write_45 : decode cX7_write 45 = .ok (.iconst 0, 1) := by decide +kernel
theorem dX7_write_46 : decode cX7_write 46 = .ok (.istore_n 3, 1) := by decide +kernel
theorem dX7_write_47 : decode cX7_write 47 = .ok (.iload_n 3, 1) := by decide +kernel
theorem dX7_write_48 : decode cX7_write 48 = .ok (.iload_n 2, 1) := by decide +kernel
theorem dX7_write_49 : decode cX7_write 49 = .ok (.if_icmp .ge 32, 3) := by decide +kernel
theorem dX7_write_52 : decode cX7_write 52 = .ok (.aload_n 0, 1) := by decide +kernel
theorem dX7_write_53 : decode cX7_write 53 = .ok (.getfield 61, 3) := by decide +kernel
theorem dX7_write_56 : decode cX7_write 56 = .ok (.iload_n 1, 1) := by decide +kernel
theorem dX7_write_57 : decode cX7_write 57 = .ok (.iload_n 3, 1) := by decide +kernel
theorem dX7_write_58 : decode cX7_write 58 = .ok (.aload_n 0, 1) := by decide +kernel
theorem dX7_write_59 : decode cX7_write 59 = .ok (.getfield 18, 3) := by decide +kernel
theorem dX7_write_62 : decode cX7_write 62 = .ok (.iload_n 3, 1) := by decide +kernel
theorem dX7_write_63 : decode cX7_write 63 = .ok (.iconst 5, 1) := by decide +kernel
theorem dX7_write_64 : decode cX7_write 64 = .ok (.idiv, 1) := by decide +kernel
theorem dX7_write_65 : decode cX7_write 65 = .ok (.aaload, 1) := by decide +kernel
theorem dX7_write_66 : decode cX7_write 66 = .ok (.iload_n 3, 1) := by decide +kernel
theorem dX7_write_67 : decode cX7_write 67 = .ok (.iconst 5, 1) := by decide +kernel
theorem dX7_write_68 : decode cX7_write 68 = .ok (.irem, 1) := by decide +kernel
theorem dX7_write_69 : decode cX7_write 69 = .ok (.invokevirtual 113, 3) := by decide +kernel
theorem dX7_write_72 : decode cX7_write 72 = .ok (.invokevirtual 258, 3) := by decide +kernel
theorem dX7_write_75 : decode cX7_write 75 = .ok (.iinc 3 1, 3) := by decide +kernel
theorem dX7_write_78 : decode cX7_write 78 = .ok (.goto (-31), 3) := by decide +kernel
theorem dX7_write_81 : decode cX7_write 81 = .ok (.iload_n 2, 1) := by decide +kernel
theorem dX7_write_82 : decode cX7_write 82 = .ok (.ireturn, 1) := by decide +kernel
theorem dX7_count_0 : decode cX7_count 0 = .ok (.iload_n 1, 1) := by decide +kernel
theorem dX7_count_1 : decode cX7_count 1 = .ok (.tableswitch 125 0 8 #[51, 59, 59, 70, 78, 78, 101, 109, 117], 51) := by decide +kernel
theorem dX7_count_52 : decode cX7_count 52 = .ok (.aload_n 0, 1) := by decide +kernel
theorem dX7_count_53 : decode cX7_count 53 = .ok (.getfield 33, 3) := by decide +kernel
theorem dX7_count_56 : decode cX7_count 56 = .ok (.invokevirtual 126, 3) := by decide +kernel
theorem dX7_count_59 : decode cX7_count 59 = .ok (.ireturn, 1) := by decide +kernel
theorem dX7_count_60 : decode cX7_count 60 = .ok (.aload_n 0, 1) := by decide +kernel
theorem dX7_count_61 : decode cX7_count 61 = .ok (.getfield 33, 3) := by decide +kernel
theorem dX7_count_64 : decode cX7_count 64 = .ok (.iload_n 1, 1) := by decide +kernel
theorem dX7_count_65 : decode cX7_count 65 = .ok (.iconst 1, 1) := by decide +kernel
theorem dX7_count_66 : decode cX7_count 66 = .ok (.isub, 1) := by decide +kernel
theorem dX7_count_67 : decode cX7_count 67 = .ok (.invokevirtual 146, 3) := by decide +kernel
theorem dX7_count_70 : decode cX7_count 70 = .ok (.ireturn, 1) := by decide +kernel
theorem dX7_count_71 : decode cX7_count 71 = .ok (.aload_n 0, 1) := by decide +kernel
theorem dX7_count_72 : decode cX7_count 72 = .ok (.getfield 40, 3) := by decide +kernel
theorem dX7_count_75 : decode cX7_count 75 = .ok (.invokevirtual 197, 3) := by decide +kernel
theorem dX7_count_78 : decode cX7_count 78 = .ok (.ireturn, 1) := by decide +kernel
theorem dX7_count_79 : decode cX7_count 79 = .ok (.aload_n 0, 1) := by decide +kernel
theorem dX7_count_80 : decode cX7_count 80 = .ok (.getfield 47, 3) := by decide +kernel
theorem dX7_count_83 : decode cX7_count 83 = .ok (.aload_n 0, 1) := by decide +kernel
theorem dX7_count_84 : decode cX7_count 84 = .ok (.getfield 33, 3) := by decide +kernel
theorem dX7_count_87 : decode cX7_count 87 = .ok (.iload_n 1, 1) := by decide +kernel
theorem dX7_count_88 : decode cX7_count 88 = .ok (.iconst 4, 1) := by decide +kernel
theorem dX7_count_89 : decode cX7_count 89 = .ok (.isub, 1) := by decide +kernel
theorem dX7_count_90 : decode cX7_count 90 = .ok (.invokevirtual 181, 3) := by decide +kernel
theorem dX7_count_93 : decode cX7_count 93 = .ok (.ifCond .eq 7, 3) := by decide +kernel
theorem dX7_count_96 : decode cX7_count 96 = .ok (.iconst 1, 1) := by decide +kernel
theorem dX7_count_97 : decode cX7_count 97 = .ok (.goto 4, 3) := by decide +kernel
theorem dX7_count_100 : decode cX7_count 100 = .ok (.iconst 0, 1) := by decide +kernel
theorem dX7_count_101 : decode cX7_count 101 = .ok (.ireturn, 1) := by decide +kernel
theorem dX7_count_102 : decode cX7_count 102 = .ok (.aload_n 0, 1) := by decide +kernel
theorem dX7_count_103 : decode cX7_count 103 = .ok (.getfield 33, 3) := by decide +kernel
theorem dX7_count_106 : decode cX7_count 106 = .ok (.invokevirtual 172, 3) := by decide +kernel
theorem dX7_count_109 : decode cX7_count 109 = .ok (.ireturn, 1) := by decide +kernel
theorem dX7_count_110 : decode cX7_count 110 = .ok (.aload_n 0, 1) := by decide +kernel
theorem dX7_count_111 : decode cX7_count 111 = .ok (.getfield 33, 3) := by decide +kernel
theorem dX7_count_114 : decode cX7_count 114 = .ok (.invokevirtual 165, 3) := by decide +kernel
theorem dX7_count_117 : decode cX7_count 117 = .ok (.ireturn, 1) := by decide +kernel
theorem dX7_count_118 : decode cX7_count 118 = .ok (.aload_n 0, 1) := by decide +kernel
theorem dX7_count_119 : decode cX7_count 119 = .ok (.getfield 61, 3) := by decide +kernel
theorem dX7_count_122 : decode cX7_count 122 = .ok (.invokevirtual 266, 3) := by decide +kernel
theorem dX7_count_125 : decode cX7_count 125 = .ok (.ireturn, 1) := by decide +kernel
theorem dX7_count_126 : decode cX7_count 126 = .ok (.bipush (-2), 2) := by decide +kernel
theorem dX7_count_128 : decode cX7_count 128 = .ok (.ireturn, 1) := by decide +kernel
theorem dX7_digest_0 : decode cX7_digest 0 = .ok (.ldc2_w 269, 3) := by decide +kernel
theorem dX7_digest_3 : decode cX7_digest 3 = .ok (.lstore_n 1, 1) := by decide +kernel
theorem dX7_digest_4 : decode cX7_digest 4 = .ok (.iconst 0, 1) := by decide +kernel
theorem dX7_digest_5 : decode cX7_digest 5 = .ok (.istore_n 3, 1) := by decide +kernel
theorem dX7_digest_6 : decode cX7_digest 6 = .ok (.iload_n 3, 1) := by decide +kernel
theorem dX7_digest_7 : decode cX7_digest 7 = .ok (.bipush 8, 2) := by decide +kernel
theorem dX7_digest_9 : decode cX7_digest 9 = .ok (.if_icmp .ge 22, 3) := by decide +kernel
theorem dX7_digest_12 : decode cX7_digest 12 = .ok (.ldc2_w 271, 3) := by decide +kernel
theorem dX7_digest_15 : decode cX7_digest 15 = .ok (.lload_n 1, 1) := by decide +kernel
theorem dX7_digest_16 : decode cX7_digest 16 = .ok (.lmul, 1) := by decide +kernel
theorem dX7_digest_17 : decode cX7_digest 17 = .ok (.aload_n 0, 1) := by decide +kernel
theorem dX7_digest_18 : decode cX7_digest 18 = .ok (.iload_n 3, 1) := by decide +kernel
theorem dX7_digest_19 : decode cX7_digest 19 = .ok (.invokevirtual 273, 3) := by decide +kernel
theorem dX7_digest_22 : decode cX7_digest 22 = .ok (.i2l, 1) := by decide +kernel
theorem dX7_digest_23 : decode cX7_digest 23 = .ok (.ladd, 1) := by decide +kernel
theorem dX7_digest_24 : decode cX7_digest 24 = .ok (.lstore_n 1, 1) := by decide +kernel
theorem dX7_digest_25 : decode cX7_digest 25 = .ok (.iinc 3 1, 3) := by decide +kernel
theorem dX7_digest_28 : decode cX7_digest 28 = .ok (.goto (-22), 3) := by decide +kernel
theorem dX7_digest_31 : decode cX7_digest 31 = .ok (.iconst 0, 1) := by decide +kernel
theorem dX7_digest_32 : decode cX7_digest 32 = .ok (.istore_n 3, 1) := by decide +kernel
theorem dX7_digest_33 : decode cX7_digest 33 = .ok (.iload_n 3, 1) := by decide +kernel
theorem dX7_digest_34 : decode cX7_digest 34 = .ok (.bipush 6, 2) := by decide +kernel
theorem dX7_digest_36 : decode cX7_digest 36 = .ok (.if_icmp .ge 20, 3) := by decide +kernel
theorem dX7_digest_39 : decode cX7_digest 39 = .ok (.lload_n 1, 1) := by decide +kernel
theorem dX7_digest_40 : decode cX7_digest 40 = .ok (.aload_n 0, 1) := by decide +kernel
theorem dX7_digest_41 : decode cX7_digest 41 = .ok (.getfield 18, 3) := by decide +kernel
theorem dX7_digest_44 : decode cX7_digest 44 = .ok (.iload_n 3, 1) := by decide +kernel
theorem dX7_digest_45 : decode cX7_digest 45 = .ok (.aaload, 1) := by decide +kernel
theorem dX7_digest_46 : decode cX7_digest 46 = .ok (.invokestatic 276, 3) := by decide +kernel
theorem dX7_digest_49 : decode cX7_digest 49 = .ok (.lstore_n 1, 1) := by decide +kernel
theorem dX7_digest_50 : decode cX7_digest 50 = .ok (.iinc 3 1, 3) := by decide +kernel
theorem dX7_digest_53 : decode cX7_digest 53 = .ok (.goto (-20), 3) := by decide +kernel
theorem dX7_digest_56 : decode cX7_digest 56 = .ok (.iconst 0, 1) := by decide +kernel
theorem dX7_digest_57 : decode cX7_digest 57 = .ok (.istore_n 3, 1) := by decide +kernel
theorem dX7_digest_58 : decode cX7_digest 58 = .ok (.iload_n 3, 1) := by decide +kernel
theorem dX7_digest_59 : decode cX7_digest 59 = .ok (.iconst 2, 1) := by decide +kernel
theorem dX7_digest_60 : decode cX7_digest 60 = .ok (.if_icmp .ge 16, 3) := by decide +kernel
theorem dX7_digest_63 : decode cX7_digest 63 = .ok (.aload_n 0, 1) := by decide +kernel
theorem dX7_digest_64 : decode cX7_digest 64 = .ok (.lload_n 1, 1) := by decide +kernel
theorem dX7_digest_65 : decode cX7_digest 65 = .ok (.iload_n 3, 1) := by decide +kernel
theorem dX7_digest_66 : decode cX7_digest 66 = .ok (.invokevirtual 280, 3) := by decide +kernel
theorem dX7_digest_69 : decode cX7_digest 69 = .ok (.lstore_n 1, 1) := by decide +kernel
theorem dX7_digest_70 : decode cX7_digest 70 = .ok (.iinc 3 1, 3) := by decide +kernel
theorem dX7_digest_73 : decode cX7_digest 73 = .ok (.goto (-15), 3) := by decide +kernel
theorem dX7_digest_76 : decode cX7_digest 76 = .ok (.iconst 0, 1) := by decide +kernel
theorem dX7_digest_77 : decode cX7_digest 77 = .ok (.istore_n 3, 1) := by decide +kernel
theorem dX7_digest_78 : decode cX7_digest 78 = .ok (.iload_n 3, 1) := by decide +kernel
theorem dX7_digest_79 : decode cX7_digest 79 = .ok (.iconst 3, 1) := by decide +kernel
theorem dX7_digest_80 : decode cX7_digest 80 = .ok (.if_icmp .ge 55, 3) := by decide +kernel
theorem dX7_digest_83 : decode cX7_digest 83 = .ok (.iconst 0, 1) := by decide +kernel
theorem dX7_digest_84 : decode cX7_digest 84 = .ok (.istore 4, 2) := by decide +kernel
theorem dX7_digest_86 : decode cX7_digest 86 = .ok (.iload 4, 2) := by decide +kernel
theorem dX7_digest_88 : decode cX7_digest 88 = .ok (.iconst 2, 1) := by decide +kernel
theorem dX7_digest_89 : decode cX7_digest 89 = .ok (.if_icmp .ge 40, 3) := by decide +kernel
theorem dX7_digest_92 : decode cX7_digest 92 = .ok (.iconst 0, 1) := by decide +kernel
theorem dX7_digest_93 : decode cX7_digest 93 = .ok (.istore 5, 2) := by decide +kernel
theorem dX7_digest_95 : decode cX7_digest 95 = .ok (.iload 5, 2) := by decide +kernel
theorem dX7_digest_97 : decode cX7_digest 97 = .ok (.iconst 5, 1) := by decide +kernel
theorem dX7_digest_98 : decode cX7_digest 98 = .ok (.if_icmp .ge 25, 3) := by decide +kernel
theorem dX7_digest_101 : decode cX7_digest 101 = .ok (.ldc2_w 271, 3) := by decide +kernel
theorem dX7_digest_104 : decode cX7_digest 104 = .ok (.lload_n 1, 1) := by decide +kernel
theorem dX7_digest_105 : decode cX7_digest 105 = .ok (.lmul, 1) := by decide +kernel
theorem dX7_digest_106 : decode cX7_digest 106 = .ok (.aload_n 0, 1) := by decide +kernel
theorem dX7_digest_107 : decode cX7_digest 107 = .ok (.iload_n 3, 1) := by decide +kernel
theorem dX7_digest_108 : decode cX7_digest 108 = .ok (.iload 4, 2) := by decide +kernel
theorem dX7_digest_110 : decode cX7_digest 110 = .ok (.iload 5, 2) := by decide +kernel
theorem dX7_digest_112 : decode cX7_digest 112 = .ok (.invokevirtual 284, 3) := by decide +kernel
theorem dX7_digest_115 : decode cX7_digest 115 = .ok (.ladd, 1) := by decide +kernel
theorem dX7_digest_116 : decode cX7_digest 116 = .ok (.lstore_n 1, 1) := by decide +kernel
theorem dX7_digest_117 : decode cX7_digest 117 = .ok (.iinc 5 1, 3) := by decide +kernel
theorem dX7_digest_120 : decode cX7_digest 120 = .ok (.goto (-25), 3) := by decide +kernel
theorem dX7_digest_123 : decode cX7_digest 123 = .ok (.iinc 4 1, 3) := by decide +kernel
theorem dX7_digest_126 : decode cX7_digest 126 = .ok (.goto (-40), 3) := by decide +kernel
theorem dX7_digest_129 : decode cX7_digest 129 = .ok (.iinc 3 1, 3) := by decide +kernel
theorem dX7_digest_132 : decode cX7_digest 132 = .ok (.goto (-54), 3) := by decide +kernel
theorem dX7_digest_135 : decode cX7_digest 135 = .ok (.lload_n 1, 1) := by decide +kernel
theorem dX7_digest_136 : decode cX7_digest 136 = .ok (.lreturn, 1) := by decide +kernel
theorem dX7_mixPlane_0 : decode cX7_mixPlane 0 = .ok (.aload_n 0, 1) := by decide +kernel
theorem dX7_mixPlane_1 : decode cX7_mixPlane 1 = .ok (.iload_n 3, 1) := by decide +kernel
theorem dX7_mixPlane_2 : decode cX7_mixPlane 2 = .ok (.invokevirtual 178, 3) := by decide +kernel
theorem dX7_mixPlane_5 : decode cX7_mixPlane 5 = .ok (.lload_n 1, 1) := by decide +kernel
theorem dX7_mixPlane_6 : decode cX7_mixPlane 6 = .ok (.aload_n 0, 1) := by decide +kernel
theorem dX7_mixPlane_7 : decode cX7_mixPlane 7 = .ok (.getfield 23, 3) := by decide +kernel
theorem dX7_mixPlane_10 : decode cX7_mixPlane 10 = .ok (.invokestatic 276, 3) := by decide +kernel
theorem dX7_mixPlane_13 : decode cX7_mixPlane 13 = .ok (.aload_n 0, 1) := by decide +kernel
theorem dX7_mixPlane_14 : decode cX7_mixPlane 14 = .ok (.getfield 27, 3) := by decide +kernel
theorem dX7_mixPlane_17 : decode cX7_mixPlane 17 = .ok (.invokestatic 276, 3) := by decide +kernel
theorem dX7_mixPlane_20 : decode cX7_mixPlane 20 = .ok (.lstore 4, 2) := by decide +kernel
theorem dX7_mixPlane_22 : decode cX7_mixPlane 22 = .ok (.iconst 0, 1) := by decide +kernel
theorem dX7_mixPlane_23 : decode cX7_mixPlane 23 = .ok (.istore 6, 2) := by decide +kernel
theorem dX7_mixPlane_25 : decode cX7_mixPlane 25 = .ok (.iload 6, 2) := by decide +kernel
theorem dX7_mixPlane_27 : decode cX7_mixPlane 27 = .ok (.bipush 12, 2) := by decide +kernel
theorem dX7_mixPlane_29 : decode cX7_mixPlane 29 = .ok (.if_icmp .ge 64, 3) := by decide +kernel
theorem dX7_mixPlane_32 : decode cX7_mixPlane 32 = .ok (.ldc2_w 271, 3) := by decide +kernel
theorem dX7_mixPlane_35 : decode cX7_mixPlane 35 = .ok (.lload 4, 2) := by decide +kernel
theorem dX7_mixPlane_37 : decode cX7_mixPlane 37 = .ok (.lmul, 1) := by decide +kernel
theorem dX7_mixPlane_38 : decode cX7_mixPlane 38 = .ok (.aload_n 0, 1) := by decide +kernel
theorem dX7_mixPlane_39 : decode cX7_mixPlane 39 = .ok (.iload_n 3, 1) := by decide +kernel
theorem dX7_mixPlane_40 : decode cX7_mixPlane 40 = .ok (.iload 6, 2) := by decide +kernel
theorem dX7_mixPlane_42 : decode cX7_mixPlane 42 = .ok (.invokevirtual 288, 3) := by decide +kernel
theorem dX7_mixPlane_45 : decode cX7_mixPlane 45 = .ok (.i2l, 1) := by decide +kernel
theorem dX7_mixPlane_46 : decode cX7_mixPlane 46 = .ok (.ladd, 1) := by decide +kernel
theorem dX7_mixPlane_47 : decode cX7_mixPlane 47 = .ok (.lstore 4, 2) := by decide +kernel
theorem dX7_mixPlane_49 : decode cX7_mixPlane 49 = .ok (.ldc2_w 271, 3) := by decide +kernel
theorem dX7_mixPlane_52 : decode cX7_mixPlane 52 = .ok (.lload 4, 2) := by decide +kernel
theorem dX7_mixPlane_54 : decode cX7_mixPlane 54 = .ok (.lmul, 1) := by decide +kernel
theorem dX7_mixPlane_55 : decode cX7_mixPlane 55 = .ok (.aload_n 0, 1) := by decide +kernel
theorem dX7_mixPlane_56 : decode cX7_mixPlane 56 = .ok (.iload_n 3, 1) := by decide +kernel
theorem dX7_mixPlane_57 : decode cX7_mixPlane 57 = .ok (.iload 6, 2) := by decide +kernel
theorem dX7_mixPlane_59 : decode cX7_mixPlane 59 = .ok (.iconst 5, 1) := by decide +kernel
theorem dX7_mixPlane_60 : decode cX7_mixPlane 60 = .ok (.iconst 0, 1) := by decide +kernel
theorem dX7_mixPlane_61 : decode cX7_mixPlane 61 = .ok (.invokevirtual 291, 3) := by decide +kernel
theorem dX7_mixPlane_64 : decode cX7_mixPlane 64 = .ok (.i2l, 1) := by decide +kernel
theorem dX7_mixPlane_65 : decode cX7_mixPlane 65 = .ok (.ladd, 1) := by decide +kernel
theorem dX7_mixPlane_66 : decode cX7_mixPlane 66 = .ok (.lstore 4, 2) := by decide +kernel
theorem dX7_mixPlane_68 : decode cX7_mixPlane 68 = .ok (.ldc2_w 271, 3) := by decide +kernel
theorem dX7_mixPlane_71 : decode cX7_mixPlane 71 = .ok (.lload 4, 2) := by decide +kernel
theorem dX7_mixPlane_73 : decode cX7_mixPlane 73 = .ok (.lmul, 1) := by decide +kernel
theorem dX7_mixPlane_74 : decode cX7_mixPlane 74 = .ok (.aload_n 0, 1) := by decide +kernel
theorem dX7_mixPlane_75 : decode cX7_mixPlane 75 = .ok (.iload_n 3, 1) := by decide +kernel
theorem dX7_mixPlane_76 : decode cX7_mixPlane 76 = .ok (.iload 6, 2) := by decide +kernel
theorem dX7_mixPlane_78 : decode cX7_mixPlane 78 = .ok (.iconst 5, 1) := by decide +kernel
theorem dX7_mixPlane_79 : decode cX7_mixPlane 79 = .ok (.iconst 4, 1) := by decide +kernel
theorem dX7_mixPlane_80 : decode cX7_mixPlane 80 = .ok (.invokevirtual 291, 3) := by decide +kernel
theorem dX7_mixPlane_83 : decode cX7_mixPlane 83 = .ok (.i2l, 1) := by decide +kernel
theorem dX7_mixPlane_84 : decode cX7_mixPlane 84 = .ok (.ladd, 1) := by decide +kernel
theorem dX7_mixPlane_85 : decode cX7_mixPlane 85 = .ok (.lstore 4, 2) := by decide +kernel
theorem dX7_mixPlane_87 : decode cX7_mixPlane 87 = .ok (.iinc 6 1, 3) := by decide +kernel
theorem dX7_mixPlane_90 : decode cX7_mixPlane 90 = .ok (.goto (-65), 3) := by decide +kernel
theorem dX7_mixPlane_93 : decode cX7_mixPlane 93 = .ok (.aload_n 0, 1) := by decide +kernel
theorem dX7_mixPlane_94 : decode cX7_mixPlane 94 = .ok (.getfield 47, 3) := by decide +kernel
theorem dX7_mixPlane_97 : decode cX7_mixPlane 97 = .ok (.aload_n 0, 1) := by decide +kernel
theorem dX7_mixPlane_98 : decode cX7_mixPlane 98 = .ok (.getfield 33, 3) := by decide +kernel
theorem dX7_mixPlane_101 : decode cX7_mixPlane 101 = .ok (.iload_n 3, 1) := by decide +kernel
theorem dX7_mixPlane_102 : decode cX7_mixPlane 102 = .ok (.iconst 2, 1) := by decide +kernel
theorem dX7_mixPlane_103 : decode cX7_mixPlane 103 = .ok (.invokevirtual 219, 3) := by decide +kernel
theorem dX7_mixPlane_106 : decode cX7_mixPlane 106 = .ok (.iconst 0, 1) := by decide +kernel
theorem dX7_mixPlane_107 : decode cX7_mixPlane 107 = .ok (.istore 6, 2) := by decide +kernel
theorem dX7_mixPlane_109 : decode cX7_mixPlane 109 = .ok (.iload 6, 2) := by decide +kernel
theorem dX7_mixPlane_111 : decode cX7_mixPlane 111 = .ok (.iconst 3, 1) := by decide +kernel
theorem dX7_mixPlane_112 : decode cX7_mixPlane 112 = .ok (.if_icmp .ge 28, 3) := by decide +kernel
theorem dX7_mixPlane_115 : decode cX7_mixPlane 115 = .ok (.ldc2_w 271, 3) := by decide +kernel
theorem dX7_mixPlane_118 : decode cX7_mixPlane 118 = .ok (.lload 4, 2) := by decide +kernel
theorem dX7_mixPlane_120 : decode cX7_mixPlane 120 = .ok (.lmul, 1) := by decide +kernel
theorem dX7_mixPlane_121 : decode cX7_mixPlane 121 = .ok (.aload_n 0, 1) := by decide +kernel
theorem dX7_mixPlane_122 : decode cX7_mixPlane 122 = .ok (.getfield 47, 3) := by decide +kernel
theorem dX7_mixPlane_125 : decode cX7_mixPlane 125 = .ok (.iload 6, 2) := by decide +kernel
theorem dX7_mixPlane_127 : decode cX7_mixPlane 127 = .ok (.invokevirtual 223, 3) := by decide +kernel
theorem dX7_mixPlane_130 : decode cX7_mixPlane 130 = .ok (.i2l, 1) := by decide +kernel
theorem dX7_mixPlane_131 : decode cX7_mixPlane 131 = .ok (.ladd, 1) := by decide +kernel
theorem dX7_mixPlane_132 : decode cX7_mixPlane 132 = .ok (.lstore 4, 2) := by decide +kernel
theorem dX7_mixPlane_134 : decode cX7_mixPlane 134 = .ok (.iinc 6 1, 3) := by decide +kernel
theorem dX7_mixPlane_137 : decode cX7_mixPlane 137 = .ok (.goto (-28), 3) := by decide +kernel
theorem dX7_mixPlane_140 : decode cX7_mixPlane 140 = .ok (.lload 4, 2) := by decide +kernel
theorem dX7_mixPlane_142 : decode cX7_mixPlane 142 = .ok (.lreturn, 1) := by decide +kernel
theorem dX7_mixNum_0 : decode cX7_mixNum 0 = .ok (.lload_n 0, 1) := by decide +kernel
theorem dX7_mixNum_1 : decode cX7_mixNum 1 = .ok (.lstore_n 3, 1) := by decide +kernel
theorem dX7_mixNum_2 : decode cX7_mixNum 2 = .ok (.iconst 0, 1) := by decide +kernel
theorem dX7_mixNum_3 : decode cX7_mixNum 3 = .ok (.istore 5, 2) := by decide +kernel
theorem dX7_mixNum_5 : decode cX7_mixNum 5 = .ok (.iload 5, 2) := by decide +kernel
theorem dX7_mixNum_7 : decode cX7_mixNum 7 = .ok (.iconst 5, 1) := by decide +kernel
theorem dX7_mixNum_8 : decode cX7_mixNum 8 = .ok (.if_icmp .ge 22, 3) := by decide +kernel
theorem dX7_mixNum_11 : decode cX7_mixNum 11 = .ok (.ldc2_w 271, 3) := by decide +kernel
theorem dX7_mixNum_14 : decode cX7_mixNum 14 = .ok (.lload_n 3, 1) := by decide +kernel
theorem dX7_mixNum_15 : decode cX7_mixNum 15 = .ok (.lmul, 1) := by decide +kernel
theorem dX7_mixNum_16 : decode cX7_mixNum 16 = .ok (.aload_n 2, 1) := by decide +kernel
theorem dX7_mixNum_17 : decode cX7_mixNum 17 = .ok (.iload 5, 2) := by decide +kernel
theorem dX7_mixNum_19 : decode cX7_mixNum 19 = .ok (.invokevirtual 113, 3) := by decide +kernel
theorem dX7_mixNum_22 : decode cX7_mixNum 22 = .ok (.ladd, 1) := by decide +kernel
theorem dX7_mixNum_23 : decode cX7_mixNum 23 = .ok (.lstore_n 3, 1) := by decide +kernel
theorem dX7_mixNum_24 : decode cX7_mixNum 24 = .ok (.iinc 5 1, 3) := by decide +kernel
theorem dX7_mixNum_27 : decode cX7_mixNum 27 = .ok (.goto (-22), 3) := by decide +kernel
theorem dX7_mixNum_30 : decode cX7_mixNum 30 = .ok (.lload_n 3, 1) := by decide +kernel
theorem dX7_mixNum_31 : decode cX7_mixNum 31 = .ok (.lreturn, 1) := by decide +kernel
theorem dX7_takePull_0 : decode cX7_takePull 0 = .ok (.aload_n 0, 1) := by decide +kernel
theorem dX7_takePull_1 : decode cX7_takePull 1 = .ok (.getfield 33, 3) := by decide +kernel
theorem dX7_takePull_4 : decode cX7_takePull 4 = .ok (.iload_n 1, 1) := by decide +kernel
theorem dX7_takePull_5 : decode cX7_takePull 5 = .ok (.aload_n 0, 1) := by decide +kernel
theorem dX7_takePull_6 : decode cX7_takePull 6 = .ok (.getfield 23, 3) := by decide +kernel
theorem dX7_takePull_9 : decode cX7_takePull 9 = .ok (.invokevirtual 295, 3) := by decide +kernel
theorem dX7_takePull_12 : decode cX7_takePull 12 = .ok (.aload_n 0, 1) := by decide +kernel
theorem dX7_takePull_13 : decode cX7_takePull 13 = .ok (.getfield 23, 3) := by decide +kernel
theorem dX7_takePull_16 : decode cX7_takePull 16 = .ok (.invokevirtual 73, 3) := by decide +kernel
theorem dX7_takePull_19 : decode cX7_takePull 19 = .ok (.aload_n 0, 1) := by decide +kernel
theorem dX7_takePull_20 : decode cX7_takePull 20 = .ok (.getfield 27, 3) := by decide +kernel
theorem dX7_takePull_23 : decode cX7_takePull 23 = .ok (.aload_n 0, 1) := by decide +kernel
theorem dX7_takePull_24 : decode cX7_takePull 24 = .ok (.getfield 23, 3) := by decide +kernel
theorem dX7_takePull_27 : decode cX7_takePull 27 = .ok (.invokevirtual 211, 3) := by decide +kernel
theorem dX7_takePull_30 : decode cX7_takePull 30 = .ok (.aload_n 0, 1) := by decide +kernel
theorem dX7_takePull_31 : decode cX7_takePull 31 = .ok (.getfield 27, 3) := by decide +kernel
theorem dX7_takePull_34 : decode cX7_takePull 34 = .ok (.invokevirtual 299, 3) := by decide +kernel
theorem dX7_takePull_37 : decode cX7_takePull 37 = .ok (.aload_n 0, 1) := by decide +kernel
theorem dX7_takePull_38 : decode cX7_takePull 38 = .ok (.getfield 10, 3) := by decide +kernel
theorem dX7_takePull_41 : decode cX7_takePull 41 = .ok (.aload_n 0, 1) := by decide +kernel
theorem dX7_takePull_42 : decode cX7_takePull 42 = .ok (.getfield 23, 3) := by decide +kernel
theorem dX7_takePull_45 : decode cX7_takePull 45 = .ok (.aload_n 0, 1) := by decide +kernel
theorem dX7_takePull_46 : decode cX7_takePull 46 = .ok (.getfield 27, 3) := by decide +kernel
theorem dX7_takePull_49 : decode cX7_takePull 49 = .ok (.aload_n 0, 1) := by decide +kernel
theorem dX7_takePull_50 : decode cX7_takePull 50 = .ok (.getfield 27, 3) := by decide +kernel
theorem dX7_takePull_53 : decode cX7_takePull 53 = .ok (.invokevirtual 103, 3) := by decide +kernel
theorem dX7_takePull_56 : decode cX7_takePull 56 = .ok (.pop, 1) := by decide +kernel
theorem dX7_takePull_57 : decode cX7_takePull 57 = .ok (.return_, 1) := by decide +kernel
theorem dX7_makeHole_0 : decode cX7_makeHole 0 = .ok (.aload_n 0, 1) := by decide +kernel
theorem dX7_makeHole_1 : decode cX7_makeHole 1 = .ok (.getfield 33, 3) := by decide +kernel
theorem dX7_makeHole_4 : decode cX7_makeHole 4 = .ok (.iload_n 1, 1) := by decide +kernel
theorem dX7_makeHole_5 : decode cX7_makeHole 5 = .ok (.iload_n 2, 1) := by decide +kernel
theorem dX7_makeHole_6 : decode cX7_makeHole 6 = .ok (.iload_n 3, 1) := by decide +kernel
theorem dX7_makeHole_7 : decode cX7_makeHole 7 = .ok (.invokevirtual 302, 3) := by decide +kernel
theorem dX7_makeHole_10 : decode cX7_makeHole 10 = .ok (.aload_n 0, 1) := by decide +kernel
theorem dX7_makeHole_11 : decode cX7_makeHole 11 = .ok (.getfield 40, 3) := by decide +kernel
theorem dX7_makeHole_14 : decode cX7_makeHole 14 = .ok (.invokevirtual 134, 3) := by decide +kernel
theorem dX7_makeHole_17 : decode cX7_makeHole 17 = .ok (.return_, 1) := by decide +kernel
theorem dX7_isOutside_0 : decode cX7_isOutside 0 = .ok (.iload_n 0, 1) := by decide +kernel
theorem dX7_isOutside_1 : decode cX7_isOutside 1 = .ok (.ifCond .lt 8, 3) := by decide +kernel
theorem dX7_isOutside_4 : decode cX7_isOutside 4 = .ok (.iload_n 0, 1) := by decide +kernel
theorem dX7_isOutside_5 : decode cX7_isOutside 5 = .ok (.iload_n 1, 1) := by decide +kernel
theorem dX7_isOutside_6 : decode cX7_isOutside 6 = .ok (.if_icmp .lt 7, 3) := by decide +kernel
theorem dX7_isOutside_9 : decode cX7_isOutside 9 = .ok (.iconst 1, 1) := by decide +kernel
theorem dX7_isOutside_10 : decode cX7_isOutside 10 = .ok (.goto 4, 3) := by decide +kernel
theorem dX7_isOutside_13 : decode cX7_isOutside 13 = .ok (.iconst 0, 1) := by decide +kernel
theorem dX7_isOutside_14 : decode cX7_isOutside 14 = .ok (.ireturn, 1) := by decide +kernel
theorem dX7_isNoMoment_0 : decode cX7_isNoMoment 0 = .ok (.iload_n 0, 1) := by decide +kernel
theorem dX7_isNoMoment_1 : decode cX7_isNoMoment 1 = .ok (.iconst 1, 1) := by decide +kernel
theorem dX7_isNoMoment_2 : decode cX7_isNoMoment 2 = .ok (.if_icmp .lt 9, 3) := by decide +kernel
theorem dX7_isNoMoment_5 : decode cX7_isNoMoment 5 = .ok (.iload_n 0, 1) := by decide +kernel
theorem dX7_isNoMoment_6 : decode cX7_isNoMoment 6 = .ok (.bipush 99, 2) := by decide +kernel
theorem dX7_isNoMoment_8 : decode cX7_isNoMoment 8 = .ok (.if_icmp .le 7, 3) := by decide +kernel
theorem dX7_isNoMoment_11 : decode cX7_isNoMoment 11 = .ok (.iconst 1, 1) := by decide +kernel
theorem dX7_isNoMoment_12 : decode cX7_isNoMoment 12 = .ok (.goto 4, 3) := by decide +kernel
theorem dX7_isNoMoment_15 : decode cX7_isNoMoment 15 = .ok (.iconst 0, 1) := by decide +kernel
theorem dX7_isNoMoment_16 : decode cX7_isNoMoment 16 = .ok (.ireturn, 1) := by decide +kernel
theorem dX7_asLong_0 : decode cX7_asLong 0 = .ok (.ldc2_w 305, 3) := by decide +kernel
theorem dX7_asLong_3 : decode cX7_asLong 3 = .ok (.iload_n 0, 1) := by decide +kernel
theorem dX7_asLong_4 : decode cX7_asLong 4 = .ok (.i2l, 1) := by decide +kernel
theorem dX7_asLong_5 : decode cX7_asLong 5 = .ok (.lsub, 1) := by decide +kernel
theorem dX7_asLong_6 : decode cX7_asLong 6 = .ok (.lreturn, 1) := by decide +kernel
