theorem d_C_sheet_1 : decode u_C_sheet.2.1 1 = .ok (.invokestatic 91, 3) := by decide +kernel
theorem d_C_sheet_4 : decode u_C_sheet.2.1 4 = .ok (.ifCond .eq 16, 3) := by decide +kernel
theorem d_C_sheet_7 : decode u_C_sheet.2.1 7 = .ok (.iload_n 2, 1) := by decide +kernel
theorem d_C_sheet_8 : decode u_C_sheet.2.1 8 = .ok (.invokestatic 288, 3) := by decide +kernel
theorem d_C_sheet_11 : decode u_C_sheet.2.1 11 = .ok (.ifCond .eq 9, 3) := by decide +kernel
theorem d_C_sheet_14 : decode u_C_sheet.2.1 14 = .ok (.iload_n 3, 1) := by decide +kernel
theorem d_C_sheet_15 : decode u_C_sheet.2.1 15 = .ok (.bipush 60, 2) := by decide +kernel
theorem d_C_sheet_17 : decode u_C_sheet.2.1 17 = .ok (.if_icmp .le 6, 3) := by decide +kernel
theorem d_C_sheet_20 : decode u_C_sheet.2.1 20 = .ok (.bipush (-2), 2) := by decide +kernel
theorem d_C_sheet_22 : decode u_C_sheet.2.1 22 = .ok (.ireturn, 1) := by decide +kernel
theorem d_C_sheet_23 : decode u_C_sheet.2.1 23 = .ok (.iload_n 3, 1) := by decide +kernel
theorem d_C_sheet_24 : decode u_C_sheet.2.1 24 = .ok (.ifCond .ge 9, 3) := by decide +kernel
theorem d_C_sheet_27 : decode u_C_sheet.2.1 27 = .ok (.aload_n 0, 1) := by decide +kernel
theorem d_C_sheet_28 : decode u_C_sheet.2.1 28 = .ok (.iconst 5, 1) := by decide +kernel
theorem d_C_sheet_29 : decode u_C_sheet.2.1 29 = .ok (.invokevirtual 98, 3) := by decide +kernel
theorem d_C_sheet_32 : decode u_C_sheet.2.1 32 = .ok (.ireturn, 1) := by decide +kernel
theorem d_C_sheet_33 : decode u_C_sheet.2.1 33 = .ok (.aload_n 0, 1) := by decide +kernel
theorem d_C_sheet_34 : decode u_C_sheet.2.1 34 = .ok (.getfield 35, 3) := by decide +kernel
theorem d_C_sheet_37 : decode u_C_sheet.2.1 37 = .ok (.iload_n 1, 1) := by decide +kernel
theorem d_C_sheet_38 : decode u_C_sheet.2.1 38 = .ok (.aaload, 1) := by decide +kernel
theorem d_C_sheet_39 : decode u_C_sheet.2.1 39 = .ok (.iload_n 2, 1) := by decide +kernel
theorem d_C_sheet_40 : decode u_C_sheet.2.1 40 = .ok (.iload_n 3, 1) := by decide +kernel
theorem d_C_sheet_41 : decode u_C_sheet.2.1 41 = .ok (.invokevirtual 291, 3) := by decide +kernel
theorem d_C_sheet_44 : decode u_C_sheet.2.1 44 = .ok (.iload_n 3, 1) := by decide +kernel
theorem d_C_sheet_45 : decode u_C_sheet.2.1 45 = .ok (.ireturn, 1) := by decide +kernel
theorem d_C_lose_0 : decode u_C_lose.2.1 0 = .ok (.iload_n 1, 1) := by decide +kernel
theorem d_C_lose_1 : decode u_C_lose.2.1 1 = .ok (.invokestatic 91, 3) := by decide +kernel
theorem d_C_lose_4 : decode u_C_lose.2.1 4 = .ok (.ifCond .ne 6, 3) := by decide +kernel
theorem d_C_lose_7 : decode u_C_lose.2.1 7 = .ok (.bipush (-2), 2) := by decide +kernel
theorem d_C_lose_9 : decode u_C_lose.2.1 9 = .ok (.ireturn, 1) := by decide +kernel
theorem d_C_lose_10 : decode u_C_lose.2.1 10 = .ok (.aload_n 0, 1) := by decide +kernel
theorem d_C_lose_11 : decode u_C_lose.2.1 11 = .ok (.getfield 35, 3) := by decide +kernel
theorem d_C_lose_14 : decode u_C_lose.2.1 14 = .ok (.iload_n 1, 1) := by decide +kernel
theorem d_C_lose_15 : decode u_C_lose.2.1 15 = .ok (.aaload, 1) := by decide +kernel
theorem d_C_lose_16 : decode u_C_lose.2.1 16 = .ok (.invokevirtual 94, 3) := by decide +kernel
theorem d_C_lose_19 : decode u_C_lose.2.1 19 = .ok (.ifCond .eq 9, 3) := by decide +kernel
theorem d_C_lose_22 : decode u_C_lose.2.1 22 = .ok (.aload_n 0, 1) := by decide +kernel
theorem d_C_lose_23 : decode u_C_lose.2.1 23 = .ok (.iconst 1, 1) := by decide +kernel
theorem d_C_lose_24 : decode u_C_lose.2.1 24 = .ok (.invokevirtual 98, 3) := by decide +kernel
theorem d_C_lose_27 : decode u_C_lose.2.1 27 = .ok (.ireturn, 1) := by decide +kernel
theorem d_C_lose_28 : decode u_C_lose.2.1 28 = .ok (.aload_n 0, 1) := by decide +kernel
theorem d_C_lose_29 : decode u_C_lose.2.1 29 = .ok (.getfield 35, 3) := by decide +kernel
theorem d_C_lose_32 : decode u_C_lose.2.1 32 = .ok (.iload_n 1, 1) := by decide +kernel
theorem d_C_lose_33 : decode u_C_lose.2.1 33 = .ok (.aaload, 1) := by decide +kernel
theorem d_C_lose_34 : decode u_C_lose.2.1 34 = .ok (.getfield 102, 3) := by decide +kernel
theorem d_C_lose_37 : decode u_C_lose.2.1 37 = .ok (.istore_n 2, 1) := by decide +kernel
theorem d_C_lose_38 : decode u_C_lose.2.1 38 = .ok (.aload_n 0, 1) := by decide +kernel
theorem d_C_lose_39 : decode u_C_lose.2.1 39 = .ok (.getfield 35, 3) := by decide +kernel
theorem d_C_lose_42 : decode u_C_lose.2.1 42 = .ok (.iload_n 1, 1) := by decide +kernel
theorem d_C_lose_43 : decode u_C_lose.2.1 43 = .ok (.aaload, 1) := by decide +kernel
theorem d_C_lose_44 : decode u_C_lose.2.1 44 = .ok (.iconst (-1), 1) := by decide +kernel
theorem d_C_lose_45 : decode u_C_lose.2.1 45 = .ok (.iconst 0, 1) := by decide +kernel
theorem d_C_lose_46 : decode u_C_lose.2.1 46 = .ok (.invokevirtual 291, 3) := by decide +kernel
theorem d_C_lose_49 : decode u_C_lose.2.1 49 = .ok (.iload_n 2, 1) := by decide +kernel
theorem d_C_lose_50 : decode u_C_lose.2.1 50 = .ok (.ireturn, 1) := by decide +kernel
theorem d_C_lay_0 : decode u_C_lay.2.1 0 = .ok (.iload_n 1, 1) := by decide +kernel
theorem d_C_lay_1 : decode u_C_lay.2.1 1 = .ok (.invokestatic 91, 3) := by decide +kernel
theorem d_C_lay_4 : decode u_C_lay.2.1 4 = .ok (.ifCond .eq 10, 3) := by decide +kernel
theorem d_C_lay_7 : decode u_C_lay.2.1 7 = .ok (.iload_n 2, 1) := by decide +kernel
theorem d_C_lay_8 : decode u_C_lay.2.1 8 = .ok (.invokestatic 288, 3) := by decide +kernel
theorem d_C_lay_11 : decode u_C_lay.2.1 11 = .ok (.ifCond .ne 6, 3) := by decide +kernel
theorem d_C_lay_14 : decode u_C_lay.2.1 14 = .ok (.bipush (-2), 2) := by decide +kernel
theorem d_C_lay_16 : decode u_C_lay.2.1 16 = .ok (.ireturn, 1) := by decide +kernel
theorem d_C_lay_17 : decode u_C_lay.2.1 17 = .ok (.aload_n 0, 1) := by decide +kernel
theorem d_C_lay_18 : decode u_C_lay.2.1 18 = .ok (.getfield 35, 3) := by decide +kernel
theorem d_C_lay_21 : decode u_C_lay.2.1 21 = .ok (.iload_n 1, 1) := by decide +kernel
theorem d_C_lay_22 : decode u_C_lay.2.1 22 = .ok (.aaload, 1) := by decide +kernel
theorem d_C_lay_23 : decode u_C_lay.2.1 23 = .ok (.iload_n 2, 1) := by decide +kernel
theorem d_C_lay_24 : decode u_C_lay.2.1 24 = .ok (.iload_n 3, 1) := by decide +kernel
theorem d_C_lay_25 : decode u_C_lay.2.1 25 = .ok (.invokestatic 295, 3) := by decide +kernel
theorem d_C_lay_28 : decode u_C_lay.2.1 28 = .ok (.istore 5, 2) := by decide +kernel
theorem d_C_lay_30 : decode u_C_lay.2.1 30 = .ok (.iload 5, 2) := by decide +kernel
theorem d_C_lay_32 : decode u_C_lay.2.1 32 = .ok (.ifCond .eq 10, 3) := by decide +kernel
theorem d_C_lay_35 : decode u_C_lay.2.1 35 = .ok (.aload_n 0, 1) := by decide +kernel
theorem d_C_lay_36 : decode u_C_lay.2.1 36 = .ok (.iload 5, 2) := by decide +kernel
theorem d_C_lay_38 : decode u_C_lay.2.1 38 = .ok (.invokevirtual 98, 3) := by decide +kernel
theorem d_C_lay_41 : decode u_C_lay.2.1 41 = .ok (.ireturn, 1) := by decide +kernel
theorem d_C_lay_42 : decode u_C_lay.2.1 42 = .ok (.aload_n 0, 1) := by decide +kernel
theorem d_C_lay_43 : decode u_C_lay.2.1 43 = .ok (.getfield 35, 3) := by decide +kernel
theorem d_C_lay_46 : decode u_C_lay.2.1 46 = .ok (.iload_n 1, 1) := by decide +kernel
theorem d_C_lay_47 : decode u_C_lay.2.1 47 = .ok (.aaload, 1) := by decide +kernel
theorem d_C_lay_48 : decode u_C_lay.2.1 48 = .ok (.iload_n 3, 1) := by decide +kernel
theorem d_C_lay_49 : decode u_C_lay.2.1 49 = .ok (.iload 4, 2) := by decide +kernel
theorem d_C_lay_51 : decode u_C_lay.2.1 51 = .ok (.invokevirtual 299, 3) := by decide +kernel
theorem d_C_lay_54 : decode u_C_lay.2.1 54 = .ok (.iconst 1, 1) := by decide +kernel
theorem d_C_lay_55 : decode u_C_lay.2.1 55 = .ok (.ireturn, 1) := by decide +kernel
theorem d_C_get_0 : decode u_C_get.2.1 0 = .ok (.iload_n 1, 1) := by decide +kernel
theorem d_C_get_1 : decode u_C_get.2.1 1 = .ok (.invokestatic 91, 3) := by decide +kernel
theorem d_C_get_4 : decode u_C_get.2.1 4 = .ok (.ifCond .eq 10, 3) := by decide +kernel
theorem d_C_get_7 : decode u_C_get.2.1 7 = .ok (.iload_n 2, 1) := by decide +kernel
theorem d_C_get_8 : decode u_C_get.2.1 8 = .ok (.invokestatic 288, 3) := by decide +kernel
theorem d_C_get_11 : decode u_C_get.2.1 11 = .ok (.ifCond .ne 7, 3) := by decide +kernel
theorem d_C_get_14 : decode u_C_get.2.1 14 = .ok (.ldc_w 302, 3) := by decide +kernel
theorem d_C_get_17 : decode u_C_get.2.1 17 = .ok (.ireturn, 1) := by decide +kernel
theorem d_C_get_18 : decode u_C_get.2.1 18 = .ok (.aload_n 0, 1) := by decide +kernel
theorem d_C_get_19 : decode u_C_get.2.1 19 = .ok (.getfield 35, 3) := by decide +kernel
theorem d_C_get_22 : decode u_C_get.2.1 22 = .ok (.iload_n 1, 1) := by decide +kernel
theorem d_C_get_23 : decode u_C_get.2.1 23 = .ok (.aaload, 1) := by decide +kernel
theorem d_C_get_24 : decode u_C_get.2.1 24 = .ok (.iload_n 2, 1) := by decide +kernel
theorem d_C_get_25 : decode u_C_get.2.1 25 = .ok (.iload_n 3, 1) := by decide +kernel
theorem d_C_get_26 : decode u_C_get.2.1 26 = .ok (.invokestatic 295, 3) := by decide +kernel
theorem d_C_get_29 : decode u_C_get.2.1 29 = .ok (.istore 4, 2) := by decide +kernel
theorem d_C_get_31 : decode u_C_get.2.1 31 = .ok (.iload 4, 2) := by decide +kernel
theorem d_C_get_33 : decode u_C_get.2.1 33 = .ok (.ifCond .eq 14, 3) := by decide +kernel
theorem d_C_get_36 : decode u_C_get.2.1 36 = .ok (.aload_n 0, 1) := by decide +kernel
theorem d_C_get_37 : decode u_C_get.2.1 37 = .ok (.iload 4, 2) := by decide +kernel
theorem d_C_get_39 : decode u_C_get.2.1 39 = .ok (.invokevirtual 98, 3) := by decide +kernel
theorem d_C_get_42 : decode u_C_get.2.1 42 = .ok (.pop, 1) := by decide +kernel
theorem d_C_get_43 : decode u_C_get.2.1 43 = .ok (.ldc_w 302, 3) := by decide +kernel
theorem d_C_get_46 : decode u_C_get.2.1 46 = .ok (.ireturn, 1) := by decide +kernel
theorem d_C_get_47 : decode u_C_get.2.1 47 = .ok (.aload_n 0, 1) := by decide +kernel
theorem d_C_get_48 : decode u_C_get.2.1 48 = .ok (.getfield 35, 3) := by decide +kernel
theorem d_C_get_51 : decode u_C_get.2.1 51 = .ok (.iload_n 1, 1) := by decide +kernel
theorem d_C_get_52 : decode u_C_get.2.1 52 = .ok (.aaload, 1) := by decide +kernel
theorem d_C_get_53 : decode u_C_get.2.1 53 = .ok (.getfield 111, 3) := by decide +kernel
theorem d_C_get_56 : decode u_C_get.2.1 56 = .ok (.iload_n 3, 1) := by decide +kernel
theorem d_C_get_57 : decode u_C_get.2.1 57 = .ok (.iaload, 1) := by decide +kernel
theorem d_C_get_58 : decode u_C_get.2.1 58 = .ok (.ireturn, 1) := by decide +kernel
theorem d_C_copy_0 : decode u_C_copy.2.1 0 = .ok (.iload_n 1, 1) := by decide +kernel
theorem d_C_copy_1 : decode u_C_copy.2.1 1 = .ok (.invokestatic 91, 3) := by decide +kernel
theorem d_C_copy_4 : decode u_C_copy.2.1 4 = .ok (.ifCond .eq 10, 3) := by decide +kernel
theorem d_C_copy_7 : decode u_C_copy.2.1 7 = .ok (.iload_n 3, 1) := by decide +kernel
theorem d_C_copy_8 : decode u_C_copy.2.1 8 = .ok (.invokestatic 91, 3) := by decide +kernel
theorem d_C_copy_11 : decode u_C_copy.2.1 11 = .ok (.ifCond .ne 6, 3) := by decide +kernel
theorem d_C_copy_14 : decode u_C_copy.2.1 14 = .ok (.bipush (-2), 2) := by decide +kernel
theorem d_C_copy_16 : decode u_C_copy.2.1 16 = .ok (.ireturn, 1) := by decide +kernel
theorem d_C_copy_17 : decode u_C_copy.2.1 17 = .ok (.aload_n 0, 1) := by decide +kernel
theorem d_C_copy_18 : decode u_C_copy.2.1 18 = .ok (.getfield 35, 3) := by decide +kernel
theorem d_C_copy_21 : decode u_C_copy.2.1 21 = .ok (.iload_n 1, 1) := by decide +kernel
theorem d_C_copy_22 : decode u_C_copy.2.1 22 = .ok (.aaload, 1) := by decide +kernel
theorem d_C_copy_23 : decode u_C_copy.2.1 23 = .ok (.astore 6, 2) := by decide +kernel
theorem d_C_copy_25 : decode u_C_copy.2.1 25 = .ok (.aload_n 0, 1) := by decide +kernel
theorem d_C_copy_26 : decode u_C_copy.2.1 26 = .ok (.getfield 35, 3) := by decide +kernel
theorem d_C_copy_29 : decode u_C_copy.2.1 29 = .ok (.iload_n 3, 1) := by decide +kernel
theorem d_C_copy_30 : decode u_C_copy.2.1 30 = .ok (.aaload, 1) := by decide +kernel
theorem d_C_copy_31 : decode u_C_copy.2.1 31 = .ok (.astore 7, 2) := by decide +kernel
theorem d_C_copy_33 : decode u_C_copy.2.1 33 = .ok (.aload 6, 2) := by decide +kernel
theorem d_C_copy_35 : decode u_C_copy.2.1 35 = .ok (.invokevirtual 94, 3) := by decide +kernel
theorem d_C_copy_38 : decode u_C_copy.2.1 38 = .ok (.ifCond .ne 11, 3) := by decide +kernel
theorem d_C_copy_41 : decode u_C_copy.2.1 41 = .ok (.aload 7, 2) := by decide +kernel
theorem d_C_copy_43 : decode u_C_copy.2.1 43 = .ok (.invokevirtual 94, 3) := by decide +kernel
theorem d_C_copy_46 : decode u_C_copy.2.1 46 = .ok (.ifCond .eq 9, 3) := by decide +kernel
theorem d_C_copy_49 : decode u_C_copy.2.1 49 = .ok (.aload_n 0, 1) := by decide +kernel
theorem d_C_copy_50 : decode u_C_copy.2.1 50 = .ok (.iconst 1, 1) := by decide +kernel
theorem d_C_copy_51 : decode u_C_copy.2.1 51 = .ok (.invokevirtual 98, 3) := by decide +kernel
theorem d_C_copy_54 : decode u_C_copy.2.1 54 = .ok (.ireturn, 1) := by decide +kernel
theorem d_C_copy_55 : decode u_C_copy.2.1 55 = .ok (.aload 6, 2) := by decide +kernel
theorem d_C_copy_57 : decode u_C_copy.2.1 57 = .ok (.getfield 303, 3) := by decide +kernel
theorem d_C_copy_60 : decode u_C_copy.2.1 60 = .ok (.aload 7, 2) := by decide +kernel
theorem d_C_copy_62 : decode u_C_copy.2.1 62 = .ok (.getfield 303, 3) := by decide +kernel
theorem d_C_copy_65 : decode u_C_copy.2.1 65 = .ok (.if_icmp .eq 9, 3) := by decide +kernel
theorem d_C_copy_68 : decode u_C_copy.2.1 68 = .ok (.aload_n 0, 1) := by decide +kernel
theorem d_C_copy_69 : decode u_C_copy.2.1 69 = .ok (.iconst 4, 1) := by decide +kernel
theorem d_C_copy_70 : decode u_C_copy.2.1 70 = .ok (.invokevirtual 98, 3) := by decide +kernel
theorem d_C_copy_73 : decode u_C_copy.2.1 73 = .ok (.ireturn, 1) := by decide +kernel
theorem d_C_copy_74 : decode u_C_copy.2.1 74 = .ok (.aload 6, 2) := by decide +kernel
theorem d_C_copy_76 : decode u_C_copy.2.1 76 = .ok (.iload_n 2, 1) := by decide +kernel
theorem d_C_copy_77 : decode u_C_copy.2.1 77 = .ok (.iload 5, 2) := by decide +kernel
theorem d_C_copy_79 : decode u_C_copy.2.1 79 = .ok (.invokevirtual 306, 3) := by decide +kernel
theorem d_C_copy_82 : decode u_C_copy.2.1 82 = .ok (.ifCond .eq 15, 3) := by decide +kernel
theorem d_C_copy_85 : decode u_C_copy.2.1 85 = .ok (.aload 7, 2) := by decide +kernel
theorem d_C_copy_87 : decode u_C_copy.2.1 87 = .ok (.iload 4, 2) := by decide +kernel
theorem d_C_copy_89 : decode u_C_copy.2.1 89 = .ok (.iload 5, 2) := by decide +kernel
theorem d_C_copy_91 : decode u_C_copy.2.1 91 = .ok (.invokevirtual 306, 3) := by decide +kernel
theorem d_C_copy_94 : decode u_C_copy.2.1 94 = .ok (.ifCond .ne 9, 3) := by decide +kernel
theorem d_C_copy_97 : decode u_C_copy.2.1 97 = .ok (.aload_n 0, 1) := by decide +kernel
theorem d_C_copy_98 : decode u_C_copy.2.1 98 = .ok (.iconst 2, 1) := by decide +kernel
theorem d_C_copy_99 : decode u_C_copy.2.1 99 = .ok (.invokevirtual 98, 3) := by decide +kernel
theorem d_C_copy_102 : decode u_C_copy.2.1 102 = .ok (.ireturn, 1) := by decide +kernel
theorem d_C_copy_103 : decode u_C_copy.2.1 103 = .ok (.aload 6, 2) := by decide +kernel
theorem d_C_copy_105 : decode u_C_copy.2.1 105 = .ok (.getfield 111, 3) := by decide +kernel
theorem d_C_copy_108 : decode u_C_copy.2.1 108 = .ok (.iload_n 2, 1) := by decide +kernel
theorem d_C_copy_109 : decode u_C_copy.2.1 109 = .ok (.aload 7, 2) := by decide +kernel
theorem d_C_copy_111 : decode u_C_copy.2.1 111 = .ok (.getfield 111, 3) := by decide +kernel
theorem d_C_copy_114 : decode u_C_copy.2.1 114 = .ok (.iload 4, 2) := by decide +kernel
theorem d_C_copy_116 : decode u_C_copy.2.1 116 = .ok (.iload 5, 2) := by decide +kernel
theorem d_C_copy_118 : decode u_C_copy.2.1 118 = .ok (.invokestatic 179, 3) := by decide +kernel
theorem d_C_copy_121 : decode u_C_copy.2.1 121 = .ok (.iconst 1, 1) := by decide +kernel
theorem d_C_copy_122 : decode u_C_copy.2.1 122 = .ok (.ireturn, 1) := by decide +kernel
theorem d_C_write_0 : decode u_C_write.2.1 0 = .ok (.aload_n 0, 1) := by decide +kernel
theorem d_C_write_1 : decode u_C_write.2.1 1 = .ok (.iload_n 1, 1) := by decide +kernel
theorem d_C_write_2 : decode u_C_write.2.1 2 = .ok (.invokevirtual 176, 3) := by decide +kernel
theorem d_C_write_5 : decode u_C_write.2.1 5 = .ok (.ifCond .eq 10, 3) := by decide +kernel
theorem d_C_write_8 : decode u_C_write.2.1 8 = .ok (.iload_n 2, 1) := by decide +kernel
theorem d_C_write_9 : decode u_C_write.2.1 9 = .ok (.invokestatic 91, 3) := by decide +kernel
theorem d_C_write_12 : decode u_C_write.2.1 12 = .ok (.ifCond .ne 6, 3) := by decide +kernel
theorem d_C_write_15 : decode u_C_write.2.1 15 = .ok (.bipush (-2), 2) := by decide +kernel
theorem d_C_write_17 : decode u_C_write.2.1 17 = .ok (.ireturn, 1) := by decide +kernel
theorem d_C_write_18 : decode u_C_write.2.1 18 = .ok (.aload_n 0, 1) := by decide +kernel
theorem d_C_write_19 : decode u_C_write.2.1 19 = .ok (.getfield 35, 3) := by decide +kernel
theorem d_C_write_22 : decode u_C_write.2.1 22 = .ok (.iload_n 2, 1) := by decide +kernel
theorem d_C_write_23 : decode u_C_write.2.1 23 = .ok (.aaload, 1) := by decide +kernel
theorem d_C_write_24 : decode u_C_write.2.1 24 = .ok (.astore_n 3, 1) := by decide +kernel
theorem d_C_write_25 : decode u_C_write.2.1 25 = .ok (.aload_n 3, 1) := by decide +kernel
theorem d_C_write_26 : decode u_C_write.2.1 26 = .ok (.invokevirtual 94, 3) := by decide +kernel
theorem d_C_write_29 : decode u_C_write.2.1 29 = .ok (.ifCond .eq 9, 3) := by decide +kernel
theorem d_C_write_32 : decode u_C_write.2.1 32 = .ok (.aload_n 0, 1) := by decide +kernel
theorem d_C_write_33 : decode u_C_write.2.1 33 = .ok (.iconst 1, 1) := by decide +kernel
theorem d_C_write_34 : decode u_C_write.2.1 34 = .ok (.invokevirtual 98, 3) := by decide +kernel
theorem d_C_write_37 : decode u_C_write.2.1 37 = .ok (.ireturn, 1) := by decide +kernel
theorem d_C_write_38 : decode u_C_write.2.1 38 = .ok (.aload_n 3, 1) := by decide +kernel
theorem d_C_write_39 : decode u_C_write.2.1 39 = .ok (.getfield 102, 3) := by decide +kernel
theorem d_C_write_42 : decode u_C_write.2.1 42 = .ok (.bipush 8, 2) := by decide +kernel
theorem d_C_write_44 : decode u_C_write.2.1 44 = .ok (.invokestatic 105, 3) := by decide +kernel
theorem d_C_write_47 : decode u_C_write.2.1 47 = .ok (.istore 4, 2) := by decide +kernel
theorem d_C_write_49 : decode u_C_write.2.1 49 = .ok (.iconst 0, 1) := by decide +kernel
theorem d_C_write_50 : decode u_C_write.2.1 50 = .ok (.istore 5, 2) := by decide +kernel
theorem d_C_write_52 : decode u_C_write.2.1 52 = .ok (.iload 5, 2) := by decide +kernel
theorem d_C_write_54 : decode u_C_write.2.1 54 = .ok (.iload 4, 2) := by decide +kernel
theorem d_C_write_56 : decode u_C_write.2.1 56 = .ok (.if_icmp .ge 27, 3) := by decide +kernel
theorem d_C_write_59 : decode u_C_write.2.1 59 = .ok (.aload_n 3, 1) := by decide +kernel
theorem d_C_write_60 : decode u_C_write.2.1 60 = .ok (.iload 5, 2) := by decide +kernel
theorem d_C_write_62 : decode u_C_write.2.1 62 = .ok (.aload_n 0, 1) := by decide +kernel
theorem d_C_write_63 : decode u_C_write.2.1 63 = .ok (.getfield 23, 3) := by decide +kernel
theorem d_C_write_66 : decode u_C_write.2.1 66 = .ok (.iload_n 1, 1) := by decide +kernel
theorem d_C_write_67 : decode u_C_write.2.1 67 = .ok (.aaload, 1) := by decide +kernel
theorem d_C_write_68 : decode u_C_write.2.1 68 = .ok (.getfield 185, 3) := by decide +kernel
theorem d_C_write_71 : decode u_C_write.2.1 71 = .ok (.iload 5, 2) := by decide +kernel
theorem d_C_write_73 : decode u_C_write.2.1 73 = .ok (.iaload, 1) := by decide +kernel
theorem d_C_write_74 : decode u_C_write.2.1 74 = .ok (.invokevirtual 299, 3) := by decide +kernel
theorem d_C_write_77 : decode u_C_write.2.1 77 = .ok (.iinc 5 1, 3) := by decide +kernel
theorem d_C_write_80 : decode u_C_write.2.1 80 = .ok (.goto (-28), 3) := by decide +kernel
theorem d_C_write_83 : decode u_C_write.2.1 83 = .ok (.iload 4, 2) := by decide +kernel
theorem d_C_write_85 : decode u_C_write.2.1 85 = .ok (.ireturn, 1) := by decide +kernel
theorem d_C_count_0 : decode u_C_count.2.1 0 = .ok (.iload_n 1, 1) := by decide +kernel
theorem d_C_count_1 : decode u_C_count.2.1 1 = .ok (.tableswitch 88 0 8 #[51, 56, 61, 66, 66, 66, 66, 78, 83], 51) := by decide +kernel
theorem d_C_count_52 : decode u_C_count.2.1 52 = .ok (.aload_n 0, 1) := by decide +kernel
theorem d_C_count_53 : decode u_C_count.2.1 53 = .ok (.getfield 75, 3) := by decide +kernel
theorem d_C_count_56 : decode u_C_count.2.1 56 = .ok (.ireturn, 1) := by decide +kernel
theorem d_C_count_57 : decode u_C_count.2.1 57 = .ok (.aload_n 0, 1) := by decide +kernel
theorem d_C_count_58 : decode u_C_count.2.1 58 = .ok (.getfield 146, 3) := by decide +kernel
theorem d_C_count_61 : decode u_C_count.2.1 61 = .ok (.ireturn, 1) := by decide +kernel
theorem d_C_count_62 : decode u_C_count.2.1 62 = .ok (.aload_n 0, 1) := by decide +kernel
theorem d_C_count_63 : decode u_C_count.2.1 63 = .ok (.getfield 205, 3) := by decide +kernel
theorem d_C_count_66 : decode u_C_count.2.1 66 = .ok (.ireturn, 1) := by decide +kernel
theorem d_C_count_67 : decode u_C_count.2.1 67 = .ok (.aload_n 0, 1) := by decide +kernel
theorem d_C_count_68 : decode u_C_count.2.1 68 = .ok (.getfield 17, 3) := by decide +kernel
theorem d_C_count_71 : decode u_C_count.2.1 71 = .ok (.iload_n 1, 1) := by decide +kernel
theorem d_C_count_72 : decode u_C_count.2.1 72 = .ok (.iconst 3, 1) := by decide +kernel
theorem d_C_count_73 : decode u_C_count.2.1 73 = .ok (.isub, 1) := by decide +kernel
theorem d_C_count_74 : decode u_C_count.2.1 74 = .ok (.aaload, 1) := by decide +kernel
theorem d_C_count_75 : decode u_C_count.2.1 75 = .ok (.getfield 123, 3) := by decide +kernel
theorem d_C_count_78 : decode u_C_count.2.1 78 = .ok (.ireturn, 1) := by decide +kernel
theorem d_C_count_79 : decode u_C_count.2.1 79 = .ok (.aload_n 0, 1) := by decide +kernel
theorem d_C_count_80 : decode u_C_count.2.1 80 = .ok (.invokevirtual 310, 3) := by decide +kernel
theorem d_C_count_83 : decode u_C_count.2.1 83 = .ok (.ireturn, 1) := by decide +kernel
theorem d_C_count_84 : decode u_C_count.2.1 84 = .ok (.aload_n 0, 1) := by decide +kernel
theorem d_C_count_85 : decode u_C_count.2.1 85 = .ok (.getfield 313, 3) := by decide +kernel
theorem d_C_count_88 : decode u_C_count.2.1 88 = .ok (.ireturn, 1) := by decide +kernel
theorem d_C_count_89 : decode u_C_count.2.1 89 = .ok (.bipush (-2), 2) := by decide +kernel
theorem d_C_count_91 : decode u_C_count.2.1 91 = .ok (.ireturn, 1) := by decide +kernel
theorem d_C_digest_0 : decode u_C_digest.2.1 0 = .ok (.ldc2_w 316, 3) := by decide +kernel
theorem d_C_digest_3 : decode u_C_digest.2.1 3 = .ok (.lstore_n 1, 1) := by decide +kernel
theorem d_C_digest_4 : decode u_C_digest.2.1 4 = .ok (.iconst 0, 1) := by decide +kernel
theorem d_C_digest_5 : decode u_C_digest.2.1 5 = .ok (.istore_n 3, 1) := by decide +kernel
theorem d_C_digest_6 : decode u_C_digest.2.1 6 = .ok (.iload_n 3, 1) := by decide +kernel
theorem d_C_digest_7 : decode u_C_digest.2.1 7 = .ok (.bipush 7, 2) := by decide +kernel
theorem d_C_digest_9 : decode u_C_digest.2.1 9 = .ok (.if_icmp .gt 22, 3) := by decide +kernel
theorem d_C_digest_12 : decode u_C_digest.2.1 12 = .ok (.ldc2_w 318, 3) := by decide +kernel
theorem d_C_digest_15 : decode u_C_digest.2.1 15 = .ok (.lload_n 1, 1) := by decide +kernel
theorem d_C_digest_16 : decode u_C_digest.2.1 16 = .ok (.lmul, 1) := by decide +kernel
theorem d_C_digest_17 : decode u_C_digest.2.1 17 = .ok (.aload_n 0, 1) := by decide +kernel
theorem d_C_digest_18 : decode u_C_digest.2.1 18 = .ok (.iload_n 3, 1) := by decide +kernel
theorem d_C_digest_19 : decode u_C_digest.2.1 19 = .ok (.invokevirtual 320, 3) := by decide +kernel
theorem d_C_digest_22 : decode u_C_digest.2.1 22 = .ok (.i2l, 1) := by decide +kernel
theorem d_C_digest_23 : decode u_C_digest.2.1 23 = .ok (.ladd, 1) := by decide +kernel
theorem d_C_digest_24 : decode u_C_digest.2.1 24 = .ok (.lstore_n 1, 1) := by decide +kernel
theorem d_C_digest_25 : decode u_C_digest.2.1 25 = .ok (.iinc 3 1, 3) := by decide +kernel
theorem d_C_digest_28 : decode u_C_digest.2.1 28 = .ok (.goto (-22), 3) := by decide +kernel
theorem d_C_digest_31 : decode u_C_digest.2.1 31 = .ok (.iconst 0, 1) := by decide +kernel
theorem d_C_digest_32 : decode u_C_digest.2.1 32 = .ok (.istore_n 3, 1) := by decide +kernel
theorem d_C_digest_33 : decode u_C_digest.2.1 33 = .ok (.iload_n 3, 1) := by decide +kernel
theorem d_C_digest_34 : decode u_C_digest.2.1 34 = .ok (.iconst 4, 1) := by decide +kernel
theorem d_C_digest_35 : decode u_C_digest.2.1 35 = .ok (.if_icmp .ge 53, 3) := by decide +kernel
theorem d_C_digest_38 : decode u_C_digest.2.1 38 = .ok (.ldc2_w 318, 3) := by decide +kernel
theorem d_C_digest_41 : decode u_C_digest.2.1 41 = .ok (.lload_n 1, 1) := by decide +kernel
theorem d_C_digest_42 : decode u_C_digest.2.1 42 = .ok (.lmul, 1) := by decide +kernel
theorem d_C_digest_43 : decode u_C_digest.2.1 43 = .ok (.aload_n 0, 1) := by decide +kernel
theorem d_C_digest_44 : decode u_C_digest.2.1 44 = .ok (.iload_n 3, 1) := by decide +kernel
theorem d_C_digest_45 : decode u_C_digest.2.1 45 = .ok (.invokevirtual 323, 3) := by decide +kernel
theorem d_C_digest_48 : decode u_C_digest.2.1 48 = .ok (.i2l, 1) := by decide +kernel
theorem d_C_digest_49 : decode u_C_digest.2.1 49 = .ok (.ladd, 1) := by decide +kernel
theorem d_C_digest_50 : decode u_C_digest.2.1 50 = .ok (.lstore_n 1, 1) := by decide +kernel
theorem d_C_digest_51 : decode u_C_digest.2.1 51 = .ok (.iconst 0, 1) := by decide +kernel
theorem d_C_digest_52 : decode u_C_digest.2.1 52 = .ok (.istore 4, 2) := by decide +kernel
theorem d_C_digest_54 : decode u_C_digest.2.1 54 = .ok (.iload 4, 2) := by decide +kernel
theorem d_C_digest_56 : decode u_C_digest.2.1 56 = .ok (.bipush 8, 2) := by decide +kernel
theorem d_C_digest_58 : decode u_C_digest.2.1 58 = .ok (.if_icmp .ge 24, 3) := by decide +kernel
theorem d_C_digest_61 : decode u_C_digest.2.1 61 = .ok (.ldc2_w 318, 3) := by decide +kernel
theorem d_C_digest_64 : decode u_C_digest.2.1 64 = .ok (.lload_n 1, 1) := by decide +kernel
theorem d_C_digest_65 : decode u_C_digest.2.1 65 = .ok (.lmul, 1) := by decide +kernel
theorem d_C_digest_66 : decode u_C_digest.2.1 66 = .ok (.aload_n 0, 1) := by decide +kernel
theorem d_C_digest_67 : decode u_C_digest.2.1 67 = .ok (.iload_n 3, 1) := by decide +kernel
theorem d_C_digest_68 : decode u_C_digest.2.1 68 = .ok (.iload 4, 2) := by decide +kernel
theorem d_C_digest_70 : decode u_C_digest.2.1 70 = .ok (.invokevirtual 325, 3) := by decide +kernel
theorem d_C_digest_73 : decode u_C_digest.2.1 73 = .ok (.i2l, 1) := by decide +kernel
theorem d_C_digest_74 : decode u_C_digest.2.1 74 = .ok (.ladd, 1) := by decide +kernel
theorem d_C_digest_75 : decode u_C_digest.2.1 75 = .ok (.lstore_n 1, 1) := by decide +kernel
theorem d_C_digest_76 : decode u_C_digest.2.1 76 = .ok (.iinc 4 1, 3) := by decide +kernel
theorem d_C_digest_79 : decode u_C_digest.2.1 79 = .ok (.goto (-25), 3) := by decide +kernel
theorem d_C_digest_82 : decode u_C_digest.2.1 82 = .ok (.iinc 3 1, 3) := by decide +kernel
theorem d_C_digest_85 : decode u_C_digest.2.1 85 = .ok (.goto (-52), 3) := by decide +kernel
theorem d_C_digest_88 : decode u_C_digest.2.1 88 = .ok (.iconst 0, 1) := by decide +kernel
theorem d_C_digest_89 : decode u_C_digest.2.1 89 = .ok (.istore_n 3, 1) := by decide +kernel
theorem d_C_digest_90 : decode u_C_digest.2.1 90 = .ok (.iload_n 3, 1) := by decide +kernel
theorem d_C_digest_91 : decode u_C_digest.2.1 91 = .ok (.aload_n 0, 1) := by decide +kernel
theorem d_C_digest_92 : decode u_C_digest.2.1 92 = .ok (.getfield 75, 3) := by decide +kernel
theorem d_C_digest_95 : decode u_C_digest.2.1 95 = .ok (.if_icmp .ge 39, 3) := by decide +kernel
theorem d_C_digest_98 : decode u_C_digest.2.1 98 = .ok (.ldc2_w 318, 3) := by decide +kernel
theorem d_C_digest_101 : decode u_C_digest.2.1 101 = .ok (.lload_n 1, 1) := by decide +kernel
theorem d_C_digest_102 : decode u_C_digest.2.1 102 = .ok (.lmul, 1) := by decide +kernel
theorem d_C_digest_103 : decode u_C_digest.2.1 103 = .ok (.aload_n 0, 1) := by decide +kernel
theorem d_C_digest_104 : decode u_C_digest.2.1 104 = .ok (.iload_n 3, 1) := by decide +kernel
theorem d_C_digest_105 : decode u_C_digest.2.1 105 = .ok (.iconst 0, 1) := by decide +kernel
theorem d_C_digest_106 : decode u_C_digest.2.1 106 = .ok (.invokevirtual 327, 3) := by decide +kernel
theorem d_C_digest_109 : decode u_C_digest.2.1 109 = .ok (.i2l, 1) := by decide +kernel
theorem d_C_digest_110 : decode u_C_digest.2.1 110 = .ok (.ladd, 1) := by decide +kernel
theorem d_C_digest_111 : decode u_C_digest.2.1 111 = .ok (.lstore_n 1, 1) := by decide +kernel
theorem d_C_digest_112 : decode u_C_digest.2.1 112 = .ok (.ldc2_w 318, 3) := by decide +kernel
theorem d_C_digest_115 : decode u_C_digest.2.1 115 = .ok (.lload_n 1, 1) := by decide +kernel
theorem d_C_digest_116 : decode u_C_digest.2.1 116 = .ok (.lmul, 1) := by decide +kernel
theorem d_C_digest_117 : decode u_C_digest.2.1 117 = .ok (.aload_n 0, 1) := by decide +kernel
theorem d_C_digest_118 : decode u_C_digest.2.1 118 = .ok (.iload_n 3, 1) := by decide +kernel
theorem d_C_digest_119 : decode u_C_digest.2.1 119 = .ok (.iconst 1, 1) := by decide +kernel
theorem d_C_digest_120 : decode u_C_digest.2.1 120 = .ok (.bipush 9, 2) := by decide +kernel
theorem d_C_digest_122 : decode u_C_digest.2.1 122 = .ok (.invokevirtual 330, 3) := by decide +kernel
theorem d_C_digest_125 : decode u_C_digest.2.1 125 = .ok (.i2l, 1) := by decide +kernel
theorem d_C_digest_126 : decode u_C_digest.2.1 126 = .ok (.ladd, 1) := by decide +kernel
theorem d_C_digest_127 : decode u_C_digest.2.1 127 = .ok (.lstore_n 1, 1) := by decide +kernel
theorem d_C_digest_128 : decode u_C_digest.2.1 128 = .ok (.iinc 3 1, 3) := by decide +kernel
theorem d_C_digest_131 : decode u_C_digest.2.1 131 = .ok (.goto (-41), 3) := by decide +kernel
theorem d_C_digest_134 : decode u_C_digest.2.1 134 = .ok (.iconst 0, 1) := by decide +kernel
theorem d_C_digest_135 : decode u_C_digest.2.1 135 = .ok (.istore_n 3, 1) := by decide +kernel
theorem d_C_digest_136 : decode u_C_digest.2.1 136 = .ok (.iload_n 3, 1) := by decide +kernel
theorem d_C_digest_137 : decode u_C_digest.2.1 137 = .ok (.aload_n 0, 1) := by decide +kernel
theorem d_C_digest_138 : decode u_C_digest.2.1 138 = .ok (.getfield 146, 3) := by decide +kernel
theorem d_C_digest_141 : decode u_C_digest.2.1 141 = .ok (.if_icmp .ge 16, 3) := by decide +kernel
theorem d_C_digest_144 : decode u_C_digest.2.1 144 = .ok (.aload_n 0, 1) := by decide +kernel
theorem d_C_digest_145 : decode u_C_digest.2.1 145 = .ok (.lload_n 1, 1) := by decide +kernel
theorem d_C_digest_146 : decode u_C_digest.2.1 146 = .ok (.iload_n 3, 1) := by decide +kernel
theorem d_C_digest_147 : decode u_C_digest.2.1 147 = .ok (.invokevirtual 333, 3) := by decide +kernel
theorem d_C_digest_150 : decode u_C_digest.2.1 150 = .ok (.lstore_n 1, 1) := by decide +kernel
theorem d_C_digest_151 : decode u_C_digest.2.1 151 = .ok (.iinc 3 1, 3) := by decide +kernel
theorem d_C_digest_154 : decode u_C_digest.2.1 154 = .ok (.goto (-18), 3) := by decide +kernel
theorem d_C_digest_157 : decode u_C_digest.2.1 157 = .ok (.iconst 0, 1) := by decide +kernel
theorem d_C_digest_158 : decode u_C_digest.2.1 158 = .ok (.istore_n 3, 1) := by decide +kernel
theorem d_C_digest_159 : decode u_C_digest.2.1 159 = .ok (.iload_n 3, 1) := by decide +kernel
theorem d_C_digest_160 : decode u_C_digest.2.1 160 = .ok (.aload_n 0, 1) := by decide +kernel
theorem d_C_digest_161 : decode u_C_digest.2.1 161 = .ok (.getfield 205, 3) := by decide +kernel
theorem d_C_digest_164 : decode u_C_digest.2.1 164 = .ok (.if_icmp .ge 16, 3) := by decide +kernel
theorem d_C_digest_167 : decode u_C_digest.2.1 167 = .ok (.aload_n 0, 1) := by decide +kernel
theorem d_C_digest_168 : decode u_C_digest.2.1 168 = .ok (.lload_n 1, 1) := by decide +kernel
theorem d_C_digest_169 : decode u_C_digest.2.1 169 = .ok (.iload_n 3, 1) := by decide +kernel
theorem d_C_digest_170 : decode u_C_digest.2.1 170 = .ok (.invokevirtual 337, 3) := by decide +kernel
theorem d_C_digest_173 : decode u_C_digest.2.1 173 = .ok (.lstore_n 1, 1) := by decide +kernel
theorem d_C_digest_174 : decode u_C_digest.2.1 174 = .ok (.iinc 3 1, 3) := by decide +kernel
theorem d_C_digest_177 : decode u_C_digest.2.1 177 = .ok (.goto (-18), 3) := by decide +kernel
theorem d_C_digest_180 : decode u_C_digest.2.1 180 = .ok (.lload_n 1, 1) := by decide +kernel
theorem d_C_digest_181 : decode u_C_digest.2.1 181 = .ok (.lreturn, 1) := by decide +kernel
theorem d_C_isHead_0 : decode u_C_isHead.2.1 0 = .ok (.iload_n 1, 1) := by decide +kernel
theorem d_C_isHead_1 : decode u_C_isHead.2.1 1 = .ok (.ifCond .lt 15, 3) := by decide +kernel
theorem d_C_isHead_4 : decode u_C_isHead.2.1 4 = .ok (.iload_n 1, 1) := by decide +kernel
theorem d_C_isHead_5 : decode u_C_isHead.2.1 5 = .ok (.aload_n 0, 1) := by decide +kernel
theorem d_C_isHead_6 : decode u_C_isHead.2.1 6 = .ok (.getfield 75, 3) := by decide +kernel
theorem d_C_isHead_9 : decode u_C_isHead.2.1 9 = .ok (.if_icmp .ge 7, 3) := by decide +kernel
theorem d_C_isHead_12 : decode u_C_isHead.2.1 12 = .ok (.iconst 1, 1) := by decide +kernel
theorem d_C_isHead_13 : decode u_C_isHead.2.1 13 = .ok (.goto 4, 3) := by decide +kernel
theorem d_C_isHead_16 : decode u_C_isHead.2.1 16 = .ok (.iconst 0, 1) := by decide +kernel
theorem d_C_isHead_17 : decode u_C_isHead.2.1 17 = .ok (.ireturn, 1) := by decide +kernel
theorem d_C_isDrawing_0 : decode u_C_isDrawing.2.1 0 = .ok (.iload_n 1, 1) := by decide +kernel
theorem d_C_isDrawing_1 : decode u_C_isDrawing.2.1 1 = .ok (.ifCond .lt 15, 3) := by decide +kernel
theorem d_C_isDrawing_4 : decode u_C_isDrawing.2.1 4 = .ok (.iload_n 1, 1) := by decide +kernel
theorem d_C_isDrawing_5 : decode u_C_isDrawing.2.1 5 = .ok (.aload_n 0, 1) := by decide +kernel
theorem d_C_isDrawing_6 : decode u_C_isDrawing.2.1 6 = .ok (.getfield 146, 3) := by decide +kernel
theorem d_C_isDrawing_9 : decode u_C_isDrawing.2.1 9 = .ok (.if_icmp .ge 7, 3) := by decide +kernel
theorem d_C_isDrawing_12 : decode u_C_isDrawing.2.1 12 = .ok (.iconst 1, 1) := by decide +kernel
theorem d_C_isDrawing_13 : decode u_C_isDrawing.2.1 13 = .ok (.goto 4, 3) := by decide +kernel
theorem d_C_isDrawing_16 : decode u_C_isDrawing.2.1 16 = .ok (.iconst 0, 1) := by decide +kernel
theorem d_C_isDrawing_17 : decode u_C_isDrawing.2.1 17 = .ok (.ireturn, 1) := by decide +kernel
theorem d_C_isKnower_0 : decode u_C_isKnower.2.1 0 = .ok (.iload_n 1, 1) := by decide +kernel
theorem d_C_isKnower_1 : decode u_C_isKnower.2.1 1 = .ok (.ifCond .lt 15, 3) := by decide +kernel
theorem d_C_isKnower_4 : decode u_C_isKnower.2.1 4 = .ok (.iload_n 1, 1) := by decide +kernel
theorem d_C_isKnower_5 : decode u_C_isKnower.2.1 5 = .ok (.aload_n 0, 1) := by decide +kernel
theorem d_C_isKnower_6 : decode u_C_isKnower.2.1 6 = .ok (.getfield 205, 3) := by decide +kernel
theorem d_C_isKnower_9 : decode u_C_isKnower.2.1 9 = .ok (.if_icmp .ge 7, 3) := by decide +kernel
theorem d_C_isKnower_12 : decode u_C_isKnower.2.1 12 = .ok (.iconst 1, 1) := by decide +kernel
theorem d_C_isKnower_13 : decode u_C_isKnower.2.1 13 = .ok (.goto 4, 3) := by decide +kernel
theorem d_C_isKnower_16 : decode u_C_isKnower.2.1 16 = .ok (.iconst 0, 1) := by decide +kernel
theorem d_C_isKnower_17 : decode u_C_isKnower.2.1 17 = .ok (.ireturn, 1) := by decide +kernel
theorem d_C_isSet_0 : decode u_C_isSet.2.1 0 = .ok (.iload_n 1, 1) := by decide +kernel
theorem d_C_isSet_1 : decode u_C_isSet.2.1 1 = .ok (.ifCond .le 17, 3) := by decide +kernel
theorem d_C_isSet_4 : decode u_C_isSet.2.1 4 = .ok (.iload_n 1, 1) := by decide +kernel
theorem d_C_isSet_5 : decode u_C_isSet.2.1 5 = .ok (.iconst 1, 1) := by decide +kernel
theorem d_C_isSet_6 : decode u_C_isSet.2.1 6 = .ok (.aload_n 0, 1) := by decide +kernel
theorem d_C_isSet_7 : decode u_C_isSet.2.1 7 = .ok (.getfield 75, 3) := by decide +kernel
theorem d_C_isSet_10 : decode u_C_isSet.2.1 10 = .ok (.ishl, 1) := by decide +kernel
theorem d_C_isSet_11 : decode u_C_isSet.2.1 11 = .ok (.if_icmp .ge 7, 3) := by decide +kernel
theorem d_C_isSet_14 : decode u_C_isSet.2.1 14 = .ok (.iconst 1, 1) := by decide +kernel
theorem d_C_isSet_15 : decode u_C_isSet.2.1 15 = .ok (.goto 4, 3) := by decide +kernel
theorem d_C_isSet_18 : decode u_C_isSet.2.1 18 = .ok (.iconst 0, 1) := by decide +kernel
theorem d_C_isSet_19 : decode u_C_isSet.2.1 19 = .ok (.ireturn, 1) := by decide +kernel
theorem d_C_isNextYear_0 : decode u_C_isNextYear.2.1 0 = .ok (.aload_n 0, 1) := by decide +kernel
theorem d_C_isNextYear_1 : decode u_C_isNextYear.2.1 1 = .ok (.getfield 146, 3) := by decide +kernel
theorem d_C_isNextYear_4 : decode u_C_isNextYear.2.1 4 = .ok (.ifCond .le 20, 3) := by decide +kernel
theorem d_C_isNextYear_7 : decode u_C_isNextYear.2.1 7 = .ok (.aload_n 0, 1) := by decide +kernel
theorem d_C_isNextYear_8 : decode u_C_isNextYear.2.1 8 = .ok (.getfield 23, 3) := by decide +kernel
theorem d_C_isNextYear_11 : decode u_C_isNextYear.2.1 11 = .ok (.aload_n 0, 1) := by decide +kernel
theorem d_C_isNextYear_12 : decode u_C_isNextYear.2.1 12 = .ok (.getfield 146, 3) := by decide +kernel
theorem d_C_isNextYear_15 : decode u_C_isNextYear.2.1 15 = .ok (.iconst 1, 1) := by decide +kernel
theorem d_C_isNextYear_16 : decode u_C_isNextYear.2.1 16 = .ok (.isub, 1) := by decide +kernel
theorem d_C_isNextYear_17 : decode u_C_isNextYear.2.1 17 = .ok (.aaload, 1) := by decide +kernel
theorem d_C_isNextYear_18 : decode u_C_isNextYear.2.1 18 = .ok (.getfield 163, 3) := by decide +kernel
theorem d_C_isNextYear_21 : decode u_C_isNextYear.2.1 21 = .ok (.goto 4, 3) := by decide +kernel
theorem d_C_isNextYear_24 : decode u_C_isNextYear.2.1 24 = .ok (.iconst 0, 1) := by decide +kernel
theorem d_C_isNextYear_25 : decode u_C_isNextYear.2.1 25 = .ok (.istore_n 2, 1) := by decide +kernel
theorem d_C_isNextYear_26 : decode u_C_isNextYear.2.1 26 = .ok (.iload_n 1, 1) := by decide +kernel
theorem d_C_isNextYear_27 : decode u_C_isNextYear.2.1 27 = .ok (.iload_n 2, 1) := by decide +kernel
theorem d_C_isNextYear_28 : decode u_C_isNextYear.2.1 28 = .ok (.if_icmp .lt 13, 3) := by decide +kernel
theorem d_C_isNextYear_31 : decode u_C_isNextYear.2.1 31 = .ok (.iload_n 1, 1) := by decide +kernel
theorem d_C_isNextYear_32 : decode u_C_isNextYear.2.1 32 = .ok (.bipush 99, 2) := by decide +kernel
theorem d_C_isNextYear_34 : decode u_C_isNextYear.2.1 34 = .ok (.if_icmp .gt 7, 3) := by decide +kernel
theorem d_C_isNextYear_37 : decode u_C_isNextYear.2.1 37 = .ok (.iconst 1, 1) := by decide +kernel
theorem d_C_isNextYear_38 : decode u_C_isNextYear.2.1 38 = .ok (.goto 4, 3) := by decide +kernel
theorem d_C_isNextYear_41 : decode u_C_isNextYear.2.1 41 = .ok (.iconst 0, 1) := by decide +kernel
theorem d_C_isNextYear_42 : decode u_C_isNextYear.2.1 42 = .ok (.ireturn, 1) := by decide +kernel
theorem d_C_isPart_0 : decode u_C_isPart.2.1 0 = .ok (.iload_n 0, 1) := by decide +kernel
theorem d_C_isPart_1 : decode u_C_isPart.2.1 1 = .ok (.ifCond .lt 13, 3) := by decide +kernel
theorem d_C_isPart_4 : decode u_C_isPart.2.1 4 = .ok (.iload_n 0, 1) := by decide +kernel
theorem d_C_isPart_5 : decode u_C_isPart.2.1 5 = .ok (.bipush 8, 2) := by decide +kernel
theorem d_C_isPart_7 : decode u_C_isPart.2.1 7 = .ok (.if_icmp .ge 7, 3) := by decide +kernel
theorem d_C_isPart_10 : decode u_C_isPart.2.1 10 = .ok (.iconst 1, 1) := by decide +kernel
theorem d_C_isPart_11 : decode u_C_isPart.2.1 11 = .ok (.goto 4, 3) := by decide +kernel
theorem d_C_isPart_14 : decode u_C_isPart.2.1 14 = .ok (.iconst 0, 1) := by decide +kernel
theorem d_C_isPart_15 : decode u_C_isPart.2.1 15 = .ok (.ireturn, 1) := by decide +kernel
theorem d_C_isPlace_0 : decode u_C_isPlace.2.1 0 = .ok (.iload_n 0, 1) := by decide +kernel
theorem d_C_isPlace_1 : decode u_C_isPlace.2.1 1 = .ok (.ifCond .lt 13, 3) := by decide +kernel
theorem d_C_isPlace_4 : decode u_C_isPlace.2.1 4 = .ok (.iload_n 0, 1) := by decide +kernel
theorem d_C_isPlace_5 : decode u_C_isPlace.2.1 5 = .ok (.bipush 99, 2) := by decide +kernel
theorem d_C_isPlace_7 : decode u_C_isPlace.2.1 7 = .ok (.if_icmp .gt 7, 3) := by decide +kernel
theorem d_C_isPlace_10 : decode u_C_isPlace.2.1 10 = .ok (.iconst 1, 1) := by decide +kernel
theorem d_C_isPlace_11 : decode u_C_isPlace.2.1 11 = .ok (.goto 4, 3) := by decide +kernel
theorem d_C_isPlace_14 : decode u_C_isPlace.2.1 14 = .ok (.iconst 0, 1) := by decide +kernel
theorem d_C_isPlace_15 : decode u_C_isPlace.2.1 15 = .ok (.ireturn, 1) := by decide +kernel
theorem d_C_isHand_0 : decode u_C_isHand.2.1 0 = .ok (.iload_n 0, 1) := by decide +kernel
theorem d_C_isHand_1 : decode u_C_isHand.2.1 1 = .ok (.ifCond .lt 12, 3) := by decide +kernel
theorem d_C_isHand_4 : decode u_C_isHand.2.1 4 = .ok (.iload_n 0, 1) := by decide +kernel
theorem d_C_isHand_5 : decode u_C_isHand.2.1 5 = .ok (.iconst 4, 1) := by decide +kernel
theorem d_C_isHand_6 : decode u_C_isHand.2.1 6 = .ok (.if_icmp .ge 7, 3) := by decide +kernel
theorem d_C_isHand_9 : decode u_C_isHand.2.1 9 = .ok (.iconst 1, 1) := by decide +kernel
theorem d_C_isHand_10 : decode u_C_isHand.2.1 10 = .ok (.goto 4, 3) := by decide +kernel
theorem d_C_isHand_13 : decode u_C_isHand.2.1 13 = .ok (.iconst 0, 1) := by decide +kernel
theorem d_C_isHand_14 : decode u_C_isHand.2.1 14 = .ok (.ireturn, 1) := by decide +kernel
theorem d_C_isSheet_0 : decode u_C_isSheet.2.1 0 = .ok (.iload_n 0, 1) := by decide +kernel
theorem d_C_isSheet_1 : decode u_C_isSheet.2.1 1 = .ok (.ifCond .lt 12, 3) := by decide +kernel
theorem d_C_isSheet_4 : decode u_C_isSheet.2.1 4 = .ok (.iload_n 0, 1) := by decide +kernel
theorem d_C_isSheet_5 : decode u_C_isSheet.2.1 5 = .ok (.iconst 4, 1) := by decide +kernel
theorem d_C_isSheet_6 : decode u_C_isSheet.2.1 6 = .ok (.if_icmp .ge 7, 3) := by decide +kernel
theorem d_C_isSheet_9 : decode u_C_isSheet.2.1 9 = .ok (.iconst 1, 1) := by decide +kernel
theorem d_C_isSheet_10 : decode u_C_isSheet.2.1 10 = .ok (.goto 4, 3) := by decide +kernel
theorem d_C_isSheet_13 : decode u_C_isSheet.2.1 13 = .ok (.iconst 0, 1) := by decide +kernel
theorem d_C_isSheet_14 : decode u_C_isSheet.2.1 14 = .ok (.ireturn, 1) := by decide +kernel
theorem d_C_isForm_0 : decode u_C_isForm.2.1 0 = .ok (.iload_n 0, 1) := by decide +kernel
theorem d_C_isForm_1 : decode u_C_isForm.2.1 1 = .ok (.ifCond .lt 12, 3) := by decide +kernel
theorem d_C_isForm_4 : decode u_C_isForm.2.1 4 = .ok (.iload_n 0, 1) := by decide +kernel
theorem d_C_isForm_5 : decode u_C_isForm.2.1 5 = .ok (.iconst 2, 1) := by decide +kernel
theorem d_C_isForm_6 : decode u_C_isForm.2.1 6 = .ok (.if_icmp .gt 7, 3) := by decide +kernel
theorem d_C_isForm_9 : decode u_C_isForm.2.1 9 = .ok (.iconst 1, 1) := by decide +kernel
theorem d_C_isForm_10 : decode u_C_isForm.2.1 10 = .ok (.goto 4, 3) := by decide +kernel
theorem d_C_isForm_13 : decode u_C_isForm.2.1 13 = .ok (.iconst 0, 1) := by decide +kernel
theorem d_C_isForm_14 : decode u_C_isForm.2.1 14 = .ok (.ireturn, 1) := by decide +kernel
theorem d_C_refusalOfParts_0 : decode u_C_refusalOfParts.2.1 0 = .ok (.aload_n 0, 1) := by decide +kernel
theorem d_C_refusalOfParts_1 : decode u_C_refusalOfParts.2.1 1 = .ok (.iload_n 1, 1) := by decide +kernel
theorem d_C_refusalOfParts_2 : decode u_C_refusalOfParts.2.1 2 = .ok (.invokevirtual 214, 3) := by decide +kernel
theorem d_C_refusalOfParts_5 : decode u_C_refusalOfParts.2.1 5 = .ok (.ifCond .eq 31, 3) := by decide +kernel
theorem d_C_refusalOfParts_8 : decode u_C_refusalOfParts.2.1 8 = .ok (.aload_n 0, 1) := by decide +kernel
theorem d_C_refusalOfParts_9 : decode u_C_refusalOfParts.2.1 9 = .ok (.iload_n 2, 1) := by decide +kernel
theorem d_C_refusalOfParts_10 : decode u_C_refusalOfParts.2.1 10 = .ok (.invokevirtual 78, 3) := by decide +kernel
theorem d_C_refusalOfParts_13 : decode u_C_refusalOfParts.2.1 13 = .ok (.ifCond .eq 23, 3) := by decide +kernel
theorem d_C_refusalOfParts_16 : decode u_C_refusalOfParts.2.1 16 = .ok (.aload_n 0, 1) := by decide +kernel
theorem d_C_refusalOfParts_17 : decode u_C_refusalOfParts.2.1 17 = .ok (.iload_n 3, 1) := by decide +kernel
theorem d_C_refusalOfParts_18 : decode u_C_refusalOfParts.2.1 18 = .ok (.invokevirtual 114, 3) := by decide +kernel
theorem d_C_refusalOfParts_21 : decode u_C_refusalOfParts.2.1 21 = .ok (.ifCond .eq 15, 3) := by decide +kernel
theorem d_C_refusalOfParts_24 : decode u_C_refusalOfParts.2.1 24 = .ok (.iload 4, 2) := by decide +kernel
theorem d_C_refusalOfParts_26 : decode u_C_refusalOfParts.2.1 26 = .ok (.ifCond .lt 10, 3) := by decide +kernel
theorem d_C_refusalOfParts_29 : decode u_C_refusalOfParts.2.1 29 = .ok (.iload 4, 2) := by decide +kernel
theorem d_C_refusalOfParts_31 : decode u_C_refusalOfParts.2.1 31 = .ok (.bipush 60, 2) := by decide +kernel
theorem d_C_refusalOfParts_33 : decode u_C_refusalOfParts.2.1 33 = .ok (.if_icmp .le 6, 3) := by decide +kernel
theorem d_C_refusalOfParts_36 : decode u_C_refusalOfParts.2.1 36 = .ok (.bipush (-2), 2) := by decide +kernel
theorem d_C_refusalOfParts_38 : decode u_C_refusalOfParts.2.1 38 = .ok (.ireturn, 1) := by decide +kernel
theorem d_C_refusalOfParts_39 : decode u_C_refusalOfParts.2.1 39 = .ok (.aload_n 0, 1) := by decide +kernel
theorem d_C_refusalOfParts_40 : decode u_C_refusalOfParts.2.1 40 = .ok (.getfield 29, 3) := by decide +kernel
theorem d_C_refusalOfParts_43 : decode u_C_refusalOfParts.2.1 43 = .ok (.iload_n 1, 1) := by decide +kernel
theorem d_C_refusalOfParts_44 : decode u_C_refusalOfParts.2.1 44 = .ok (.aaload, 1) := by decide +kernel
theorem d_C_refusalOfParts_45 : decode u_C_refusalOfParts.2.1 45 = .ok (.iload_n 2, 1) := by decide +kernel
theorem d_C_refusalOfParts_46 : decode u_C_refusalOfParts.2.1 46 = .ok (.invokevirtual 223, 3) := by decide +kernel
theorem d_C_refusalOfParts_49 : decode u_C_refusalOfParts.2.1 49 = .ok (.ifCond .eq 7, 3) := by decide +kernel
theorem d_C_refusalOfParts_52 : decode u_C_refusalOfParts.2.1 52 = .ok (.iconst 0, 1) := by decide +kernel
theorem d_C_refusalOfParts_53 : decode u_C_refusalOfParts.2.1 53 = .ok (.goto 5, 3) := by decide +kernel
theorem d_C_refusalOfParts_56 : decode u_C_refusalOfParts.2.1 56 = .ok (.bipush (-3), 2) := by decide +kernel
theorem d_C_refusalOfParts_58 : decode u_C_refusalOfParts.2.1 58 = .ok (.ireturn, 1) := by decide +kernel
theorem d_C_found_0 : decode u_C_found.2.1 0 = .ok (.aload_n 0, 1) := by decide +kernel
theorem d_C_found_1 : decode u_C_found.2.1 1 = .ok (.iload_n 1, 1) := by decide +kernel
theorem d_C_found_2 : decode u_C_found.2.1 2 = .ok (.putfield 313, 3) := by decide +kernel
theorem d_C_found_5 : decode u_C_found.2.1 5 = .ok (.bipush (-10), 2) := by decide +kernel
theorem d_C_found_7 : decode u_C_found.2.1 7 = .ok (.iload_n 1, 1) := by decide +kernel
theorem d_C_found_8 : decode u_C_found.2.1 8 = .ok (.isub, 1) := by decide +kernel
theorem d_C_found_9 : decode u_C_found.2.1 9 = .ok (.ireturn, 1) := by decide +kernel
theorem d_C_findingAt_0 : decode u_C_findingAt.2.1 0 = .ok (.aload_n 0, 1) := by decide +kernel
theorem d_C_findingAt_1 : decode u_C_findingAt.2.1 1 = .ok (.invokevirtual 94, 3) := by decide +kernel
theorem d_C_findingAt_4 : decode u_C_findingAt.2.1 4 = .ok (.ifCond .eq 5, 3) := by decide +kernel
theorem d_C_findingAt_7 : decode u_C_findingAt.2.1 7 = .ok (.iconst 1, 1) := by decide +kernel
theorem d_C_findingAt_8 : decode u_C_findingAt.2.1 8 = .ok (.ireturn, 1) := by decide +kernel
theorem d_C_findingAt_9 : decode u_C_findingAt.2.1 9 = .ok (.aload_n 0, 1) := by decide +kernel
theorem d_C_findingAt_10 : decode u_C_findingAt.2.1 10 = .ok (.getfield 303, 3) := by decide +kernel
theorem d_C_findingAt_13 : decode u_C_findingAt.2.1 13 = .ok (.iload_n 1, 1) := by decide +kernel
theorem d_C_findingAt_14 : decode u_C_findingAt.2.1 14 = .ok (.if_icmp .eq 5, 3) := by decide +kernel
theorem d_C_findingAt_17 : decode u_C_findingAt.2.1 17 = .ok (.iconst 3, 1) := by decide +kernel
theorem d_C_findingAt_18 : decode u_C_findingAt.2.1 18 = .ok (.ireturn, 1) := by decide +kernel
theorem d_C_findingAt_19 : decode u_C_findingAt.2.1 19 = .ok (.iload_n 2, 1) := by decide +kernel
theorem d_C_findingAt_20 : decode u_C_findingAt.2.1 20 = .ok (.ifCond .lt 11, 3) := by decide +kernel
theorem d_C_findingAt_23 : decode u_C_findingAt.2.1 23 = .ok (.iload_n 2, 1) := by decide +kernel
theorem d_C_findingAt_24 : decode u_C_findingAt.2.1 24 = .ok (.aload_n 0, 1) := by decide +kernel
theorem d_C_findingAt_25 : decode u_C_findingAt.2.1 25 = .ok (.getfield 102, 3) := by decide +kernel
theorem d_C_findingAt_28 : decode u_C_findingAt.2.1 28 = .ok (.if_icmp .lt 7, 3) := by decide +kernel
theorem d_C_findingAt_31 : decode u_C_findingAt.2.1 31 = .ok (.iconst 2, 1) := by decide +kernel
theorem d_C_findingAt_32 : decode u_C_findingAt.2.1 32 = .ok (.goto 4, 3) := by decide +kernel
theorem d_C_findingAt_35 : decode u_C_findingAt.2.1 35 = .ok (.iconst 0, 1) := by decide +kernel
theorem d_C_findingAt_36 : decode u_C_findingAt.2.1 36 = .ok (.ireturn, 1) := by decide +kernel
theorem d_C_meanOf_0 : decode u_C_meanOf.2.1 0 = .ok (.iconst 0, 1) := by decide +kernel
theorem d_C_meanOf_1 : decode u_C_meanOf.2.1 1 = .ok (.istore_n 3, 1) := by decide +kernel
theorem d_C_meanOf_2 : decode u_C_meanOf.2.1 2 = .ok (.iconst 0, 1) := by decide +kernel
theorem d_C_meanOf_3 : decode u_C_meanOf.2.1 3 = .ok (.istore 4, 2) := by decide +kernel
theorem d_C_meanOf_5 : decode u_C_meanOf.2.1 5 = .ok (.iconst 0, 1) := by decide +kernel
theorem d_C_meanOf_6 : decode u_C_meanOf.2.1 6 = .ok (.istore 5, 2) := by decide +kernel
theorem d_C_meanOf_8 : decode u_C_meanOf.2.1 8 = .ok (.iload 5, 2) := by decide +kernel
theorem d_C_meanOf_10 : decode u_C_meanOf.2.1 10 = .ok (.aload_n 0, 1) := by decide +kernel
theorem d_C_meanOf_11 : decode u_C_meanOf.2.1 11 = .ok (.getfield 75, 3) := by decide +kernel
theorem d_C_meanOf_14 : decode u_C_meanOf.2.1 14 = .ok (.if_icmp .ge 37, 3) := by decide +kernel
theorem d_C_meanOf_17 : decode u_C_meanOf.2.1 17 = .ok (.iload_n 1, 1) := by decide +kernel
theorem d_C_meanOf_18 : decode u_C_meanOf.2.1 18 = .ok (.iload 5, 2) := by decide +kernel
theorem d_C_meanOf_20 : decode u_C_meanOf.2.1 20 = .ok (.ishr, 1) := by decide +kernel
theorem d_C_meanOf_21 : decode u_C_meanOf.2.1 21 = .ok (.iconst 1, 1) := by decide +kernel
theorem d_C_meanOf_22 : decode u_C_meanOf.2.1 22 = .ok (.iand, 1) := by decide +kernel
theorem d_C_meanOf_23 : decode u_C_meanOf.2.1 23 = .ok (.iconst 1, 1) := by decide +kernel
theorem d_C_meanOf_24 : decode u_C_meanOf.2.1 24 = .ok (.if_icmp .ne 21, 3) := by decide +kernel
theorem d_C_meanOf_27 : decode u_C_meanOf.2.1 27 = .ok (.iload_n 3, 1) := by decide +kernel
theorem d_C_meanOf_28 : decode u_C_meanOf.2.1 28 = .ok (.aload_n 0, 1) := by decide +kernel
theorem d_C_meanOf_29 : decode u_C_meanOf.2.1 29 = .ok (.getfield 11, 3) := by decide +kernel
theorem d_C_meanOf_32 : decode u_C_meanOf.2.1 32 = .ok (.iload 5, 2) := by decide +kernel
theorem d_C_meanOf_34 : decode u_C_meanOf.2.1 34 = .ok (.aaload, 1) := by decide +kernel
theorem d_C_meanOf_35 : decode u_C_meanOf.2.1 35 = .ok (.getfield 88, 3) := by decide +kernel
theorem d_C_meanOf_38 : decode u_C_meanOf.2.1 38 = .ok (.iload_n 2, 1) := by decide +kernel
theorem d_C_meanOf_39 : decode u_C_meanOf.2.1 39 = .ok (.iaload, 1) := by decide +kernel
theorem d_C_meanOf_40 : decode u_C_meanOf.2.1 40 = .ok (.iadd, 1) := by decide +kernel
theorem d_C_meanOf_41 : decode u_C_meanOf.2.1 41 = .ok (.istore_n 3, 1) := by decide +kernel
theorem d_C_meanOf_42 : decode u_C_meanOf.2.1 42 = .ok (.iinc 4 1, 3) := by decide +kernel
theorem d_C_meanOf_45 : decode u_C_meanOf.2.1 45 = .ok (.iinc 5 1, 3) := by decide +kernel
theorem d_C_meanOf_48 : decode u_C_meanOf.2.1 48 = .ok (.goto (-40), 3) := by decide +kernel
theorem d_C_meanOf_51 : decode u_C_meanOf.2.1 51 = .ok (.iload 4, 2) := by decide +kernel
theorem d_C_meanOf_53 : decode u_C_meanOf.2.1 53 = .ok (.ifCond .ne 7, 3) := by decide +kernel
theorem d_C_meanOf_56 : decode u_C_meanOf.2.1 56 = .ok (.iconst 0, 1) := by decide +kernel
theorem d_C_meanOf_57 : decode u_C_meanOf.2.1 57 = .ok (.goto 7, 3) := by decide +kernel
theorem d_C_meanOf_60 : decode u_C_meanOf.2.1 60 = .ok (.iload_n 3, 1) := by decide +kernel
theorem d_C_meanOf_61 : decode u_C_meanOf.2.1 61 = .ok (.iload 4, 2) := by decide +kernel
theorem d_C_meanOf_63 : decode u_C_meanOf.2.1 63 = .ok (.idiv, 1) := by decide +kernel
theorem d_C_meanOf_64 : decode u_C_meanOf.2.1 64 = .ok (.ireturn, 1) := by decide +kernel
theorem d_C_fillMean_0 : decode u_C_fillMean.2.1 0 = .ok (.iconst 0, 1) := by decide +kernel
theorem d_C_fillMean_1 : decode u_C_fillMean.2.1 1 = .ok (.istore_n 3, 1) := by decide +kernel
theorem d_C_fillMean_2 : decode u_C_fillMean.2.1 2 = .ok (.iload_n 3, 1) := by decide +kernel
theorem d_C_fillMean_3 : decode u_C_fillMean.2.1 3 = .ok (.bipush 8, 2) := by decide +kernel
theorem d_C_fillMean_5 : decode u_C_fillMean.2.1 5 = .ok (.if_icmp .ge 18, 3) := by decide +kernel
theorem d_C_fillMean_8 : decode u_C_fillMean.2.1 8 = .ok (.aload_n 2, 1) := by decide +kernel
theorem d_C_fillMean_9 : decode u_C_fillMean.2.1 9 = .ok (.iload_n 3, 1) := by decide +kernel
theorem d_C_fillMean_10 : decode u_C_fillMean.2.1 10 = .ok (.aload_n 0, 1) := by decide +kernel
theorem d_C_fillMean_11 : decode u_C_fillMean.2.1 11 = .ok (.iload_n 1, 1) := by decide +kernel
theorem d_C_fillMean_12 : decode u_C_fillMean.2.1 12 = .ok (.iload_n 3, 1) := by decide +kernel
theorem d_C_fillMean_13 : decode u_C_fillMean.2.1 13 = .ok (.invokevirtual 117, 3) := by decide +kernel
theorem d_C_fillMean_16 : decode u_C_fillMean.2.1 16 = .ok (.iastore, 1) := by decide +kernel
theorem d_C_fillMean_17 : decode u_C_fillMean.2.1 17 = .ok (.iinc 3 1, 3) := by decide +kernel
theorem d_C_fillMean_20 : decode u_C_fillMean.2.1 20 = .ok (.goto (-18), 3) := by decide +kernel
theorem d_C_fillMean_23 : decode u_C_fillMean.2.1 23 = .ok (.return_, 1) := by decide +kernel
theorem d_C_drawnAt_0 : decode u_C_drawnAt.2.1 0 = .ok (.iload_n 1, 1) := by decide +kernel
theorem d_C_drawnAt_1 : decode u_C_drawnAt.2.1 1 = .ok (.sipush (-9999), 3) := by decide +kernel
theorem d_C_drawnAt_4 : decode u_C_drawnAt.2.1 4 = .ok (.if_icmp .eq 10, 3) := by decide +kernel
theorem d_C_drawnAt_7 : decode u_C_drawnAt.2.1 7 = .ok (.iload_n 2, 1) := by decide +kernel
theorem d_C_drawnAt_8 : decode u_C_drawnAt.2.1 8 = .ok (.sipush (-9999), 3) := by decide +kernel
theorem d_C_drawnAt_11 : decode u_C_drawnAt.2.1 11 = .ok (.if_icmp .ne 7, 3) := by decide +kernel
theorem d_C_drawnAt_14 : decode u_C_drawnAt.2.1 14 = .ok (.sipush (-9999), 3) := by decide +kernel
theorem d_C_drawnAt_17 : decode u_C_drawnAt.2.1 17 = .ok (.ireturn, 1) := by decide +kernel
theorem d_C_drawnAt_18 : decode u_C_drawnAt.2.1 18 = .ok (.iload_n 0, 1) := by decide +kernel
theorem d_C_drawnAt_19 : decode u_C_drawnAt.2.1 19 = .ok (.iload_n 1, 1) := by decide +kernel
theorem d_C_drawnAt_20 : decode u_C_drawnAt.2.1 20 = .ok (.iload_n 0, 1) := by decide +kernel
theorem d_C_drawnAt_21 : decode u_C_drawnAt.2.1 21 = .ok (.isub, 1) := by decide +kernel
theorem d_C_drawnAt_22 : decode u_C_drawnAt.2.1 22 = .ok (.iload_n 2, 1) := by decide +kernel
theorem d_C_drawnAt_23 : decode u_C_drawnAt.2.1 23 = .ok (.imul, 1) := by decide +kernel
theorem d_C_drawnAt_24 : decode u_C_drawnAt.2.1 24 = .ok (.bipush 10, 2) := by decide +kernel
theorem d_C_drawnAt_26 : decode u_C_drawnAt.2.1 26 = .ok (.idiv, 1) := by decide +kernel
theorem d_C_drawnAt_27 : decode u_C_drawnAt.2.1 27 = .ok (.iadd, 1) := by decide +kernel
theorem d_C_drawnAt_28 : decode u_C_drawnAt.2.1 28 = .ok (.istore_n 3, 1) := by decide +kernel
theorem d_C_drawnAt_29 : decode u_C_drawnAt.2.1 29 = .ok (.sipush (-7000), 3) := by decide +kernel
theorem d_C_drawnAt_32 : decode u_C_drawnAt.2.1 32 = .ok (.sipush 7000, 3) := by decide +kernel
theorem d_C_drawnAt_35 : decode u_C_drawnAt.2.1 35 = .ok (.iload_n 3, 1) := by decide +kernel
theorem d_C_drawnAt_36 : decode u_C_drawnAt.2.1 36 = .ok (.invokestatic 105, 3) := by decide +kernel
theorem d_C_drawnAt_39 : decode u_C_drawnAt.2.1 39 = .ok (.invokestatic 340, 3) := by decide +kernel
theorem d_C_drawnAt_42 : decode u_C_drawnAt.2.1 42 = .ok (.ireturn, 1) := by decide +kernel
theorem d_C_outline_0 : decode u_C_outline.2.1 0 = .ok (.iconst 0, 1) := by decide +kernel
theorem d_C_outline_1 : decode u_C_outline.2.1 1 = .ok (.istore_n 3, 1) := by decide +kernel
theorem d_C_outline_2 : decode u_C_outline.2.1 2 = .ok (.iload_n 3, 1) := by decide +kernel
theorem d_C_outline_3 : decode u_C_outline.2.1 3 = .ok (.bipush 8, 2) := by decide +kernel
theorem d_C_outline_5 : decode u_C_outline.2.1 5 = .ok (.if_icmp .ge 33, 3) := by decide +kernel
theorem d_C_outline_8 : decode u_C_outline.2.1 8 = .ok (.aload_n 0, 1) := by decide +kernel
theorem d_C_outline_9 : decode u_C_outline.2.1 9 = .ok (.getfield 185, 3) := by decide +kernel
theorem d_C_outline_12 : decode u_C_outline.2.1 12 = .ok (.iload_n 3, 1) := by decide +kernel
theorem d_C_outline_13 : decode u_C_outline.2.1 13 = .ok (.aload_n 0, 1) := by decide +kernel
theorem d_C_outline_14 : decode u_C_outline.2.1 14 = .ok (.getfield 149, 3) := by decide +kernel
theorem d_C_outline_17 : decode u_C_outline.2.1 17 = .ok (.iload_n 3, 1) := by decide +kernel
theorem d_C_outline_18 : decode u_C_outline.2.1 18 = .ok (.iaload, 1) := by decide +kernel
theorem d_C_outline_19 : decode u_C_outline.2.1 19 = .ok (.aload_n 1, 1) := by decide +kernel
theorem d_C_outline_20 : decode u_C_outline.2.1 20 = .ok (.iload_n 3, 1) := by decide +kernel
theorem d_C_outline_21 : decode u_C_outline.2.1 21 = .ok (.iaload, 1) := by decide +kernel
theorem d_C_outline_22 : decode u_C_outline.2.1 22 = .ok (.aload_n 2, 1) := by decide +kernel
theorem d_C_outline_23 : decode u_C_outline.2.1 23 = .ok (.getfield 136, 3) := by decide +kernel
theorem d_C_outline_26 : decode u_C_outline.2.1 26 = .ok (.iload_n 3, 1) := by decide +kernel
theorem d_C_outline_27 : decode u_C_outline.2.1 27 = .ok (.iaload, 1) := by decide +kernel
theorem d_C_outline_28 : decode u_C_outline.2.1 28 = .ok (.invokestatic 139, 3) := by decide +kernel
theorem d_C_outline_31 : decode u_C_outline.2.1 31 = .ok (.iastore, 1) := by decide +kernel
theorem d_C_outline_32 : decode u_C_outline.2.1 32 = .ok (.iinc 3 1, 3) := by decide +kernel
theorem d_C_outline_35 : decode u_C_outline.2.1 35 = .ok (.goto (-33), 3) := by decide +kernel
theorem d_C_outline_38 : decode u_C_outline.2.1 38 = .ok (.return_, 1) := by decide +kernel
theorem d_C_kindOf_0 : decode u_C_kindOf.2.1 0 = .ok (.iconst 1, 1) := by decide +kernel
theorem d_C_kindOf_1 : decode u_C_kindOf.2.1 1 = .ok (.istore_n 3, 1) := by decide +kernel
theorem d_C_kindOf_2 : decode u_C_kindOf.2.1 2 = .ok (.iconst 0, 1) := by decide +kernel
theorem d_C_kindOf_3 : decode u_C_kindOf.2.1 3 = .ok (.istore 4, 2) := by decide +kernel
theorem d_C_kindOf_5 : decode u_C_kindOf.2.1 5 = .ok (.iconst 0, 1) := by decide +kernel
theorem d_C_kindOf_6 : decode u_C_kindOf.2.1 6 = .ok (.istore 5, 2) := by decide +kernel
theorem d_C_kindOf_8 : decode u_C_kindOf.2.1 8 = .ok (.iload 5, 2) := by decide +kernel
theorem d_C_kindOf_10 : decode u_C_kindOf.2.1 10 = .ok (.bipush 8, 2) := by decide +kernel
theorem d_C_kindOf_12 : decode u_C_kindOf.2.1 12 = .ok (.if_icmp .ge 63, 3) := by decide +kernel
theorem d_C_kindOf_15 : decode u_C_kindOf.2.1 15 = .ok (.aload_n 0, 1) := by decide +kernel
theorem d_C_kindOf_16 : decode u_C_kindOf.2.1 16 = .ok (.iload 5, 2) := by decide +kernel
theorem d_C_kindOf_18 : decode u_C_kindOf.2.1 18 = .ok (.invokevirtual 267, 3) := by decide +kernel
theorem d_C_kindOf_21 : decode u_C_kindOf.2.1 21 = .ok (.ifCond .ne 5, 3) := by decide +kernel
theorem d_C_kindOf_24 : decode u_C_kindOf.2.1 24 = .ok (.iconst 3, 1) := by decide +kernel
theorem d_C_kindOf_25 : decode u_C_kindOf.2.1 25 = .ok (.ireturn, 1) := by decide +kernel
theorem d_C_kindOf_26 : decode u_C_kindOf.2.1 26 = .ok (.aload_n 0, 1) := by decide +kernel
theorem d_C_kindOf_27 : decode u_C_kindOf.2.1 27 = .ok (.getfield 185, 3) := by decide +kernel
theorem d_C_kindOf_30 : decode u_C_kindOf.2.1 30 = .ok (.iload 5, 2) := by decide +kernel
theorem d_C_kindOf_32 : decode u_C_kindOf.2.1 32 = .ok (.iaload, 1) := by decide +kernel
theorem d_C_kindOf_33 : decode u_C_kindOf.2.1 33 = .ok (.aload_n 1, 1) := by decide +kernel
theorem d_C_kindOf_34 : decode u_C_kindOf.2.1 34 = .ok (.iload 5, 2) := by decide +kernel
theorem d_C_kindOf_36 : decode u_C_kindOf.2.1 36 = .ok (.iaload, 1) := by decide +kernel
theorem d_C_kindOf_37 : decode u_C_kindOf.2.1 37 = .ok (.if_icmp .eq 5, 3) := by decide +kernel
theorem d_C_kindOf_40 : decode u_C_kindOf.2.1 40 = .ok (.iconst 0, 1) := by decide +kernel
theorem d_C_kindOf_41 : decode u_C_kindOf.2.1 41 = .ok (.istore_n 3, 1) := by decide +kernel
theorem d_C_kindOf_42 : decode u_C_kindOf.2.1 42 = .ok (.aload_n 1, 1) := by decide +kernel
theorem d_C_kindOf_43 : decode u_C_kindOf.2.1 43 = .ok (.iload 5, 2) := by decide +kernel
theorem d_C_kindOf_45 : decode u_C_kindOf.2.1 45 = .ok (.iaload, 1) := by decide +kernel
theorem d_C_kindOf_46 : decode u_C_kindOf.2.1 46 = .ok (.aload_n 0, 1) := by decide +kernel
theorem d_C_kindOf_47 : decode u_C_kindOf.2.1 47 = .ok (.getfield 149, 3) := by decide +kernel
theorem d_C_kindOf_50 : decode u_C_kindOf.2.1 50 = .ok (.iload 5, 2) := by decide +kernel
theorem d_C_kindOf_52 : decode u_C_kindOf.2.1 52 = .ok (.iaload, 1) := by decide +kernel
theorem d_C_kindOf_53 : decode u_C_kindOf.2.1 53 = .ok (.if_icmp .eq 16, 3) := by decide +kernel
theorem d_C_kindOf_56 : decode u_C_kindOf.2.1 56 = .ok (.aload_n 2, 1) := by decide +kernel
theorem d_C_kindOf_57 : decode u_C_kindOf.2.1 57 = .ok (.getfield 136, 3) := by decide +kernel
theorem d_C_kindOf_60 : decode u_C_kindOf.2.1 60 = .ok (.iload 5, 2) := by decide +kernel
theorem d_C_kindOf_62 : decode u_C_kindOf.2.1 62 = .ok (.iaload, 1) := by decide +kernel
theorem d_C_kindOf_63 : decode u_C_kindOf.2.1 63 = .ok (.ifCond .ge 6, 3) := by decide +kernel
theorem d_C_kindOf_66 : decode u_C_kindOf.2.1 66 = .ok (.iconst 1, 1) := by decide +kernel
theorem d_C_kindOf_67 : decode u_C_kindOf.2.1 67 = .ok (.istore 4, 2) := by decide +kernel
theorem d_C_kindOf_69 : decode u_C_kindOf.2.1 69 = .ok (.iinc 5 1, 3) := by decide +kernel
theorem d_C_kindOf_72 : decode u_C_kindOf.2.1 72 = .ok (.goto (-64), 3) := by decide +kernel
theorem d_C_kindOf_75 : decode u_C_kindOf.2.1 75 = .ok (.iload_n 3, 1) := by decide +kernel
theorem d_C_kindOf_76 : decode u_C_kindOf.2.1 76 = .ok (.ifCond .eq 5, 3) := by decide +kernel
theorem d_C_kindOf_79 : decode u_C_kindOf.2.1 79 = .ok (.iconst 0, 1) := by decide +kernel
theorem d_C_kindOf_80 : decode u_C_kindOf.2.1 80 = .ok (.ireturn, 1) := by decide +kernel
theorem d_C_kindOf_81 : decode u_C_kindOf.2.1 81 = .ok (.iload 4, 2) := by decide +kernel
theorem d_C_kindOf_83 : decode u_C_kindOf.2.1 83 = .ok (.ifCond .eq 7, 3) := by decide +kernel
theorem d_C_kindOf_86 : decode u_C_kindOf.2.1 86 = .ok (.iconst 2, 1) := by decide +kernel
theorem d_C_kindOf_87 : decode u_C_kindOf.2.1 87 = .ok (.goto 4, 3) := by decide +kernel
theorem d_C_kindOf_90 : decode u_C_kindOf.2.1 90 = .ok (.iconst 1, 1) := by decide +kernel
theorem d_C_kindOf_91 : decode u_C_kindOf.2.1 91 = .ok (.ireturn, 1) := by decide +kernel
theorem d_C_monsters_0 : decode u_C_monsters.2.1 0 = .ok (.iconst 0, 1) := by decide +kernel
theorem d_C_monsters_1 : decode u_C_monsters.2.1 1 = .ok (.istore_n 1, 1) := by decide +kernel
theorem d_C_monsters_2 : decode u_C_monsters.2.1 2 = .ok (.iconst 0, 1) := by decide +kernel
theorem d_C_monsters_3 : decode u_C_monsters.2.1 3 = .ok (.istore_n 2, 1) := by decide +kernel
theorem d_C_monsters_4 : decode u_C_monsters.2.1 4 = .ok (.iload_n 2, 1) := by decide +kernel
theorem d_C_monsters_5 : decode u_C_monsters.2.1 5 = .ok (.aload_n 0, 1) := by decide +kernel
theorem d_C_monsters_6 : decode u_C_monsters.2.1 6 = .ok (.getfield 146, 3) := by decide +kernel
theorem d_C_monsters_9 : decode u_C_monsters.2.1 9 = .ok (.if_icmp .ge 28, 3) := by decide +kernel
theorem d_C_monsters_12 : decode u_C_monsters.2.1 12 = .ok (.aload_n 0, 1) := by decide +kernel
theorem d_C_monsters_13 : decode u_C_monsters.2.1 13 = .ok (.getfield 23, 3) := by decide +kernel
theorem d_C_monsters_16 : decode u_C_monsters.2.1 16 = .ok (.iload_n 2, 1) := by decide +kernel
theorem d_C_monsters_17 : decode u_C_monsters.2.1 17 = .ok (.aaload, 1) := by decide +kernel
theorem d_C_monsters_18 : decode u_C_monsters.2.1 18 = .ok (.aload_n 0, 1) := by decide +kernel
theorem d_C_monsters_19 : decode u_C_monsters.2.1 19 = .ok (.getfield 39, 3) := by decide +kernel
theorem d_C_monsters_22 : decode u_C_monsters.2.1 22 = .ok (.invokevirtual 188, 3) := by decide +kernel
theorem d_C_monsters_25 : decode u_C_monsters.2.1 25 = .ok (.ifCond .eq 6, 3) := by decide +kernel
theorem d_C_monsters_28 : decode u_C_monsters.2.1 28 = .ok (.iinc 1 1, 3) := by decide +kernel
theorem d_C_monsters_31 : decode u_C_monsters.2.1 31 = .ok (.iinc 2 1, 3) := by decide +kernel
theorem d_C_monsters_34 : decode u_C_monsters.2.1 34 = .ok (.goto (-30), 3) := by decide +kernel
theorem d_C_monsters_37 : decode u_C_monsters.2.1 37 = .ok (.iload_n 1, 1) := by decide +kernel
theorem d_C_monsters_38 : decode u_C_monsters.2.1 38 = .ok (.ireturn, 1) := by decide +kernel
theorem d_C_fromOf_0 : decode u_C_fromOf.2.1 0 = .ok (.iconst (-1), 1) := by decide +kernel
theorem d_C_fromOf_1 : decode u_C_fromOf.2.1 1 = .ok (.istore_n 2, 1) := by decide +kernel
theorem d_C_fromOf_2 : decode u_C_fromOf.2.1 2 = .ok (.iconst 0, 1) := by decide +kernel
theorem d_C_fromOf_3 : decode u_C_fromOf.2.1 3 = .ok (.istore_n 3, 1) := by decide +kernel
theorem d_C_fromOf_4 : decode u_C_fromOf.2.1 4 = .ok (.iconst 0, 1) := by decide +kernel
theorem d_C_fromOf_5 : decode u_C_fromOf.2.1 5 = .ok (.istore 4, 2) := by decide +kernel
theorem d_C_fromOf_7 : decode u_C_fromOf.2.1 7 = .ok (.iload 4, 2) := by decide +kernel
theorem d_C_fromOf_9 : decode u_C_fromOf.2.1 9 = .ok (.iload_n 1, 1) := by decide +kernel
theorem d_C_fromOf_10 : decode u_C_fromOf.2.1 10 = .ok (.if_icmp .ge 70, 3) := by decide +kernel
theorem d_C_fromOf_13 : decode u_C_fromOf.2.1 13 = .ok (.aload_n 0, 1) := by decide +kernel
theorem d_C_fromOf_14 : decode u_C_fromOf.2.1 14 = .ok (.getfield 23, 3) := by decide +kernel
theorem d_C_fromOf_17 : decode u_C_fromOf.2.1 17 = .ok (.iload 4, 2) := by decide +kernel
theorem d_C_fromOf_19 : decode u_C_fromOf.2.1 19 = .ok (.aaload, 1) := by decide +kernel
theorem d_C_fromOf_20 : decode u_C_fromOf.2.1 20 = .ok (.getfield 160, 3) := by decide +kernel
theorem d_C_fromOf_23 : decode u_C_fromOf.2.1 23 = .ok (.aload_n 0, 1) := by decide +kernel
theorem d_C_fromOf_24 : decode u_C_fromOf.2.1 24 = .ok (.getfield 23, 3) := by decide +kernel
theorem d_C_fromOf_27 : decode u_C_fromOf.2.1 27 = .ok (.iload_n 1, 1) := by decide +kernel
theorem d_C_fromOf_28 : decode u_C_fromOf.2.1 28 = .ok (.aaload, 1) := by decide +kernel
theorem d_C_fromOf_29 : decode u_C_fromOf.2.1 29 = .ok (.getfield 160, 3) := by decide +kernel
theorem d_C_fromOf_32 : decode u_C_fromOf.2.1 32 = .ok (.if_icmp .ne 42, 3) := by decide +kernel
theorem d_C_fromOf_35 : decode u_C_fromOf.2.1 35 = .ok (.aload_n 0, 1) := by decide +kernel
theorem d_C_fromOf_36 : decode u_C_fromOf.2.1 36 = .ok (.getfield 23, 3) := by decide +kernel
theorem d_C_fromOf_39 : decode u_C_fromOf.2.1 39 = .ok (.iload 4, 2) := by decide +kernel
theorem d_C_fromOf_41 : decode u_C_fromOf.2.1 41 = .ok (.aaload, 1) := by decide +kernel
theorem d_C_fromOf_42 : decode u_C_fromOf.2.1 42 = .ok (.aload_n 0, 1) := by decide +kernel
theorem d_C_fromOf_43 : decode u_C_fromOf.2.1 43 = .ok (.getfield 23, 3) := by decide +kernel
theorem d_C_fromOf_46 : decode u_C_fromOf.2.1 46 = .ok (.iload_n 1, 1) := by decide +kernel
theorem d_C_fromOf_47 : decode u_C_fromOf.2.1 47 = .ok (.aaload, 1) := by decide +kernel
theorem d_C_fromOf_48 : decode u_C_fromOf.2.1 48 = .ok (.aload_n 0, 1) := by decide +kernel
theorem d_C_fromOf_49 : decode u_C_fromOf.2.1 49 = .ok (.getfield 46, 3) := by decide +kernel
theorem d_C_fromOf_52 : decode u_C_fromOf.2.1 52 = .ok (.invokevirtual 201, 3) := by decide +kernel
theorem d_C_fromOf_55 : decode u_C_fromOf.2.1 55 = .ok (.istore 5, 2) := by decide +kernel
theorem d_C_fromOf_57 : decode u_C_fromOf.2.1 57 = .ok (.iload_n 2, 1) := by decide +kernel
theorem d_C_fromOf_58 : decode u_C_fromOf.2.1 58 = .ok (.iconst (-1), 1) := by decide +kernel
theorem d_C_fromOf_59 : decode u_C_fromOf.2.1 59 = .ok (.if_icmp .eq 9, 3) := by decide +kernel
theorem d_C_fromOf_62 : decode u_C_fromOf.2.1 62 = .ok (.iload 5, 2) := by decide +kernel
theorem d_C_fromOf_64 : decode u_C_fromOf.2.1 64 = .ok (.iload_n 3, 1) := by decide +kernel
theorem d_C_fromOf_65 : decode u_C_fromOf.2.1 65 = .ok (.if_icmp .ge 9, 3) := by decide +kernel
theorem d_C_fromOf_68 : decode u_C_fromOf.2.1 68 = .ok (.iload 4, 2) := by decide +kernel
theorem d_C_fromOf_70 : decode u_C_fromOf.2.1 70 = .ok (.istore_n 2, 1) := by decide +kernel
theorem d_C_fromOf_71 : decode u_C_fromOf.2.1 71 = .ok (.iload 5, 2) := by decide +kernel
theorem d_C_fromOf_73 : decode u_C_fromOf.2.1 73 = .ok (.istore_n 3, 1) := by decide +kernel
theorem d_C_fromOf_74 : decode u_C_fromOf.2.1 74 = .ok (.iinc 4 1, 3) := by decide +kernel
theorem d_C_fromOf_77 : decode u_C_fromOf.2.1 77 = .ok (.goto (-70), 3) := by decide +kernel
theorem d_C_fromOf_80 : decode u_C_fromOf.2.1 80 = .ok (.iload_n 2, 1) := by decide +kernel
theorem d_C_fromOf_81 : decode u_C_fromOf.2.1 81 = .ok (.ireturn, 1) := by decide +kernel
theorem d_C_agesOf_0 : decode u_C_agesOf.2.1 0 = .ok (.iconst 0, 1) := by decide +kernel
theorem d_C_agesOf_1 : decode u_C_agesOf.2.1 1 = .ok (.istore_n 2, 1) := by decide +kernel
theorem d_C_agesOf_2 : decode u_C_agesOf.2.1 2 = .ok (.aload_n 0, 1) := by decide +kernel
theorem d_C_agesOf_3 : decode u_C_agesOf.2.1 3 = .ok (.iload_n 1, 1) := by decide +kernel
theorem d_C_agesOf_4 : decode u_C_agesOf.2.1 4 = .ok (.invokevirtual 191, 3) := by decide +kernel
theorem d_C_agesOf_7 : decode u_C_agesOf.2.1 7 = .ok (.istore_n 3, 1) := by decide +kernel
theorem d_C_agesOf_8 : decode u_C_agesOf.2.1 8 = .ok (.iload_n 3, 1) := by decide +kernel
theorem d_C_agesOf_9 : decode u_C_agesOf.2.1 9 = .ok (.iconst (-1), 1) := by decide +kernel
theorem d_C_agesOf_10 : decode u_C_agesOf.2.1 10 = .ok (.if_icmp .eq 21, 3) := by decide +kernel
theorem d_C_agesOf_13 : decode u_C_agesOf.2.1 13 = .ok (.iload_n 2, 1) := by decide +kernel
theorem d_C_agesOf_14 : decode u_C_agesOf.2.1 14 = .ok (.bipush 30, 2) := by decide +kernel
theorem d_C_agesOf_16 : decode u_C_agesOf.2.1 16 = .ok (.if_icmp .ge 15, 3) := by decide +kernel
theorem d_C_agesOf_19 : decode u_C_agesOf.2.1 19 = .ok (.iinc 2 1, 3) := by decide +kernel
theorem d_C_agesOf_22 : decode u_C_agesOf.2.1 22 = .ok (.aload_n 0, 1) := by decide +kernel
theorem d_C_agesOf_23 : decode u_C_agesOf.2.1 23 = .ok (.iload_n 3, 1) := by decide +kernel
theorem d_C_agesOf_24 : decode u_C_agesOf.2.1 24 = .ok (.invokevirtual 191, 3) := by decide +kernel
theorem d_C_agesOf_27 : decode u_C_agesOf.2.1 27 = .ok (.istore_n 3, 1) := by decide +kernel
theorem d_C_agesOf_28 : decode u_C_agesOf.2.1 28 = .ok (.goto (-20), 3) := by decide +kernel
theorem d_C_agesOf_31 : decode u_C_agesOf.2.1 31 = .ok (.iload_n 2, 1) := by decide +kernel
theorem d_C_agesOf_32 : decode u_C_agesOf.2.1 32 = .ok (.ireturn, 1) := by decide +kernel
theorem d_C_whoseIs_0 : decode u_C_whoseIs.2.1 0 = .ok (.aload_n 1, 1) := by decide +kernel
theorem d_C_whoseIs_1 : decode u_C_whoseIs.2.1 1 = .ok (.getfield 149, 3) := by decide +kernel
theorem d_C_whoseIs_4 : decode u_C_whoseIs.2.1 4 = .ok (.iconst 0, 1) := by decide +kernel
theorem d_C_whoseIs_5 : decode u_C_whoseIs.2.1 5 = .ok (.aload_n 0, 1) := by decide +kernel
theorem d_C_whoseIs_6 : decode u_C_whoseIs.2.1 6 = .ok (.getfield 50, 3) := by decide +kernel
theorem d_C_whoseIs_9 : decode u_C_whoseIs.2.1 9 = .ok (.getfield 149, 3) := by decide +kernel
theorem d_C_whoseIs_12 : decode u_C_whoseIs.2.1 12 = .ok (.iconst 0, 1) := by decide +kernel
theorem d_C_whoseIs_13 : decode u_C_whoseIs.2.1 13 = .ok (.bipush 8, 2) := by decide +kernel
theorem d_C_whoseIs_15 : decode u_C_whoseIs.2.1 15 = .ok (.invokestatic 179, 3) := by decide +kernel
theorem d_C_whoseIs_18 : decode u_C_whoseIs.2.1 18 = .ok (.iconst 0, 1) := by decide +kernel
theorem d_C_whoseIs_19 : decode u_C_whoseIs.2.1 19 = .ok (.istore_n 2, 1) := by decide +kernel
theorem d_C_whoseIs_20 : decode u_C_whoseIs.2.1 20 = .ok (.iconst 0, 1) := by decide +kernel
theorem d_C_whoseIs_21 : decode u_C_whoseIs.2.1 21 = .ok (.istore_n 3, 1) := by decide +kernel
theorem d_C_whoseIs_22 : decode u_C_whoseIs.2.1 22 = .ok (.iconst 0, 1) := by decide +kernel
theorem d_C_whoseIs_23 : decode u_C_whoseIs.2.1 23 = .ok (.istore 4, 2) := by decide +kernel
theorem d_C_whoseIs_25 : decode u_C_whoseIs.2.1 25 = .ok (.iload 4, 2) := by decide +kernel
theorem d_C_whoseIs_27 : decode u_C_whoseIs.2.1 27 = .ok (.iconst 4, 1) := by decide +kernel
theorem d_C_whoseIs_28 : decode u_C_whoseIs.2.1 28 = .ok (.if_icmp .ge 66, 3) := by decide +kernel
theorem d_C_whoseIs_31 : decode u_C_whoseIs.2.1 31 = .ok (.aload_n 0, 1) := by decide +kernel
theorem d_C_whoseIs_32 : decode u_C_whoseIs.2.1 32 = .ok (.getfield 50, 3) := by decide +kernel
theorem d_C_whoseIs_35 : decode u_C_whoseIs.2.1 35 = .ok (.aload_n 0, 1) := by decide +kernel
theorem d_C_whoseIs_36 : decode u_C_whoseIs.2.1 36 = .ok (.getfield 11, 3) := by decide +kernel
theorem d_C_whoseIs_39 : decode u_C_whoseIs.2.1 39 = .ok (.aload_n 1, 1) := by decide +kernel
theorem d_C_whoseIs_40 : decode u_C_whoseIs.2.1 40 = .ok (.getfield 160, 3) := by decide +kernel
theorem d_C_whoseIs_43 : decode u_C_whoseIs.2.1 43 = .ok (.aaload, 1) := by decide +kernel
theorem d_C_whoseIs_44 : decode u_C_whoseIs.2.1 44 = .ok (.getfield 88, 3) := by decide +kernel
theorem d_C_whoseIs_47 : decode u_C_whoseIs.2.1 47 = .ok (.aload_n 0, 1) := by decide +kernel
theorem d_C_whoseIs_48 : decode u_C_whoseIs.2.1 48 = .ok (.getfield 17, 3) := by decide +kernel
theorem d_C_whoseIs_51 : decode u_C_whoseIs.2.1 51 = .ok (.iload 4, 2) := by decide +kernel
theorem d_C_whoseIs_53 : decode u_C_whoseIs.2.1 53 = .ok (.aaload, 1) := by decide +kernel
theorem d_C_whoseIs_54 : decode u_C_whoseIs.2.1 54 = .ok (.invokestatic 156, 3) := by decide +kernel
theorem d_C_whoseIs_57 : decode u_C_whoseIs.2.1 57 = .ok (.aload_n 0, 1) := by decide +kernel
theorem d_C_whoseIs_58 : decode u_C_whoseIs.2.1 58 = .ok (.getfield 50, 3) := by decide +kernel
theorem d_C_whoseIs_61 : decode u_C_whoseIs.2.1 61 = .ok (.aload_n 1, 1) := by decide +kernel
theorem d_C_whoseIs_62 : decode u_C_whoseIs.2.1 62 = .ok (.aload_n 0, 1) := by decide +kernel
theorem d_C_whoseIs_63 : decode u_C_whoseIs.2.1 63 = .ok (.getfield 46, 3) := by decide +kernel
theorem d_C_whoseIs_66 : decode u_C_whoseIs.2.1 66 = .ok (.invokevirtual 201, 3) := by decide +kernel
theorem d_C_whoseIs_69 : decode u_C_whoseIs.2.1 69 = .ok (.istore 5, 2) := by decide +kernel
theorem d_C_whoseIs_71 : decode u_C_whoseIs.2.1 71 = .ok (.iload 4, 2) := by decide +kernel
theorem d_C_whoseIs_73 : decode u_C_whoseIs.2.1 73 = .ok (.ifCond .eq 9, 3) := by decide +kernel
theorem d_C_whoseIs_76 : decode u_C_whoseIs.2.1 76 = .ok (.iload 5, 2) := by decide +kernel
theorem d_C_whoseIs_78 : decode u_C_whoseIs.2.1 78 = .ok (.iload_n 3, 1) := by decide +kernel
theorem d_C_whoseIs_79 : decode u_C_whoseIs.2.1 79 = .ok (.if_icmp .ge 9, 3) := by decide +kernel
theorem d_C_whoseIs_82 : decode u_C_whoseIs.2.1 82 = .ok (.iload 4, 2) := by decide +kernel
theorem d_C_whoseIs_84 : decode u_C_whoseIs.2.1 84 = .ok (.istore_n 2, 1) := by decide +kernel
theorem d_C_whoseIs_85 : decode u_C_whoseIs.2.1 85 = .ok (.iload 5, 2) := by decide +kernel
theorem d_C_whoseIs_87 : decode u_C_whoseIs.2.1 87 = .ok (.istore_n 3, 1) := by decide +kernel
theorem d_C_whoseIs_88 : decode u_C_whoseIs.2.1 88 = .ok (.iinc 4 1, 3) := by decide +kernel
theorem d_C_whoseIs_91 : decode u_C_whoseIs.2.1 91 = .ok (.goto (-66), 3) := by decide +kernel
theorem d_C_whoseIs_94 : decode u_C_whoseIs.2.1 94 = .ok (.iload_n 2, 1) := by decide +kernel
theorem d_C_whoseIs_95 : decode u_C_whoseIs.2.1 95 = .ok (.ireturn, 1) := by decide +kernel
theorem d_C_nameFor_0 : decode u_C_nameFor.2.1 0 = .ok (.iconst (-1), 1) := by decide +kernel
theorem d_C_nameFor_1 : decode u_C_nameFor.2.1 1 = .ok (.istore_n 3, 1) := by decide +kernel
theorem d_C_nameFor_2 : decode u_C_nameFor.2.1 2 = .ok (.aload_n 2, 1) := by decide +kernel
theorem d_C_nameFor_3 : decode u_C_nameFor.2.1 3 = .ok (.aload_n 0, 1) := by decide +kernel
theorem d_C_nameFor_4 : decode u_C_nameFor.2.1 4 = .ok (.getfield 39, 3) := by decide +kernel
theorem d_C_nameFor_7 : decode u_C_nameFor.2.1 7 = .ok (.invokevirtual 188, 3) := by decide +kernel
theorem d_C_nameFor_10 : decode u_C_nameFor.2.1 10 = .ok (.ifCond .eq 5, 3) := by decide +kernel
theorem d_C_nameFor_13 : decode u_C_nameFor.2.1 13 = .ok (.iload_n 3, 1) := by decide +kernel
theorem d_C_nameFor_14 : decode u_C_nameFor.2.1 14 = .ok (.ireturn, 1) := by decide +kernel
theorem d_C_nameFor_15 : decode u_C_nameFor.2.1 15 = .ok (.aload_n 0, 1) := by decide +kernel
theorem d_C_nameFor_16 : decode u_C_nameFor.2.1 16 = .ok (.getfield 68, 3) := by decide +kernel
theorem d_C_nameFor_19 : decode u_C_nameFor.2.1 19 = .ok (.lconst 0, 1) := by decide +kernel
theorem d_C_nameFor_20 : decode u_C_nameFor.2.1 20 = .ok (.lconst 1, 1) := by decide +kernel
theorem d_C_nameFor_21 : decode u_C_nameFor.2.1 21 = .ok (.invokevirtual 270, 3) := by decide +kernel
theorem d_C_nameFor_24 : decode u_C_nameFor.2.1 24 = .ok (.iconst 0, 1) := by decide +kernel
theorem d_C_nameFor_25 : decode u_C_nameFor.2.1 25 = .ok (.istore 4, 2) := by decide +kernel
theorem d_C_nameFor_27 : decode u_C_nameFor.2.1 27 = .ok (.iload 4, 2) := by decide +kernel
theorem d_C_nameFor_29 : decode u_C_nameFor.2.1 29 = .ok (.aload_n 0, 1) := by decide +kernel
theorem d_C_nameFor_30 : decode u_C_nameFor.2.1 30 = .ok (.getfield 75, 3) := by decide +kernel
theorem d_C_nameFor_33 : decode u_C_nameFor.2.1 33 = .ok (.if_icmp .ge 72, 3) := by decide +kernel
theorem d_C_nameFor_36 : decode u_C_nameFor.2.1 36 = .ok (.aload_n 1, 1) := by decide +kernel
theorem d_C_nameFor_37 : decode u_C_nameFor.2.1 37 = .ok (.iload 4, 2) := by decide +kernel
theorem d_C_nameFor_39 : decode u_C_nameFor.2.1 39 = .ok (.invokevirtual 223, 3) := by decide +kernel
theorem d_C_nameFor_42 : decode u_C_nameFor.2.1 42 = .ok (.ifCond .eq 57, 3) := by decide +kernel
theorem d_C_nameFor_45 : decode u_C_nameFor.2.1 45 = .ok (.aload_n 1, 1) := by decide +kernel
theorem d_C_nameFor_46 : decode u_C_nameFor.2.1 46 = .ok (.aload_n 2, 1) := by decide +kernel
theorem d_C_nameFor_47 : decode u_C_nameFor.2.1 47 = .ok (.aload_n 0, 1) := by decide +kernel
theorem d_C_nameFor_48 : decode u_C_nameFor.2.1 48 = .ok (.getfield 11, 3) := by decide +kernel
theorem d_C_nameFor_51 : decode u_C_nameFor.2.1 51 = .ok (.iload 4, 2) := by decide +kernel
theorem d_C_nameFor_53 : decode u_C_nameFor.2.1 53 = .ok (.aaload, 1) := by decide +kernel
theorem d_C_nameFor_54 : decode u_C_nameFor.2.1 54 = .ok (.aload_n 0, 1) := by decide +kernel
theorem d_C_nameFor_55 : decode u_C_nameFor.2.1 55 = .ok (.getfield 64, 3) := by decide +kernel
theorem d_C_nameFor_58 : decode u_C_nameFor.2.1 58 = .ok (.invokevirtual 228, 3) := by decide +kernel
theorem d_C_nameFor_61 : decode u_C_nameFor.2.1 61 = .ok (.aload_n 0, 1) := by decide +kernel
theorem d_C_nameFor_62 : decode u_C_nameFor.2.1 62 = .ok (.getfield 64, 3) := by decide +kernel
theorem d_C_nameFor_65 : decode u_C_nameFor.2.1 65 = .ok (.aload_n 0, 1) := by decide +kernel
theorem d_C_nameFor_66 : decode u_C_nameFor.2.1 66 = .ok (.getfield 68, 3) := by decide +kernel
theorem d_C_nameFor_69 : decode u_C_nameFor.2.1 69 = .ok (.invokevirtual 343, 3) := by decide +kernel
theorem d_C_nameFor_72 : decode u_C_nameFor.2.1 72 = .ok (.ifCond .eq 27, 3) := by decide +kernel
theorem d_C_nameFor_75 : decode u_C_nameFor.2.1 75 = .ok (.aload_n 0, 1) := by decide +kernel
theorem d_C_nameFor_76 : decode u_C_nameFor.2.1 76 = .ok (.getfield 68, 3) := by decide +kernel
theorem d_C_nameFor_79 : decode u_C_nameFor.2.1 79 = .ok (.aload_n 0, 1) := by decide +kernel
theorem d_C_nameFor_80 : decode u_C_nameFor.2.1 80 = .ok (.getfield 64, 3) := by decide +kernel
theorem d_C_nameFor_83 : decode u_C_nameFor.2.1 83 = .ok (.getfield 347, 3) := by decide +kernel
theorem d_C_nameFor_86 : decode u_C_nameFor.2.1 86 = .ok (.aload_n 0, 1) := by decide +kernel
theorem d_C_nameFor_87 : decode u_C_nameFor.2.1 87 = .ok (.getfield 64, 3) := by decide +kernel
theorem d_C_nameFor_90 : decode u_C_nameFor.2.1 90 = .ok (.getfield 351, 3) := by decide +kernel
theorem d_C_nameFor_93 : decode u_C_nameFor.2.1 93 = .ok (.invokevirtual 270, 3) := by decide +kernel
theorem d_C_nameFor_96 : decode u_C_nameFor.2.1 96 = .ok (.iload 4, 2) := by decide +kernel
theorem d_C_nameFor_98 : decode u_C_nameFor.2.1 98 = .ok (.istore_n 3, 1) := by decide +kernel
theorem d_C_nameFor_99 : decode u_C_nameFor.2.1 99 = .ok (.iinc 4 1, 3) := by decide +kernel
theorem d_C_nameFor_102 : decode u_C_nameFor.2.1 102 = .ok (.goto (-75), 3) := by decide +kernel
theorem d_C_nameFor_105 : decode u_C_nameFor.2.1 105 = .ok (.iload_n 3, 1) := by decide +kernel
theorem d_C_nameFor_106 : decode u_C_nameFor.2.1 106 = .ok (.ireturn, 1) := by decide +kernel
theorem d_C_marginOf_0 : decode u_C_marginOf.2.1 0 = .ok (.lconst 0, 1) := by decide +kernel
theorem d_C_marginOf_1 : decode u_C_marginOf.2.1 1 = .ok (.lstore 4, 2) := by decide +kernel
theorem d_C_marginOf_3 : decode u_C_marginOf.2.1 3 = .ok (.lconst 0, 1) := by decide +kernel
theorem d_C_marginOf_4 : decode u_C_marginOf.2.1 4 = .ok (.lstore 6, 2) := by decide +kernel
theorem d_C_marginOf_6 : decode u_C_marginOf.2.1 6 = .ok (.iconst 0, 1) := by decide +kernel
theorem d_C_marginOf_7 : decode u_C_marginOf.2.1 7 = .ok (.istore 8, 2) := by decide +kernel
theorem d_C_marginOf_9 : decode u_C_marginOf.2.1 9 = .ok (.iload 8, 2) := by decide +kernel
theorem d_C_marginOf_11 : decode u_C_marginOf.2.1 11 = .ok (.aload_n 0, 1) := by decide +kernel
theorem d_C_marginOf_12 : decode u_C_marginOf.2.1 12 = .ok (.getfield 75, 3) := by decide +kernel
theorem d_C_marginOf_15 : decode u_C_marginOf.2.1 15 = .ok (.if_icmp .ge 66, 3) := by decide +kernel
theorem d_C_marginOf_18 : decode u_C_marginOf.2.1 18 = .ok (.aload_n 1, 1) := by decide +kernel
theorem d_C_marginOf_19 : decode u_C_marginOf.2.1 19 = .ok (.iload 8, 2) := by decide +kernel
theorem d_C_marginOf_21 : decode u_C_marginOf.2.1 21 = .ok (.invokevirtual 223, 3) := by decide +kernel
theorem d_C_marginOf_24 : decode u_C_marginOf.2.1 24 = .ok (.ifCond .eq 51, 3) := by decide +kernel
theorem d_C_marginOf_27 : decode u_C_marginOf.2.1 27 = .ok (.aload_n 1, 1) := by decide +kernel
theorem d_C_marginOf_28 : decode u_C_marginOf.2.1 28 = .ok (.aload_n 2, 1) := by decide +kernel
theorem d_C_marginOf_29 : decode u_C_marginOf.2.1 29 = .ok (.aload_n 0, 1) := by decide +kernel
theorem d_C_marginOf_30 : decode u_C_marginOf.2.1 30 = .ok (.getfield 11, 3) := by decide +kernel
theorem d_C_marginOf_33 : decode u_C_marginOf.2.1 33 = .ok (.iload 8, 2) := by decide +kernel
theorem d_C_marginOf_35 : decode u_C_marginOf.2.1 35 = .ok (.aaload, 1) := by decide +kernel
theorem d_C_marginOf_36 : decode u_C_marginOf.2.1 36 = .ok (.aload_n 0, 1) := by decide +kernel
theorem d_C_marginOf_37 : decode u_C_marginOf.2.1 37 = .ok (.getfield 64, 3) := by decide +kernel
theorem d_C_marginOf_40 : decode u_C_marginOf.2.1 40 = .ok (.invokevirtual 228, 3) := by decide +kernel
theorem d_C_marginOf_43 : decode u_C_marginOf.2.1 43 = .ok (.iload 8, 2) := by decide +kernel
theorem d_C_marginOf_45 : decode u_C_marginOf.2.1 45 = .ok (.iload_n 3, 1) := by decide +kernel
theorem d_C_marginOf_46 : decode u_C_marginOf.2.1 46 = .ok (.if_icmp .ne 15, 3) := by decide +kernel
theorem d_C_marginOf_49 : decode u_C_marginOf.2.1 49 = .ok (.aload_n 0, 1) := by decide +kernel
theorem d_C_marginOf_50 : decode u_C_marginOf.2.1 50 = .ok (.getfield 64, 3) := by decide +kernel
theorem d_C_marginOf_53 : decode u_C_marginOf.2.1 53 = .ok (.invokevirtual 354, 3) := by decide +kernel
theorem d_C_marginOf_56 : decode u_C_marginOf.2.1 56 = .ok (.lstore 4, 2) := by decide +kernel
theorem d_C_marginOf_58 : decode u_C_marginOf.2.1 58 = .ok (.goto 17, 3) := by decide +kernel
theorem d_C_marginOf_61 : decode u_C_marginOf.2.1 61 = .ok (.lload 6, 2) := by decide +kernel
theorem d_C_marginOf_63 : decode u_C_marginOf.2.1 63 = .ok (.aload_n 0, 1) := by decide +kernel
theorem d_C_marginOf_64 : decode u_C_marginOf.2.1 64 = .ok (.getfield 64, 3) := by decide +kernel
theorem d_C_marginOf_67 : decode u_C_marginOf.2.1 67 = .ok (.invokevirtual 354, 3) := by decide +kernel
theorem d_C_marginOf_70 : decode u_C_marginOf.2.1 70 = .ok (.invokestatic 358, 3) := by decide +kernel
theorem d_C_marginOf_73 : decode u_C_marginOf.2.1 73 = .ok (.lstore 6, 2) := by decide +kernel
theorem d_C_marginOf_75 : decode u_C_marginOf.2.1 75 = .ok (.iinc 8 1, 3) := by decide +kernel
theorem d_C_marginOf_78 : decode u_C_marginOf.2.1 78 = .ok (.goto (-69), 3) := by decide +kernel
theorem d_C_marginOf_81 : decode u_C_marginOf.2.1 81 = .ok (.lload 4, 2) := by decide +kernel
theorem d_C_marginOf_83 : decode u_C_marginOf.2.1 83 = .ok (.lload 6, 2) := by decide +kernel
theorem d_C_marginOf_85 : decode u_C_marginOf.2.1 85 = .ok (.lsub, 1) := by decide +kernel
theorem d_C_marginOf_86 : decode u_C_marginOf.2.1 86 = .ok (.l2i, 1) := by decide +kernel
theorem d_C_marginOf_87 : decode u_C_marginOf.2.1 87 = .ok (.ireturn, 1) := by decide +kernel
theorem d_C_tryParts_0 : decode u_C_tryParts.2.1 0 = .ok (.iconst 0, 1) := by decide +kernel
theorem d_C_tryParts_1 : decode u_C_tryParts.2.1 1 = .ok (.istore 4, 2) := by decide +kernel
theorem d_C_tryParts_3 : decode u_C_tryParts.2.1 3 = .ok (.iload 4, 2) := by decide +kernel
theorem d_C_tryParts_5 : decode u_C_tryParts.2.1 5 = .ok (.bipush 8, 2) := by decide +kernel
theorem d_C_tryParts_7 : decode u_C_tryParts.2.1 7 = .ok (.if_icmp .ge 65, 3) := by decide +kernel
theorem d_C_tryParts_10 : decode u_C_tryParts.2.1 10 = .ok (.iload_n 2, 1) := by decide +kernel
theorem d_C_tryParts_11 : decode u_C_tryParts.2.1 11 = .ok (.iload 4, 2) := by decide +kernel
theorem d_C_tryParts_13 : decode u_C_tryParts.2.1 13 = .ok (.ishr, 1) := by decide +kernel
theorem d_C_tryParts_14 : decode u_C_tryParts.2.1 14 = .ok (.iconst 1, 1) := by decide +kernel
theorem d_C_tryParts_15 : decode u_C_tryParts.2.1 15 = .ok (.iand, 1) := by decide +kernel
theorem d_C_tryParts_16 : decode u_C_tryParts.2.1 16 = .ok (.iconst 1, 1) := by decide +kernel
theorem d_C_tryParts_17 : decode u_C_tryParts.2.1 17 = .ok (.if_icmp .ne 7, 3) := by decide +kernel
theorem d_C_tryParts_20 : decode u_C_tryParts.2.1 20 = .ok (.iload_n 3, 1) := by decide +kernel
theorem d_C_tryParts_21 : decode u_C_tryParts.2.1 21 = .ok (.goto 6, 3) := by decide +kernel
theorem d_C_tryParts_24 : decode u_C_tryParts.2.1 24 = .ok (.sipush (-9999), 3) := by decide +kernel
theorem d_C_tryParts_27 : decode u_C_tryParts.2.1 27 = .ok (.istore 5, 2) := by decide +kernel
theorem d_C_tryParts_29 : decode u_C_tryParts.2.1 29 = .ok (.aload_n 0, 1) := by decide +kernel
theorem d_C_tryParts_30 : decode u_C_tryParts.2.1 30 = .ok (.getfield 50, 3) := by decide +kernel
theorem d_C_tryParts_33 : decode u_C_tryParts.2.1 33 = .ok (.getfield 185, 3) := by decide +kernel
theorem d_C_tryParts_36 : decode u_C_tryParts.2.1 36 = .ok (.iload 4, 2) := by decide +kernel
theorem d_C_tryParts_38 : decode u_C_tryParts.2.1 38 = .ok (.aload_n 0, 1) := by decide +kernel
theorem d_C_tryParts_39 : decode u_C_tryParts.2.1 39 = .ok (.getfield 50, 3) := by decide +kernel
theorem d_C_tryParts_42 : decode u_C_tryParts.2.1 42 = .ok (.getfield 149, 3) := by decide +kernel
theorem d_C_tryParts_45 : decode u_C_tryParts.2.1 45 = .ok (.iload 4, 2) := by decide +kernel
theorem d_C_tryParts_47 : decode u_C_tryParts.2.1 47 = .ok (.iaload, 1) := by decide +kernel
theorem d_C_tryParts_48 : decode u_C_tryParts.2.1 48 = .ok (.aload_n 0, 1) := by decide +kernel
theorem d_C_tryParts_49 : decode u_C_tryParts.2.1 49 = .ok (.getfield 11, 3) := by decide +kernel
theorem d_C_tryParts_52 : decode u_C_tryParts.2.1 52 = .ok (.iload_n 1, 1) := by decide +kernel
theorem d_C_tryParts_53 : decode u_C_tryParts.2.1 53 = .ok (.aaload, 1) := by decide +kernel
theorem d_C_tryParts_54 : decode u_C_tryParts.2.1 54 = .ok (.getfield 88, 3) := by decide +kernel
theorem d_C_tryParts_57 : decode u_C_tryParts.2.1 57 = .ok (.iload 4, 2) := by decide +kernel
theorem d_C_tryParts_59 : decode u_C_tryParts.2.1 59 = .ok (.iaload, 1) := by decide +kernel
theorem d_C_tryParts_60 : decode u_C_tryParts.2.1 60 = .ok (.iload 5, 2) := by decide +kernel
theorem d_C_tryParts_62 : decode u_C_tryParts.2.1 62 = .ok (.invokestatic 139, 3) := by decide +kernel
theorem d_C_tryParts_65 : decode u_C_tryParts.2.1 65 = .ok (.iastore, 1) := by decide +kernel
theorem d_C_tryParts_66 : decode u_C_tryParts.2.1 66 = .ok (.iinc 4 1, 3) := by decide +kernel
theorem d_C_tryParts_69 : decode u_C_tryParts.2.1 69 = .ok (.goto (-66), 3) := by decide +kernel
theorem d_C_tryParts_72 : decode u_C_tryParts.2.1 72 = .ok (.return_, 1) := by decide +kernel
theorem d_C_isNamedBy_0 : decode u_C_isNamedBy.2.1 0 = .ok (.aload_n 0, 1) := by decide +kernel
theorem d_C_isNamedBy_1 : decode u_C_isNamedBy.2.1 1 = .ok (.iload_n 2, 1) := by decide +kernel
theorem d_C_isNamedBy_2 : decode u_C_isNamedBy.2.1 2 = .ok (.iload_n 3, 1) := by decide +kernel
theorem d_C_isNamedBy_3 : decode u_C_isNamedBy.2.1 3 = .ok (.iload 4, 2) := by decide +kernel
theorem d_C_isNamedBy_5 : decode u_C_isNamedBy.2.1 5 = .ok (.invokevirtual 361, 3) := by decide +kernel
theorem d_C_isNamedBy_8 : decode u_C_isNamedBy.2.1 8 = .ok (.aload_n 0, 1) := by decide +kernel
theorem d_C_isNamedBy_9 : decode u_C_isNamedBy.2.1 9 = .ok (.aload_n 1, 1) := by decide +kernel
theorem d_C_isNamedBy_10 : decode u_C_isNamedBy.2.1 10 = .ok (.aload_n 0, 1) := by decide +kernel
theorem d_C_isNamedBy_11 : decode u_C_isNamedBy.2.1 11 = .ok (.getfield 50, 3) := by decide +kernel
theorem d_C_isNamedBy_14 : decode u_C_isNamedBy.2.1 14 = .ok (.invokevirtual 236, 3) := by decide +kernel
theorem d_C_isNamedBy_17 : decode u_C_isNamedBy.2.1 17 = .ok (.iload_n 2, 1) := by decide +kernel
theorem d_C_isNamedBy_18 : decode u_C_isNamedBy.2.1 18 = .ok (.if_icmp .ne 7, 3) := by decide +kernel
theorem d_C_isNamedBy_21 : decode u_C_isNamedBy.2.1 21 = .ok (.iconst 1, 1) := by decide +kernel
theorem d_C_isNamedBy_22 : decode u_C_isNamedBy.2.1 22 = .ok (.goto 4, 3) := by decide +kernel
theorem d_C_isNamedBy_25 : decode u_C_isNamedBy.2.1 25 = .ok (.iconst 0, 1) := by decide +kernel
theorem d_C_isNamedBy_26 : decode u_C_isNamedBy.2.1 26 = .ok (.ireturn, 1) := by decide +kernel
theorem d_C_leastNamed_0 : decode u_C_leastNamed.2.1 0 = .ok (.iconst 0, 1) := by decide +kernel
theorem d_C_leastNamed_1 : decode u_C_leastNamed.2.1 1 = .ok (.istore_n 3, 1) := by decide +kernel
theorem d_C_leastNamed_2 : decode u_C_leastNamed.2.1 2 = .ok (.iload_n 3, 1) := by decide +kernel
theorem d_C_leastNamed_3 : decode u_C_leastNamed.2.1 3 = .ok (.bipush 60, 2) := by decide +kernel
theorem d_C_leastNamed_5 : decode u_C_leastNamed.2.1 5 = .ok (.if_icmp .gt 24, 3) := by decide +kernel
theorem d_C_leastNamed_8 : decode u_C_leastNamed.2.1 8 = .ok (.aload_n 0, 1) := by decide +kernel
theorem d_C_leastNamed_9 : decode u_C_leastNamed.2.1 9 = .ok (.aload_n 1, 1) := by decide +kernel
theorem d_C_leastNamed_10 : decode u_C_leastNamed.2.1 10 = .ok (.iload_n 2, 1) := by decide +kernel
theorem d_C_leastNamed_11 : decode u_C_leastNamed.2.1 11 = .ok (.sipush 255, 3) := by decide +kernel
theorem d_C_leastNamed_14 : decode u_C_leastNamed.2.1 14 = .ok (.iload_n 3, 1) := by decide +kernel
theorem d_C_leastNamed_15 : decode u_C_leastNamed.2.1 15 = .ok (.invokevirtual 263, 3) := by decide +kernel
theorem d_C_leastNamed_18 : decode u_C_leastNamed.2.1 18 = .ok (.ifCond .eq 5, 3) := by decide +kernel
theorem d_C_leastNamed_21 : decode u_C_leastNamed.2.1 21 = .ok (.iload_n 3, 1) := by decide +kernel
theorem d_C_leastNamed_22 : decode u_C_leastNamed.2.1 22 = .ok (.ireturn, 1) := by decide +kernel
theorem d_C_leastNamed_23 : decode u_C_leastNamed.2.1 23 = .ok (.iinc 3 1, 3) := by decide +kernel
theorem d_C_leastNamed_26 : decode u_C_leastNamed.2.1 26 = .ok (.goto (-24), 3) := by decide +kernel
theorem d_C_leastNamed_29 : decode u_C_leastNamed.2.1 29 = .ok (.iconst (-1), 1) := by decide +kernel
theorem d_C_leastNamed_30 : decode u_C_leastNamed.2.1 30 = .ok (.ireturn, 1) := by decide +kernel
theorem d_C_bestNamed_0 : decode u_C_bestNamed.2.1 0 = .ok (.iconst (-1), 1) := by decide +kernel
theorem d_C_bestNamed_1 : decode u_C_bestNamed.2.1 1 = .ok (.istore_n 3, 1) := by decide +kernel
theorem d_C_bestNamed_2 : decode u_C_bestNamed.2.1 2 = .ok (.iconst 0, 1) := by decide +kernel
theorem d_C_bestNamed_3 : decode u_C_bestNamed.2.1 3 = .ok (.istore 4, 2) := by decide +kernel
theorem d_C_bestNamed_5 : decode u_C_bestNamed.2.1 5 = .ok (.iconst 0, 1) := by decide +kernel
theorem d_C_bestNamed_6 : decode u_C_bestNamed.2.1 6 = .ok (.istore 5, 2) := by decide +kernel
theorem d_C_bestNamed_8 : decode u_C_bestNamed.2.1 8 = .ok (.iload 5, 2) := by decide +kernel
theorem d_C_bestNamed_10 : decode u_C_bestNamed.2.1 10 = .ok (.bipush 60, 2) := by decide +kernel
theorem d_C_bestNamed_12 : decode u_C_bestNamed.2.1 12 = .ok (.if_icmp .gt 54, 3) := by decide +kernel
theorem d_C_bestNamed_15 : decode u_C_bestNamed.2.1 15 = .ok (.aload_n 0, 1) := by decide +kernel
theorem d_C_bestNamed_16 : decode u_C_bestNamed.2.1 16 = .ok (.aload_n 1, 1) := by decide +kernel
