theorem d_C_wipe_11 : decode u_C_wipe.2.1 11 = .ok (.getfield 17, 3) := by decide +kernel
theorem d_C_wipe_14 : decode u_C_wipe.2.1 14 = .ok (.iload_n 1, 1) := by decide +kernel
theorem d_C_wipe_15 : decode u_C_wipe.2.1 15 = .ok (.aaload, 1) := by decide +kernel
theorem d_C_wipe_16 : decode u_C_wipe.2.1 16 = .ok (.getfield 123, 3) := by decide +kernel
theorem d_C_wipe_19 : decode u_C_wipe.2.1 19 = .ok (.istore_n 2, 1) := by decide +kernel
theorem d_C_wipe_20 : decode u_C_wipe.2.1 20 = .ok (.aload_n 0, 1) := by decide +kernel
theorem d_C_wipe_21 : decode u_C_wipe.2.1 21 = .ok (.getfield 17, 3) := by decide +kernel
theorem d_C_wipe_24 : decode u_C_wipe.2.1 24 = .ok (.iload_n 1, 1) := by decide +kernel
theorem d_C_wipe_25 : decode u_C_wipe.2.1 25 = .ok (.aaload, 1) := by decide +kernel
theorem d_C_wipe_26 : decode u_C_wipe.2.1 26 = .ok (.invokevirtual 130, 3) := by decide +kernel
theorem d_C_wipe_29 : decode u_C_wipe.2.1 29 = .ok (.iload_n 2, 1) := by decide +kernel
theorem d_C_wipe_30 : decode u_C_wipe.2.1 30 = .ok (.ireturn, 1) := by decide +kernel
theorem d_C_fault_0 : decode u_C_fault.2.1 0 = .ok (.iload_n 1, 1) := by decide +kernel
theorem d_C_fault_1 : decode u_C_fault.2.1 1 = .ok (.invokestatic 120, 3) := by decide +kernel
theorem d_C_fault_4 : decode u_C_fault.2.1 4 = .ok (.ifCond .eq 15, 3) := by decide +kernel
theorem d_C_fault_7 : decode u_C_fault.2.1 7 = .ok (.aload_n 0, 1) := by decide +kernel
theorem d_C_fault_8 : decode u_C_fault.2.1 8 = .ok (.getfield 17, 3) := by decide +kernel
theorem d_C_fault_11 : decode u_C_fault.2.1 11 = .ok (.iload_n 1, 1) := by decide +kernel
theorem d_C_fault_12 : decode u_C_fault.2.1 12 = .ok (.aaload, 1) := by decide +kernel
theorem d_C_fault_13 : decode u_C_fault.2.1 13 = .ok (.getfield 133, 3) := by decide +kernel
theorem d_C_fault_16 : decode u_C_fault.2.1 16 = .ok (.goto 5, 3) := by decide +kernel
theorem d_C_fault_19 : decode u_C_fault.2.1 19 = .ok (.bipush (-2), 2) := by decide +kernel
theorem d_C_fault_21 : decode u_C_fault.2.1 21 = .ok (.ireturn, 1) := by decide +kernel
theorem d_C_tenths_0 : decode u_C_tenths.2.1 0 = .ok (.iload_n 1, 1) := by decide +kernel
theorem d_C_tenths_1 : decode u_C_tenths.2.1 1 = .ok (.invokestatic 120, 3) := by decide +kernel
theorem d_C_tenths_4 : decode u_C_tenths.2.1 4 = .ok (.ifCond .eq 24, 3) := by decide +kernel
theorem d_C_tenths_7 : decode u_C_tenths.2.1 7 = .ok (.iload_n 2, 1) := by decide +kernel
theorem d_C_tenths_8 : decode u_C_tenths.2.1 8 = .ok (.invokestatic 82, 3) := by decide +kernel
theorem d_C_tenths_11 : decode u_C_tenths.2.1 11 = .ok (.ifCond .eq 17, 3) := by decide +kernel
theorem d_C_tenths_14 : decode u_C_tenths.2.1 14 = .ok (.aload_n 0, 1) := by decide +kernel
theorem d_C_tenths_15 : decode u_C_tenths.2.1 15 = .ok (.getfield 17, 3) := by decide +kernel
theorem d_C_tenths_18 : decode u_C_tenths.2.1 18 = .ok (.iload_n 1, 1) := by decide +kernel
theorem d_C_tenths_19 : decode u_C_tenths.2.1 19 = .ok (.aaload, 1) := by decide +kernel
theorem d_C_tenths_20 : decode u_C_tenths.2.1 20 = .ok (.getfield 136, 3) := by decide +kernel
theorem d_C_tenths_23 : decode u_C_tenths.2.1 23 = .ok (.iload_n 2, 1) := by decide +kernel
theorem d_C_tenths_24 : decode u_C_tenths.2.1 24 = .ok (.iaload, 1) := by decide +kernel
theorem d_C_tenths_25 : decode u_C_tenths.2.1 25 = .ok (.goto 6, 3) := by decide +kernel
theorem d_C_tenths_28 : decode u_C_tenths.2.1 28 = .ok (.sipush (-10002), 3) := by decide +kernel
theorem d_C_tenths_31 : decode u_C_tenths.2.1 31 = .ok (.ireturn, 1) := by decide +kernel
theorem d_C_drawn_0 : decode u_C_drawn.2.1 0 = .ok (.iload_n 1, 1) := by decide +kernel
theorem d_C_drawn_1 : decode u_C_drawn.2.1 1 = .ok (.invokestatic 120, 3) := by decide +kernel
theorem d_C_drawn_4 : decode u_C_drawn.2.1 4 = .ok (.ifCond .eq 27, 3) := by decide +kernel
theorem d_C_drawn_7 : decode u_C_drawn.2.1 7 = .ok (.aload_n 0, 1) := by decide +kernel
theorem d_C_drawn_8 : decode u_C_drawn.2.1 8 = .ok (.iload_n 2, 1) := by decide +kernel
theorem d_C_drawn_9 : decode u_C_drawn.2.1 9 = .ok (.invokevirtual 78, 3) := by decide +kernel
theorem d_C_drawn_12 : decode u_C_drawn.2.1 12 = .ok (.ifCond .eq 19, 3) := by decide +kernel
theorem d_C_drawn_15 : decode u_C_drawn.2.1 15 = .ok (.aload_n 0, 1) := by decide +kernel
theorem d_C_drawn_16 : decode u_C_drawn.2.1 16 = .ok (.iload_n 3, 1) := by decide +kernel
theorem d_C_drawn_17 : decode u_C_drawn.2.1 17 = .ok (.invokevirtual 114, 3) := by decide +kernel
theorem d_C_drawn_20 : decode u_C_drawn.2.1 20 = .ok (.ifCond .eq 11, 3) := by decide +kernel
theorem d_C_drawn_23 : decode u_C_drawn.2.1 23 = .ok (.iload 4, 2) := by decide +kernel
theorem d_C_drawn_25 : decode u_C_drawn.2.1 25 = .ok (.invokestatic 82, 3) := by decide +kernel
theorem d_C_drawn_28 : decode u_C_drawn.2.1 28 = .ok (.ifCond .ne 7, 3) := by decide +kernel
theorem d_C_drawn_31 : decode u_C_drawn.2.1 31 = .ok (.sipush (-10002), 3) := by decide +kernel
theorem d_C_drawn_34 : decode u_C_drawn.2.1 34 = .ok (.ireturn, 1) := by decide +kernel
theorem d_C_drawn_35 : decode u_C_drawn.2.1 35 = .ok (.aload_n 0, 1) := by decide +kernel
theorem d_C_drawn_36 : decode u_C_drawn.2.1 36 = .ok (.iload_n 3, 1) := by decide +kernel
theorem d_C_drawn_37 : decode u_C_drawn.2.1 37 = .ok (.iload 4, 2) := by decide +kernel
theorem d_C_drawn_39 : decode u_C_drawn.2.1 39 = .ok (.invokevirtual 117, 3) := by decide +kernel
theorem d_C_drawn_42 : decode u_C_drawn.2.1 42 = .ok (.aload_n 0, 1) := by decide +kernel
theorem d_C_drawn_43 : decode u_C_drawn.2.1 43 = .ok (.getfield 11, 3) := by decide +kernel
theorem d_C_drawn_46 : decode u_C_drawn.2.1 46 = .ok (.iload_n 2, 1) := by decide +kernel
theorem d_C_drawn_47 : decode u_C_drawn.2.1 47 = .ok (.aaload, 1) := by decide +kernel
theorem d_C_drawn_48 : decode u_C_drawn.2.1 48 = .ok (.getfield 88, 3) := by decide +kernel
theorem d_C_drawn_51 : decode u_C_drawn.2.1 51 = .ok (.iload 4, 2) := by decide +kernel
theorem d_C_drawn_53 : decode u_C_drawn.2.1 53 = .ok (.iaload, 1) := by decide +kernel
theorem d_C_drawn_54 : decode u_C_drawn.2.1 54 = .ok (.aload_n 0, 1) := by decide +kernel
theorem d_C_drawn_55 : decode u_C_drawn.2.1 55 = .ok (.getfield 17, 3) := by decide +kernel
theorem d_C_drawn_58 : decode u_C_drawn.2.1 58 = .ok (.iload_n 1, 1) := by decide +kernel
theorem d_C_drawn_59 : decode u_C_drawn.2.1 59 = .ok (.aaload, 1) := by decide +kernel
theorem d_C_drawn_60 : decode u_C_drawn.2.1 60 = .ok (.getfield 136, 3) := by decide +kernel
theorem d_C_drawn_63 : decode u_C_drawn.2.1 63 = .ok (.iload 4, 2) := by decide +kernel
theorem d_C_drawn_65 : decode u_C_drawn.2.1 65 = .ok (.iaload, 1) := by decide +kernel
theorem d_C_drawn_66 : decode u_C_drawn.2.1 66 = .ok (.invokestatic 139, 3) := by decide +kernel
theorem d_C_drawn_69 : decode u_C_drawn.2.1 69 = .ok (.ireturn, 1) := by decide +kernel
theorem d_C_set_0 : decode u_C_set.2.1 0 = .ok (.iload_n 1, 1) := by decide +kernel
theorem d_C_set_1 : decode u_C_set.2.1 1 = .ok (.ifCond .ne 26, 3) := by decide +kernel
theorem d_C_set_4 : decode u_C_set.2.1 4 = .ok (.iload_n 2, 1) := by decide +kernel
theorem d_C_set_5 : decode u_C_set.2.1 5 = .ok (.iconst 1, 1) := by decide +kernel
theorem d_C_set_6 : decode u_C_set.2.1 6 = .ok (.if_icmp .lt 21, 3) := by decide +kernel
theorem d_C_set_9 : decode u_C_set.2.1 9 = .ok (.iload_n 2, 1) := by decide +kernel
theorem d_C_set_10 : decode u_C_set.2.1 10 = .ok (.bipush 99, 2) := by decide +kernel
theorem d_C_set_12 : decode u_C_set.2.1 12 = .ok (.if_icmp .gt 15, 3) := by decide +kernel
theorem d_C_set_15 : decode u_C_set.2.1 15 = .ok (.aload_n 0, 1) := by decide +kernel
theorem d_C_set_16 : decode u_C_set.2.1 16 = .ok (.getfield 39, 3) := by decide +kernel
theorem d_C_set_19 : decode u_C_set.2.1 19 = .ok (.istore_n 3, 1) := by decide +kernel
theorem d_C_set_20 : decode u_C_set.2.1 20 = .ok (.aload_n 0, 1) := by decide +kernel
theorem d_C_set_21 : decode u_C_set.2.1 21 = .ok (.iload_n 2, 1) := by decide +kernel
theorem d_C_set_22 : decode u_C_set.2.1 22 = .ok (.putfield 39, 3) := by decide +kernel
theorem d_C_set_25 : decode u_C_set.2.1 25 = .ok (.iload_n 3, 1) := by decide +kernel
theorem d_C_set_26 : decode u_C_set.2.1 26 = .ok (.ireturn, 1) := by decide +kernel
theorem d_C_set_27 : decode u_C_set.2.1 27 = .ok (.iload_n 1, 1) := by decide +kernel
theorem d_C_set_28 : decode u_C_set.2.1 28 = .ok (.iconst 1, 1) := by decide +kernel
theorem d_C_set_29 : decode u_C_set.2.1 29 = .ok (.if_icmp .ne 26, 3) := by decide +kernel
theorem d_C_set_32 : decode u_C_set.2.1 32 = .ok (.iload_n 2, 1) := by decide +kernel
theorem d_C_set_33 : decode u_C_set.2.1 33 = .ok (.iconst 1, 1) := by decide +kernel
theorem d_C_set_34 : decode u_C_set.2.1 34 = .ok (.if_icmp .lt 21, 3) := by decide +kernel
theorem d_C_set_37 : decode u_C_set.2.1 37 = .ok (.iload_n 2, 1) := by decide +kernel
theorem d_C_set_38 : decode u_C_set.2.1 38 = .ok (.bipush 60, 2) := by decide +kernel
theorem d_C_set_40 : decode u_C_set.2.1 40 = .ok (.if_icmp .gt 15, 3) := by decide +kernel
theorem d_C_set_43 : decode u_C_set.2.1 43 = .ok (.aload_n 0, 1) := by decide +kernel
theorem d_C_set_44 : decode u_C_set.2.1 44 = .ok (.getfield 43, 3) := by decide +kernel
theorem d_C_set_47 : decode u_C_set.2.1 47 = .ok (.istore_n 3, 1) := by decide +kernel
theorem d_C_set_48 : decode u_C_set.2.1 48 = .ok (.aload_n 0, 1) := by decide +kernel
theorem d_C_set_49 : decode u_C_set.2.1 49 = .ok (.iload_n 2, 1) := by decide +kernel
theorem d_C_set_50 : decode u_C_set.2.1 50 = .ok (.putfield 43, 3) := by decide +kernel
theorem d_C_set_53 : decode u_C_set.2.1 53 = .ok (.iload_n 3, 1) := by decide +kernel
theorem d_C_set_54 : decode u_C_set.2.1 54 = .ok (.ireturn, 1) := by decide +kernel
theorem d_C_set_55 : decode u_C_set.2.1 55 = .ok (.iload_n 1, 1) := by decide +kernel
theorem d_C_set_56 : decode u_C_set.2.1 56 = .ok (.iconst 2, 1) := by decide +kernel
theorem d_C_set_57 : decode u_C_set.2.1 57 = .ok (.if_icmp .ne 25, 3) := by decide +kernel
theorem d_C_set_60 : decode u_C_set.2.1 60 = .ok (.iload_n 2, 1) := by decide +kernel
theorem d_C_set_61 : decode u_C_set.2.1 61 = .ok (.ifCond .lt 21, 3) := by decide +kernel
theorem d_C_set_64 : decode u_C_set.2.1 64 = .ok (.iload_n 2, 1) := by decide +kernel
theorem d_C_set_65 : decode u_C_set.2.1 65 = .ok (.bipush 99, 2) := by decide +kernel
theorem d_C_set_67 : decode u_C_set.2.1 67 = .ok (.if_icmp .gt 15, 3) := by decide +kernel
theorem d_C_set_70 : decode u_C_set.2.1 70 = .ok (.aload_n 0, 1) := by decide +kernel
theorem d_C_set_71 : decode u_C_set.2.1 71 = .ok (.getfield 46, 3) := by decide +kernel
theorem d_C_set_74 : decode u_C_set.2.1 74 = .ok (.istore_n 3, 1) := by decide +kernel
theorem d_C_set_75 : decode u_C_set.2.1 75 = .ok (.aload_n 0, 1) := by decide +kernel
theorem d_C_set_76 : decode u_C_set.2.1 76 = .ok (.iload_n 2, 1) := by decide +kernel
theorem d_C_set_77 : decode u_C_set.2.1 77 = .ok (.putfield 46, 3) := by decide +kernel
theorem d_C_set_80 : decode u_C_set.2.1 80 = .ok (.iload_n 3, 1) := by decide +kernel
theorem d_C_set_81 : decode u_C_set.2.1 81 = .ok (.ireturn, 1) := by decide +kernel
theorem d_C_set_82 : decode u_C_set.2.1 82 = .ok (.bipush (-2), 2) := by decide +kernel
theorem d_C_set_84 : decode u_C_set.2.1 84 = .ok (.ireturn, 1) := by decide +kernel
theorem d_C_draw_0 : decode u_C_draw.2.1 0 = .ok (.iload_n 1, 1) := by decide +kernel
theorem d_C_draw_1 : decode u_C_draw.2.1 1 = .ok (.invokestatic 120, 3) := by decide +kernel
theorem d_C_draw_4 : decode u_C_draw.2.1 4 = .ok (.ifCond .eq 28, 3) := by decide +kernel
theorem d_C_draw_7 : decode u_C_draw.2.1 7 = .ok (.aload_n 0, 1) := by decide +kernel
theorem d_C_draw_8 : decode u_C_draw.2.1 8 = .ok (.iload_n 2, 1) := by decide +kernel
theorem d_C_draw_9 : decode u_C_draw.2.1 9 = .ok (.invokevirtual 78, 3) := by decide +kernel
theorem d_C_draw_12 : decode u_C_draw.2.1 12 = .ok (.ifCond .eq 20, 3) := by decide +kernel
theorem d_C_draw_15 : decode u_C_draw.2.1 15 = .ok (.aload_n 0, 1) := by decide +kernel
theorem d_C_draw_16 : decode u_C_draw.2.1 16 = .ok (.iload_n 3, 1) := by decide +kernel
theorem d_C_draw_17 : decode u_C_draw.2.1 17 = .ok (.invokevirtual 114, 3) := by decide +kernel
theorem d_C_draw_20 : decode u_C_draw.2.1 20 = .ok (.ifCond .eq 12, 3) := by decide +kernel
theorem d_C_draw_23 : decode u_C_draw.2.1 23 = .ok (.aload_n 0, 1) := by decide +kernel
theorem d_C_draw_24 : decode u_C_draw.2.1 24 = .ok (.iload 4, 2) := by decide +kernel
theorem d_C_draw_26 : decode u_C_draw.2.1 26 = .ok (.invokevirtual 143, 3) := by decide +kernel
theorem d_C_draw_29 : decode u_C_draw.2.1 29 = .ok (.ifCond .ne 6, 3) := by decide +kernel
theorem d_C_draw_32 : decode u_C_draw.2.1 32 = .ok (.bipush (-2), 2) := by decide +kernel
theorem d_C_draw_34 : decode u_C_draw.2.1 34 = .ok (.ireturn, 1) := by decide +kernel
theorem d_C_draw_35 : decode u_C_draw.2.1 35 = .ok (.aload_n 0, 1) := by decide +kernel
theorem d_C_draw_36 : decode u_C_draw.2.1 36 = .ok (.getfield 146, 3) := by decide +kernel
theorem d_C_draw_39 : decode u_C_draw.2.1 39 = .ok (.bipush 30, 2) := by decide +kernel
theorem d_C_draw_41 : decode u_C_draw.2.1 41 = .ok (.if_icmp .lt 6, 3) := by decide +kernel
theorem d_C_draw_44 : decode u_C_draw.2.1 44 = .ok (.bipush (-4), 2) := by decide +kernel
theorem d_C_draw_46 : decode u_C_draw.2.1 46 = .ok (.ireturn, 1) := by decide +kernel
theorem d_C_draw_47 : decode u_C_draw.2.1 47 = .ok (.aload_n 0, 1) := by decide +kernel
theorem d_C_draw_48 : decode u_C_draw.2.1 48 = .ok (.getfield 23, 3) := by decide +kernel
theorem d_C_draw_51 : decode u_C_draw.2.1 51 = .ok (.aload_n 0, 1) := by decide +kernel
theorem d_C_draw_52 : decode u_C_draw.2.1 52 = .ok (.getfield 146, 3) := by decide +kernel
theorem d_C_draw_55 : decode u_C_draw.2.1 55 = .ok (.aaload, 1) := by decide +kernel
theorem d_C_draw_56 : decode u_C_draw.2.1 56 = .ok (.astore 5, 2) := by decide +kernel
theorem d_C_draw_58 : decode u_C_draw.2.1 58 = .ok (.aload_n 0, 1) := by decide +kernel
theorem d_C_draw_59 : decode u_C_draw.2.1 59 = .ok (.iload_n 3, 1) := by decide +kernel
theorem d_C_draw_60 : decode u_C_draw.2.1 60 = .ok (.aload 5, 2) := by decide +kernel
theorem d_C_draw_62 : decode u_C_draw.2.1 62 = .ok (.getfield 149, 3) := by decide +kernel
theorem d_C_draw_65 : decode u_C_draw.2.1 65 = .ok (.invokevirtual 152, 3) := by decide +kernel
theorem d_C_draw_68 : decode u_C_draw.2.1 68 = .ok (.aload 5, 2) := by decide +kernel
theorem d_C_draw_70 : decode u_C_draw.2.1 70 = .ok (.aload_n 0, 1) := by decide +kernel
theorem d_C_draw_71 : decode u_C_draw.2.1 71 = .ok (.getfield 11, 3) := by decide +kernel
theorem d_C_draw_74 : decode u_C_draw.2.1 74 = .ok (.iload_n 2, 1) := by decide +kernel
theorem d_C_draw_75 : decode u_C_draw.2.1 75 = .ok (.aaload, 1) := by decide +kernel
theorem d_C_draw_76 : decode u_C_draw.2.1 76 = .ok (.getfield 88, 3) := by decide +kernel
theorem d_C_draw_79 : decode u_C_draw.2.1 79 = .ok (.aload_n 0, 1) := by decide +kernel
theorem d_C_draw_80 : decode u_C_draw.2.1 80 = .ok (.getfield 17, 3) := by decide +kernel
theorem d_C_draw_83 : decode u_C_draw.2.1 83 = .ok (.iload_n 1, 1) := by decide +kernel
theorem d_C_draw_84 : decode u_C_draw.2.1 84 = .ok (.aaload, 1) := by decide +kernel
theorem d_C_draw_85 : decode u_C_draw.2.1 85 = .ok (.invokestatic 156, 3) := by decide +kernel
theorem d_C_draw_88 : decode u_C_draw.2.1 88 = .ok (.aload 5, 2) := by decide +kernel
theorem d_C_draw_90 : decode u_C_draw.2.1 90 = .ok (.iload_n 2, 1) := by decide +kernel
theorem d_C_draw_91 : decode u_C_draw.2.1 91 = .ok (.putfield 160, 3) := by decide +kernel
theorem d_C_draw_94 : decode u_C_draw.2.1 94 = .ok (.aload 5, 2) := by decide +kernel
theorem d_C_draw_96 : decode u_C_draw.2.1 96 = .ok (.iload 4, 2) := by decide +kernel
theorem d_C_draw_98 : decode u_C_draw.2.1 98 = .ok (.putfield 163, 3) := by decide +kernel
theorem d_C_draw_101 : decode u_C_draw.2.1 101 = .ok (.aload 5, 2) := by decide +kernel
theorem d_C_draw_103 : decode u_C_draw.2.1 103 = .ok (.iconst (-1), 1) := by decide +kernel
theorem d_C_draw_104 : decode u_C_draw.2.1 104 = .ok (.putfield 166, 3) := by decide +kernel
theorem d_C_draw_107 : decode u_C_draw.2.1 107 = .ok (.aload 5, 2) := by decide +kernel
theorem d_C_draw_109 : decode u_C_draw.2.1 109 = .ok (.aload 5, 2) := by decide +kernel
theorem d_C_draw_111 : decode u_C_draw.2.1 111 = .ok (.aload_n 0, 1) := by decide +kernel
theorem d_C_draw_112 : decode u_C_draw.2.1 112 = .ok (.getfield 11, 3) := by decide +kernel
theorem d_C_draw_115 : decode u_C_draw.2.1 115 = .ok (.iload_n 2, 1) := by decide +kernel
theorem d_C_draw_116 : decode u_C_draw.2.1 116 = .ok (.aaload, 1) := by decide +kernel
theorem d_C_draw_117 : decode u_C_draw.2.1 117 = .ok (.getfield 88, 3) := by decide +kernel
theorem d_C_draw_120 : decode u_C_draw.2.1 120 = .ok (.aload_n 0, 1) := by decide +kernel
theorem d_C_draw_121 : decode u_C_draw.2.1 121 = .ok (.getfield 17, 3) := by decide +kernel
theorem d_C_draw_124 : decode u_C_draw.2.1 124 = .ok (.iload_n 1, 1) := by decide +kernel
theorem d_C_draw_125 : decode u_C_draw.2.1 125 = .ok (.aaload, 1) := by decide +kernel
theorem d_C_draw_126 : decode u_C_draw.2.1 126 = .ok (.invokestatic 169, 3) := by decide +kernel
theorem d_C_draw_129 : decode u_C_draw.2.1 129 = .ok (.putfield 173, 3) := by decide +kernel
theorem d_C_draw_132 : decode u_C_draw.2.1 132 = .ok (.aload_n 0, 1) := by decide +kernel
theorem d_C_draw_133 : decode u_C_draw.2.1 133 = .ok (.dup, 1) := by decide +kernel
theorem d_C_draw_134 : decode u_C_draw.2.1 134 = .ok (.getfield 146, 3) := by decide +kernel
theorem d_C_draw_137 : decode u_C_draw.2.1 137 = .ok (.iconst 1, 1) := by decide +kernel
theorem d_C_draw_138 : decode u_C_draw.2.1 138 = .ok (.iadd, 1) := by decide +kernel
theorem d_C_draw_139 : decode u_C_draw.2.1 139 = .ok (.putfield 146, 3) := by decide +kernel
theorem d_C_draw_142 : decode u_C_draw.2.1 142 = .ok (.aload_n 0, 1) := by decide +kernel
theorem d_C_draw_143 : decode u_C_draw.2.1 143 = .ok (.getfield 146, 3) := by decide +kernel
theorem d_C_draw_146 : decode u_C_draw.2.1 146 = .ok (.iconst 1, 1) := by decide +kernel
theorem d_C_draw_147 : decode u_C_draw.2.1 147 = .ok (.isub, 1) := by decide +kernel
theorem d_C_draw_148 : decode u_C_draw.2.1 148 = .ok (.ireturn, 1) := by decide +kernel
theorem d_C_copied_0 : decode u_C_copied.2.1 0 = .ok (.iload_n 1, 1) := by decide +kernel
theorem d_C_copied_1 : decode u_C_copied.2.1 1 = .ok (.invokestatic 120, 3) := by decide +kernel
theorem d_C_copied_4 : decode u_C_copied.2.1 4 = .ok (.ifCond .eq 19, 3) := by decide +kernel
theorem d_C_copied_7 : decode u_C_copied.2.1 7 = .ok (.aload_n 0, 1) := by decide +kernel
theorem d_C_copied_8 : decode u_C_copied.2.1 8 = .ok (.iload_n 2, 1) := by decide +kernel
theorem d_C_copied_9 : decode u_C_copied.2.1 9 = .ok (.invokevirtual 176, 3) := by decide +kernel
theorem d_C_copied_12 : decode u_C_copied.2.1 12 = .ok (.ifCond .eq 11, 3) := by decide +kernel
theorem d_C_copied_15 : decode u_C_copied.2.1 15 = .ok (.aload_n 0, 1) := by decide +kernel
theorem d_C_copied_16 : decode u_C_copied.2.1 16 = .ok (.iload_n 3, 1) := by decide +kernel
theorem d_C_copied_17 : decode u_C_copied.2.1 17 = .ok (.invokevirtual 143, 3) := by decide +kernel
theorem d_C_copied_20 : decode u_C_copied.2.1 20 = .ok (.ifCond .ne 6, 3) := by decide +kernel
theorem d_C_copied_23 : decode u_C_copied.2.1 23 = .ok (.bipush (-2), 2) := by decide +kernel
theorem d_C_copied_25 : decode u_C_copied.2.1 25 = .ok (.ireturn, 1) := by decide +kernel
theorem d_C_copied_26 : decode u_C_copied.2.1 26 = .ok (.aload_n 0, 1) := by decide +kernel
theorem d_C_copied_27 : decode u_C_copied.2.1 27 = .ok (.getfield 146, 3) := by decide +kernel
theorem d_C_copied_30 : decode u_C_copied.2.1 30 = .ok (.bipush 30, 2) := by decide +kernel
theorem d_C_copied_32 : decode u_C_copied.2.1 32 = .ok (.if_icmp .lt 6, 3) := by decide +kernel
theorem d_C_copied_35 : decode u_C_copied.2.1 35 = .ok (.bipush (-4), 2) := by decide +kernel
theorem d_C_copied_37 : decode u_C_copied.2.1 37 = .ok (.ireturn, 1) := by decide +kernel
theorem d_C_copied_38 : decode u_C_copied.2.1 38 = .ok (.aload_n 0, 1) := by decide +kernel
theorem d_C_copied_39 : decode u_C_copied.2.1 39 = .ok (.getfield 23, 3) := by decide +kernel
theorem d_C_copied_42 : decode u_C_copied.2.1 42 = .ok (.iload_n 2, 1) := by decide +kernel
theorem d_C_copied_43 : decode u_C_copied.2.1 43 = .ok (.aaload, 1) := by decide +kernel
theorem d_C_copied_44 : decode u_C_copied.2.1 44 = .ok (.astore 4, 2) := by decide +kernel
theorem d_C_copied_46 : decode u_C_copied.2.1 46 = .ok (.aload_n 0, 1) := by decide +kernel
theorem d_C_copied_47 : decode u_C_copied.2.1 47 = .ok (.getfield 23, 3) := by decide +kernel
theorem d_C_copied_50 : decode u_C_copied.2.1 50 = .ok (.aload_n 0, 1) := by decide +kernel
theorem d_C_copied_51 : decode u_C_copied.2.1 51 = .ok (.getfield 146, 3) := by decide +kernel
theorem d_C_copied_54 : decode u_C_copied.2.1 54 = .ok (.aaload, 1) := by decide +kernel
theorem d_C_copied_55 : decode u_C_copied.2.1 55 = .ok (.astore 5, 2) := by decide +kernel
theorem d_C_copied_57 : decode u_C_copied.2.1 57 = .ok (.aload 4, 2) := by decide +kernel
theorem d_C_copied_59 : decode u_C_copied.2.1 59 = .ok (.getfield 149, 3) := by decide +kernel
theorem d_C_copied_62 : decode u_C_copied.2.1 62 = .ok (.iconst 0, 1) := by decide +kernel
theorem d_C_copied_63 : decode u_C_copied.2.1 63 = .ok (.aload 5, 2) := by decide +kernel
theorem d_C_copied_65 : decode u_C_copied.2.1 65 = .ok (.getfield 149, 3) := by decide +kernel
theorem d_C_copied_68 : decode u_C_copied.2.1 68 = .ok (.iconst 0, 1) := by decide +kernel
theorem d_C_copied_69 : decode u_C_copied.2.1 69 = .ok (.bipush 8, 2) := by decide +kernel
theorem d_C_copied_71 : decode u_C_copied.2.1 71 = .ok (.invokestatic 179, 3) := by decide +kernel
theorem d_C_copied_74 : decode u_C_copied.2.1 74 = .ok (.aload 5, 2) := by decide +kernel
theorem d_C_copied_76 : decode u_C_copied.2.1 76 = .ok (.aload 4, 2) := by decide +kernel
theorem d_C_copied_78 : decode u_C_copied.2.1 78 = .ok (.getfield 185, 3) := by decide +kernel
theorem d_C_copied_81 : decode u_C_copied.2.1 81 = .ok (.aload_n 0, 1) := by decide +kernel
theorem d_C_copied_82 : decode u_C_copied.2.1 82 = .ok (.getfield 17, 3) := by decide +kernel
theorem d_C_copied_85 : decode u_C_copied.2.1 85 = .ok (.iload_n 1, 1) := by decide +kernel
theorem d_C_copied_86 : decode u_C_copied.2.1 86 = .ok (.aaload, 1) := by decide +kernel
theorem d_C_copied_87 : decode u_C_copied.2.1 87 = .ok (.invokestatic 156, 3) := by decide +kernel
theorem d_C_copied_90 : decode u_C_copied.2.1 90 = .ok (.aload 5, 2) := by decide +kernel
theorem d_C_copied_92 : decode u_C_copied.2.1 92 = .ok (.aload 4, 2) := by decide +kernel
theorem d_C_copied_94 : decode u_C_copied.2.1 94 = .ok (.getfield 160, 3) := by decide +kernel
theorem d_C_copied_97 : decode u_C_copied.2.1 97 = .ok (.putfield 160, 3) := by decide +kernel
theorem d_C_copied_100 : decode u_C_copied.2.1 100 = .ok (.aload 5, 2) := by decide +kernel
theorem d_C_copied_102 : decode u_C_copied.2.1 102 = .ok (.iload_n 3, 1) := by decide +kernel
theorem d_C_copied_103 : decode u_C_copied.2.1 103 = .ok (.putfield 163, 3) := by decide +kernel
theorem d_C_copied_106 : decode u_C_copied.2.1 106 = .ok (.aload 5, 2) := by decide +kernel
theorem d_C_copied_108 : decode u_C_copied.2.1 108 = .ok (.iload_n 2, 1) := by decide +kernel
theorem d_C_copied_109 : decode u_C_copied.2.1 109 = .ok (.putfield 166, 3) := by decide +kernel
theorem d_C_copied_112 : decode u_C_copied.2.1 112 = .ok (.aload 5, 2) := by decide +kernel
theorem d_C_copied_114 : decode u_C_copied.2.1 114 = .ok (.iconst 4, 1) := by decide +kernel
theorem d_C_copied_115 : decode u_C_copied.2.1 115 = .ok (.putfield 173, 3) := by decide +kernel
theorem d_C_copied_118 : decode u_C_copied.2.1 118 = .ok (.aload_n 0, 1) := by decide +kernel
theorem d_C_copied_119 : decode u_C_copied.2.1 119 = .ok (.dup, 1) := by decide +kernel
theorem d_C_copied_120 : decode u_C_copied.2.1 120 = .ok (.getfield 146, 3) := by decide +kernel
theorem d_C_copied_123 : decode u_C_copied.2.1 123 = .ok (.iconst 1, 1) := by decide +kernel
theorem d_C_copied_124 : decode u_C_copied.2.1 124 = .ok (.iadd, 1) := by decide +kernel
theorem d_C_copied_125 : decode u_C_copied.2.1 125 = .ok (.putfield 146, 3) := by decide +kernel
theorem d_C_copied_128 : decode u_C_copied.2.1 128 = .ok (.aload_n 0, 1) := by decide +kernel
theorem d_C_copied_129 : decode u_C_copied.2.1 129 = .ok (.getfield 146, 3) := by decide +kernel
theorem d_C_copied_132 : decode u_C_copied.2.1 132 = .ok (.iconst 1, 1) := by decide +kernel
theorem d_C_copied_133 : decode u_C_copied.2.1 133 = .ok (.isub, 1) := by decide +kernel
theorem d_C_copied_134 : decode u_C_copied.2.1 134 = .ok (.ireturn, 1) := by decide +kernel
theorem d_C_line_0 : decode u_C_line.2.1 0 = .ok (.aload_n 0, 1) := by decide +kernel
theorem d_C_line_1 : decode u_C_line.2.1 1 = .ok (.iload_n 1, 1) := by decide +kernel
theorem d_C_line_2 : decode u_C_line.2.1 2 = .ok (.invokevirtual 176, 3) := by decide +kernel
theorem d_C_line_5 : decode u_C_line.2.1 5 = .ok (.ifCond .eq 24, 3) := by decide +kernel
theorem d_C_line_8 : decode u_C_line.2.1 8 = .ok (.iload_n 2, 1) := by decide +kernel
theorem d_C_line_9 : decode u_C_line.2.1 9 = .ok (.invokestatic 82, 3) := by decide +kernel
theorem d_C_line_12 : decode u_C_line.2.1 12 = .ok (.ifCond .eq 17, 3) := by decide +kernel
theorem d_C_line_15 : decode u_C_line.2.1 15 = .ok (.aload_n 0, 1) := by decide +kernel
theorem d_C_line_16 : decode u_C_line.2.1 16 = .ok (.getfield 23, 3) := by decide +kernel
theorem d_C_line_19 : decode u_C_line.2.1 19 = .ok (.iload_n 1, 1) := by decide +kernel
theorem d_C_line_20 : decode u_C_line.2.1 20 = .ok (.aaload, 1) := by decide +kernel
theorem d_C_line_21 : decode u_C_line.2.1 21 = .ok (.getfield 185, 3) := by decide +kernel
theorem d_C_line_24 : decode u_C_line.2.1 24 = .ok (.iload_n 2, 1) := by decide +kernel
theorem d_C_line_25 : decode u_C_line.2.1 25 = .ok (.iaload, 1) := by decide +kernel
theorem d_C_line_26 : decode u_C_line.2.1 26 = .ok (.goto 6, 3) := by decide +kernel
theorem d_C_line_29 : decode u_C_line.2.1 29 = .ok (.sipush (-10002), 3) := by decide +kernel
theorem d_C_line_32 : decode u_C_line.2.1 32 = .ok (.ireturn, 1) := by decide +kernel
theorem d_C_about_0 : decode u_C_about.2.1 0 = .ok (.aload_n 0, 1) := by decide +kernel
theorem d_C_about_1 : decode u_C_about.2.1 1 = .ok (.iload_n 1, 1) := by decide +kernel
theorem d_C_about_2 : decode u_C_about.2.1 2 = .ok (.invokevirtual 176, 3) := by decide +kernel
theorem d_C_about_5 : decode u_C_about.2.1 5 = .ok (.ifCond .ne 6, 3) := by decide +kernel
theorem d_C_about_8 : decode u_C_about.2.1 8 = .ok (.bipush (-2), 2) := by decide +kernel
theorem d_C_about_10 : decode u_C_about.2.1 10 = .ok (.ireturn, 1) := by decide +kernel
theorem d_C_about_11 : decode u_C_about.2.1 11 = .ok (.aload_n 0, 1) := by decide +kernel
theorem d_C_about_12 : decode u_C_about.2.1 12 = .ok (.getfield 23, 3) := by decide +kernel
theorem d_C_about_15 : decode u_C_about.2.1 15 = .ok (.iload_n 1, 1) := by decide +kernel
theorem d_C_about_16 : decode u_C_about.2.1 16 = .ok (.aaload, 1) := by decide +kernel
theorem d_C_about_17 : decode u_C_about.2.1 17 = .ok (.astore_n 3, 1) := by decide +kernel
theorem d_C_about_18 : decode u_C_about.2.1 18 = .ok (.iload_n 2, 1) := by decide +kernel
theorem d_C_about_19 : decode u_C_about.2.1 19 = .ok (.tableswitch 100 0 7 #[45, 50, 55, 60, 77, 83, 89, 95], 45) := by decide +kernel
theorem d_C_about_64 : decode u_C_about.2.1 64 = .ok (.aload_n 3, 1) := by decide +kernel
theorem d_C_about_65 : decode u_C_about.2.1 65 = .ok (.getfield 160, 3) := by decide +kernel
theorem d_C_about_68 : decode u_C_about.2.1 68 = .ok (.ireturn, 1) := by decide +kernel
theorem d_C_about_69 : decode u_C_about.2.1 69 = .ok (.aload_n 3, 1) := by decide +kernel
theorem d_C_about_70 : decode u_C_about.2.1 70 = .ok (.getfield 163, 3) := by decide +kernel
theorem d_C_about_73 : decode u_C_about.2.1 73 = .ok (.ireturn, 1) := by decide +kernel
theorem d_C_about_74 : decode u_C_about.2.1 74 = .ok (.aload_n 3, 1) := by decide +kernel
theorem d_C_about_75 : decode u_C_about.2.1 75 = .ok (.getfield 173, 3) := by decide +kernel
theorem d_C_about_78 : decode u_C_about.2.1 78 = .ok (.ireturn, 1) := by decide +kernel
theorem d_C_about_79 : decode u_C_about.2.1 79 = .ok (.aload_n 3, 1) := by decide +kernel
theorem d_C_about_80 : decode u_C_about.2.1 80 = .ok (.aload_n 0, 1) := by decide +kernel
theorem d_C_about_81 : decode u_C_about.2.1 81 = .ok (.getfield 39, 3) := by decide +kernel
theorem d_C_about_84 : decode u_C_about.2.1 84 = .ok (.invokevirtual 188, 3) := by decide +kernel
theorem d_C_about_87 : decode u_C_about.2.1 87 = .ok (.ifCond .eq 7, 3) := by decide +kernel
theorem d_C_about_90 : decode u_C_about.2.1 90 = .ok (.iconst 1, 1) := by decide +kernel
theorem d_C_about_91 : decode u_C_about.2.1 91 = .ok (.goto 4, 3) := by decide +kernel
theorem d_C_about_94 : decode u_C_about.2.1 94 = .ok (.iconst 0, 1) := by decide +kernel
theorem d_C_about_95 : decode u_C_about.2.1 95 = .ok (.ireturn, 1) := by decide +kernel
theorem d_C_about_96 : decode u_C_about.2.1 96 = .ok (.aload_n 0, 1) := by decide +kernel
theorem d_C_about_97 : decode u_C_about.2.1 97 = .ok (.iload_n 1, 1) := by decide +kernel
theorem d_C_about_98 : decode u_C_about.2.1 98 = .ok (.invokevirtual 191, 3) := by decide +kernel
theorem d_C_about_101 : decode u_C_about.2.1 101 = .ok (.ireturn, 1) := by decide +kernel
theorem d_C_about_102 : decode u_C_about.2.1 102 = .ok (.aload_n 0, 1) := by decide +kernel
theorem d_C_about_103 : decode u_C_about.2.1 103 = .ok (.iload_n 1, 1) := by decide +kernel
theorem d_C_about_104 : decode u_C_about.2.1 104 = .ok (.invokevirtual 194, 3) := by decide +kernel
theorem d_C_about_107 : decode u_C_about.2.1 107 = .ok (.ireturn, 1) := by decide +kernel
theorem d_C_about_108 : decode u_C_about.2.1 108 = .ok (.aload_n 0, 1) := by decide +kernel
theorem d_C_about_109 : decode u_C_about.2.1 109 = .ok (.aload_n 3, 1) := by decide +kernel
theorem d_C_about_110 : decode u_C_about.2.1 110 = .ok (.invokevirtual 197, 3) := by decide +kernel
theorem d_C_about_113 : decode u_C_about.2.1 113 = .ok (.ireturn, 1) := by decide +kernel
theorem d_C_about_114 : decode u_C_about.2.1 114 = .ok (.aload_n 3, 1) := by decide +kernel
theorem d_C_about_115 : decode u_C_about.2.1 115 = .ok (.getfield 166, 3) := by decide +kernel
theorem d_C_about_118 : decode u_C_about.2.1 118 = .ok (.ireturn, 1) := by decide +kernel
theorem d_C_about_119 : decode u_C_about.2.1 119 = .ok (.bipush (-2), 2) := by decide +kernel
theorem d_C_about_121 : decode u_C_about.2.1 121 = .ok (.ireturn, 1) := by decide +kernel
theorem d_C_unlike_0 : decode u_C_unlike.2.1 0 = .ok (.aload_n 0, 1) := by decide +kernel
theorem d_C_unlike_1 : decode u_C_unlike.2.1 1 = .ok (.iload_n 1, 1) := by decide +kernel
theorem d_C_unlike_2 : decode u_C_unlike.2.1 2 = .ok (.invokevirtual 176, 3) := by decide +kernel
theorem d_C_unlike_5 : decode u_C_unlike.2.1 5 = .ok (.ifCond .eq 11, 3) := by decide +kernel
theorem d_C_unlike_8 : decode u_C_unlike.2.1 8 = .ok (.aload_n 0, 1) := by decide +kernel
theorem d_C_unlike_9 : decode u_C_unlike.2.1 9 = .ok (.iload_n 2, 1) := by decide +kernel
theorem d_C_unlike_10 : decode u_C_unlike.2.1 10 = .ok (.invokevirtual 176, 3) := by decide +kernel
theorem d_C_unlike_13 : decode u_C_unlike.2.1 13 = .ok (.ifCond .ne 6, 3) := by decide +kernel
theorem d_C_unlike_16 : decode u_C_unlike.2.1 16 = .ok (.bipush (-2), 2) := by decide +kernel
theorem d_C_unlike_18 : decode u_C_unlike.2.1 18 = .ok (.ireturn, 1) := by decide +kernel
theorem d_C_unlike_19 : decode u_C_unlike.2.1 19 = .ok (.aload_n 0, 1) := by decide +kernel
theorem d_C_unlike_20 : decode u_C_unlike.2.1 20 = .ok (.getfield 23, 3) := by decide +kernel
theorem d_C_unlike_23 : decode u_C_unlike.2.1 23 = .ok (.iload_n 1, 1) := by decide +kernel
theorem d_C_unlike_24 : decode u_C_unlike.2.1 24 = .ok (.aaload, 1) := by decide +kernel
theorem d_C_unlike_25 : decode u_C_unlike.2.1 25 = .ok (.aload_n 0, 1) := by decide +kernel
theorem d_C_unlike_26 : decode u_C_unlike.2.1 26 = .ok (.getfield 23, 3) := by decide +kernel
theorem d_C_unlike_29 : decode u_C_unlike.2.1 29 = .ok (.iload_n 2, 1) := by decide +kernel
theorem d_C_unlike_30 : decode u_C_unlike.2.1 30 = .ok (.aaload, 1) := by decide +kernel
theorem d_C_unlike_31 : decode u_C_unlike.2.1 31 = .ok (.aload_n 0, 1) := by decide +kernel
theorem d_C_unlike_32 : decode u_C_unlike.2.1 32 = .ok (.getfield 46, 3) := by decide +kernel
theorem d_C_unlike_35 : decode u_C_unlike.2.1 35 = .ok (.invokevirtual 201, 3) := by decide +kernel
theorem d_C_unlike_38 : decode u_C_unlike.2.1 38 = .ok (.ireturn, 1) := by decide +kernel
theorem d_C_knower_0 : decode u_C_knower.2.1 0 = .ok (.aload_n 0, 1) := by decide +kernel
theorem d_C_knower_1 : decode u_C_knower.2.1 1 = .ok (.iload_n 1, 1) := by decide +kernel
theorem d_C_knower_2 : decode u_C_knower.2.1 2 = .ok (.invokevirtual 114, 3) := by decide +kernel
theorem d_C_knower_5 : decode u_C_knower.2.1 5 = .ok (.ifCond .eq 15, 3) := by decide +kernel
theorem d_C_knower_8 : decode u_C_knower.2.1 8 = .ok (.iload_n 2, 1) := by decide +kernel
theorem d_C_knower_9 : decode u_C_knower.2.1 9 = .ok (.ifCond .eq 14, 3) := by decide +kernel
theorem d_C_knower_12 : decode u_C_knower.2.1 12 = .ok (.aload_n 0, 1) := by decide +kernel
theorem d_C_knower_13 : decode u_C_knower.2.1 13 = .ok (.iload_n 2, 1) := by decide +kernel
theorem d_C_knower_14 : decode u_C_knower.2.1 14 = .ok (.invokevirtual 114, 3) := by decide +kernel
theorem d_C_knower_17 : decode u_C_knower.2.1 17 = .ok (.ifCond .ne 6, 3) := by decide +kernel
theorem d_C_knower_20 : decode u_C_knower.2.1 20 = .ok (.bipush (-2), 2) := by decide +kernel
theorem d_C_knower_22 : decode u_C_knower.2.1 22 = .ok (.ireturn, 1) := by decide +kernel
theorem d_C_knower_23 : decode u_C_knower.2.1 23 = .ok (.aload_n 0, 1) := by decide +kernel
theorem d_C_knower_24 : decode u_C_knower.2.1 24 = .ok (.getfield 205, 3) := by decide +kernel
theorem d_C_knower_27 : decode u_C_knower.2.1 27 = .ok (.iconst 4, 1) := by decide +kernel
theorem d_C_knower_28 : decode u_C_knower.2.1 28 = .ok (.if_icmp .lt 6, 3) := by decide +kernel
theorem d_C_knower_31 : decode u_C_knower.2.1 31 = .ok (.bipush (-4), 2) := by decide +kernel
theorem d_C_knower_33 : decode u_C_knower.2.1 33 = .ok (.ireturn, 1) := by decide +kernel
theorem d_C_knower_34 : decode u_C_knower.2.1 34 = .ok (.aload_n 0, 1) := by decide +kernel
theorem d_C_knower_35 : decode u_C_knower.2.1 35 = .ok (.getfield 29, 3) := by decide +kernel
theorem d_C_knower_38 : decode u_C_knower.2.1 38 = .ok (.aload_n 0, 1) := by decide +kernel
theorem d_C_knower_39 : decode u_C_knower.2.1 39 = .ok (.getfield 205, 3) := by decide +kernel
theorem d_C_knower_42 : decode u_C_knower.2.1 42 = .ok (.aaload, 1) := by decide +kernel
theorem d_C_knower_43 : decode u_C_knower.2.1 43 = .ok (.astore_n 3, 1) := by decide +kernel
theorem d_C_knower_44 : decode u_C_knower.2.1 44 = .ok (.aload_n 3, 1) := by decide +kernel
theorem d_C_knower_45 : decode u_C_knower.2.1 45 = .ok (.iload_n 2, 1) := by decide +kernel
theorem d_C_knower_46 : decode u_C_knower.2.1 46 = .ok (.putfield 208, 3) := by decide +kernel
theorem d_C_knower_49 : decode u_C_knower.2.1 49 = .ok (.aload_n 0, 1) := by decide +kernel
theorem d_C_knower_50 : decode u_C_knower.2.1 50 = .ok (.iload_n 1, 1) := by decide +kernel
theorem d_C_knower_51 : decode u_C_knower.2.1 51 = .ok (.aload_n 3, 1) := by decide +kernel
theorem d_C_knower_52 : decode u_C_knower.2.1 52 = .ok (.getfield 211, 3) := by decide +kernel
theorem d_C_knower_55 : decode u_C_knower.2.1 55 = .ok (.invokevirtual 152, 3) := by decide +kernel
theorem d_C_knower_58 : decode u_C_knower.2.1 58 = .ok (.aload_n 0, 1) := by decide +kernel
theorem d_C_knower_59 : decode u_C_knower.2.1 59 = .ok (.dup, 1) := by decide +kernel
theorem d_C_knower_60 : decode u_C_knower.2.1 60 = .ok (.getfield 205, 3) := by decide +kernel
theorem d_C_knower_63 : decode u_C_knower.2.1 63 = .ok (.iconst 1, 1) := by decide +kernel
theorem d_C_knower_64 : decode u_C_knower.2.1 64 = .ok (.iadd, 1) := by decide +kernel
theorem d_C_knower_65 : decode u_C_knower.2.1 65 = .ok (.putfield 205, 3) := by decide +kernel
theorem d_C_knower_68 : decode u_C_knower.2.1 68 = .ok (.aload_n 0, 1) := by decide +kernel
theorem d_C_knower_69 : decode u_C_knower.2.1 69 = .ok (.getfield 205, 3) := by decide +kernel
theorem d_C_knower_72 : decode u_C_knower.2.1 72 = .ok (.iconst 1, 1) := by decide +kernel
theorem d_C_knower_73 : decode u_C_knower.2.1 73 = .ok (.isub, 1) := by decide +kernel
theorem d_C_knower_74 : decode u_C_knower.2.1 74 = .ok (.ireturn, 1) := by decide +kernel
theorem d_C_look_0 : decode u_C_look.2.1 0 = .ok (.aload_n 0, 1) := by decide +kernel
theorem d_C_look_1 : decode u_C_look.2.1 1 = .ok (.iload_n 1, 1) := by decide +kernel
theorem d_C_look_2 : decode u_C_look.2.1 2 = .ok (.invokevirtual 214, 3) := by decide +kernel
theorem d_C_look_5 : decode u_C_look.2.1 5 = .ok (.ifCond .eq 21, 3) := by decide +kernel
theorem d_C_look_8 : decode u_C_look.2.1 8 = .ok (.aload_n 0, 1) := by decide +kernel
theorem d_C_look_9 : decode u_C_look.2.1 9 = .ok (.iload_n 2, 1) := by decide +kernel
theorem d_C_look_10 : decode u_C_look.2.1 10 = .ok (.invokevirtual 176, 3) := by decide +kernel
theorem d_C_look_13 : decode u_C_look.2.1 13 = .ok (.ifCond .eq 13, 3) := by decide +kernel
theorem d_C_look_16 : decode u_C_look.2.1 16 = .ok (.iload_n 3, 1) := by decide +kernel
theorem d_C_look_17 : decode u_C_look.2.1 17 = .ok (.ifCond .lt 9, 3) := by decide +kernel
theorem d_C_look_20 : decode u_C_look.2.1 20 = .ok (.iload_n 3, 1) := by decide +kernel
theorem d_C_look_21 : decode u_C_look.2.1 21 = .ok (.bipush 60, 2) := by decide +kernel
theorem d_C_look_23 : decode u_C_look.2.1 23 = .ok (.if_icmp .le 6, 3) := by decide +kernel
theorem d_C_look_26 : decode u_C_look.2.1 26 = .ok (.bipush (-2), 2) := by decide +kernel
theorem d_C_look_28 : decode u_C_look.2.1 28 = .ok (.ireturn, 1) := by decide +kernel
theorem d_C_look_29 : decode u_C_look.2.1 29 = .ok (.aload_n 0, 1) := by decide +kernel
theorem d_C_look_30 : decode u_C_look.2.1 30 = .ok (.getfield 29, 3) := by decide +kernel
theorem d_C_look_33 : decode u_C_look.2.1 33 = .ok (.iload_n 1, 1) := by decide +kernel
theorem d_C_look_34 : decode u_C_look.2.1 34 = .ok (.aaload, 1) := by decide +kernel
theorem d_C_look_35 : decode u_C_look.2.1 35 = .ok (.aload_n 0, 1) := by decide +kernel
theorem d_C_look_36 : decode u_C_look.2.1 36 = .ok (.getfield 23, 3) := by decide +kernel
theorem d_C_look_39 : decode u_C_look.2.1 39 = .ok (.iload_n 2, 1) := by decide +kernel
theorem d_C_look_40 : decode u_C_look.2.1 40 = .ok (.aaload, 1) := by decide +kernel
theorem d_C_look_41 : decode u_C_look.2.1 41 = .ok (.iload_n 3, 1) := by decide +kernel
theorem d_C_look_42 : decode u_C_look.2.1 42 = .ok (.aload_n 0, 1) := by decide +kernel
theorem d_C_look_43 : decode u_C_look.2.1 43 = .ok (.getfield 43, 3) := by decide +kernel
theorem d_C_look_46 : decode u_C_look.2.1 46 = .ok (.invokevirtual 217, 3) := by decide +kernel
theorem d_C_look_49 : decode u_C_look.2.1 49 = .ok (.iconst 1, 1) := by decide +kernel
theorem d_C_look_50 : decode u_C_look.2.1 50 = .ok (.ireturn, 1) := by decide +kernel
theorem d_C_leans_0 : decode u_C_leans.2.1 0 = .ok (.aload_n 0, 1) := by decide +kernel
theorem d_C_leans_1 : decode u_C_leans.2.1 1 = .ok (.iload_n 1, 1) := by decide +kernel
theorem d_C_leans_2 : decode u_C_leans.2.1 2 = .ok (.invokevirtual 214, 3) := by decide +kernel
theorem d_C_leans_5 : decode u_C_leans.2.1 5 = .ok (.ifCond .eq 24, 3) := by decide +kernel
theorem d_C_leans_8 : decode u_C_leans.2.1 8 = .ok (.iload_n 2, 1) := by decide +kernel
theorem d_C_leans_9 : decode u_C_leans.2.1 9 = .ok (.invokestatic 82, 3) := by decide +kernel
theorem d_C_leans_12 : decode u_C_leans.2.1 12 = .ok (.ifCond .eq 17, 3) := by decide +kernel
theorem d_C_leans_15 : decode u_C_leans.2.1 15 = .ok (.aload_n 0, 1) := by decide +kernel
theorem d_C_leans_16 : decode u_C_leans.2.1 16 = .ok (.getfield 29, 3) := by decide +kernel
theorem d_C_leans_19 : decode u_C_leans.2.1 19 = .ok (.iload_n 1, 1) := by decide +kernel
theorem d_C_leans_20 : decode u_C_leans.2.1 20 = .ok (.aaload, 1) := by decide +kernel
theorem d_C_leans_21 : decode u_C_leans.2.1 21 = .ok (.getfield 211, 3) := by decide +kernel
theorem d_C_leans_24 : decode u_C_leans.2.1 24 = .ok (.iload_n 2, 1) := by decide +kernel
theorem d_C_leans_25 : decode u_C_leans.2.1 25 = .ok (.iaload, 1) := by decide +kernel
theorem d_C_leans_26 : decode u_C_leans.2.1 26 = .ok (.goto 6, 3) := by decide +kernel
theorem d_C_leans_29 : decode u_C_leans.2.1 29 = .ok (.sipush (-10002), 3) := by decide +kernel
theorem d_C_leans_32 : decode u_C_leans.2.1 32 = .ok (.ireturn, 1) := by decide +kernel
theorem d_C_score_0 : decode u_C_score.2.1 0 = .ok (.aload_n 0, 1) := by decide +kernel
theorem d_C_score_1 : decode u_C_score.2.1 1 = .ok (.iload_n 1, 1) := by decide +kernel
theorem d_C_score_2 : decode u_C_score.2.1 2 = .ok (.invokevirtual 214, 3) := by decide +kernel
theorem d_C_score_5 : decode u_C_score.2.1 5 = .ok (.ifCond .eq 30, 3) := by decide +kernel
theorem d_C_score_8 : decode u_C_score.2.1 8 = .ok (.aload_n 0, 1) := by decide +kernel
theorem d_C_score_9 : decode u_C_score.2.1 9 = .ok (.iload_n 2, 1) := by decide +kernel
theorem d_C_score_10 : decode u_C_score.2.1 10 = .ok (.invokevirtual 176, 3) := by decide +kernel
theorem d_C_score_13 : decode u_C_score.2.1 13 = .ok (.ifCond .eq 22, 3) := by decide +kernel
theorem d_C_score_16 : decode u_C_score.2.1 16 = .ok (.aload_n 0, 1) := by decide +kernel
theorem d_C_score_17 : decode u_C_score.2.1 17 = .ok (.iload_n 3, 1) := by decide +kernel
theorem d_C_score_18 : decode u_C_score.2.1 18 = .ok (.invokevirtual 78, 3) := by decide +kernel
theorem d_C_score_21 : decode u_C_score.2.1 21 = .ok (.ifCond .eq 14, 3) := by decide +kernel
theorem d_C_score_24 : decode u_C_score.2.1 24 = .ok (.iload 4, 2) := by decide +kernel
theorem d_C_score_26 : decode u_C_score.2.1 26 = .ok (.ifCond .lt 9, 3) := by decide +kernel
theorem d_C_score_29 : decode u_C_score.2.1 29 = .ok (.iload 4, 2) := by decide +kernel
theorem d_C_score_31 : decode u_C_score.2.1 31 = .ok (.iconst 1, 1) := by decide +kernel
theorem d_C_score_32 : decode u_C_score.2.1 32 = .ok (.if_icmp .le 7, 3) := by decide +kernel
theorem d_C_score_35 : decode u_C_score.2.1 35 = .ok (.ldc2_w 221, 3) := by decide +kernel
theorem d_C_score_38 : decode u_C_score.2.1 38 = .ok (.lreturn, 1) := by decide +kernel
theorem d_C_score_39 : decode u_C_score.2.1 39 = .ok (.aload_n 0, 1) := by decide +kernel
theorem d_C_score_40 : decode u_C_score.2.1 40 = .ok (.getfield 29, 3) := by decide +kernel
theorem d_C_score_43 : decode u_C_score.2.1 43 = .ok (.iload_n 1, 1) := by decide +kernel
theorem d_C_score_44 : decode u_C_score.2.1 44 = .ok (.aaload, 1) := by decide +kernel
theorem d_C_score_45 : decode u_C_score.2.1 45 = .ok (.iload_n 3, 1) := by decide +kernel
theorem d_C_score_46 : decode u_C_score.2.1 46 = .ok (.invokevirtual 223, 3) := by decide +kernel
theorem d_C_score_49 : decode u_C_score.2.1 49 = .ok (.ifCond .ne 7, 3) := by decide +kernel
theorem d_C_score_52 : decode u_C_score.2.1 52 = .ok (.ldc2_w 226, 3) := by decide +kernel
theorem d_C_score_55 : decode u_C_score.2.1 55 = .ok (.lreturn, 1) := by decide +kernel
theorem d_C_score_56 : decode u_C_score.2.1 56 = .ok (.aload_n 0, 1) := by decide +kernel
theorem d_C_score_57 : decode u_C_score.2.1 57 = .ok (.getfield 29, 3) := by decide +kernel
theorem d_C_score_60 : decode u_C_score.2.1 60 = .ok (.iload_n 1, 1) := by decide +kernel
theorem d_C_score_61 : decode u_C_score.2.1 61 = .ok (.aaload, 1) := by decide +kernel
theorem d_C_score_62 : decode u_C_score.2.1 62 = .ok (.aload_n 0, 1) := by decide +kernel
theorem d_C_score_63 : decode u_C_score.2.1 63 = .ok (.getfield 23, 3) := by decide +kernel
theorem d_C_score_66 : decode u_C_score.2.1 66 = .ok (.iload_n 2, 1) := by decide +kernel
theorem d_C_score_67 : decode u_C_score.2.1 67 = .ok (.aaload, 1) := by decide +kernel
theorem d_C_score_68 : decode u_C_score.2.1 68 = .ok (.aload_n 0, 1) := by decide +kernel
theorem d_C_score_69 : decode u_C_score.2.1 69 = .ok (.getfield 11, 3) := by decide +kernel
theorem d_C_score_72 : decode u_C_score.2.1 72 = .ok (.iload_n 3, 1) := by decide +kernel
theorem d_C_score_73 : decode u_C_score.2.1 73 = .ok (.aaload, 1) := by decide +kernel
theorem d_C_score_74 : decode u_C_score.2.1 74 = .ok (.aload_n 0, 1) := by decide +kernel
theorem d_C_score_75 : decode u_C_score.2.1 75 = .ok (.getfield 64, 3) := by decide +kernel
theorem d_C_score_78 : decode u_C_score.2.1 78 = .ok (.invokevirtual 228, 3) := by decide +kernel
theorem d_C_score_81 : decode u_C_score.2.1 81 = .ok (.aload_n 0, 1) := by decide +kernel
theorem d_C_score_82 : decode u_C_score.2.1 82 = .ok (.getfield 64, 3) := by decide +kernel
theorem d_C_score_85 : decode u_C_score.2.1 85 = .ok (.iload 4, 2) := by decide +kernel
theorem d_C_score_87 : decode u_C_score.2.1 87 = .ok (.invokevirtual 232, 3) := by decide +kernel
theorem d_C_score_90 : decode u_C_score.2.1 90 = .ok (.lreturn, 1) := by decide +kernel
theorem d_C_named_0 : decode u_C_named.2.1 0 = .ok (.aload_n 0, 1) := by decide +kernel
theorem d_C_named_1 : decode u_C_named.2.1 1 = .ok (.iload_n 1, 1) := by decide +kernel
theorem d_C_named_2 : decode u_C_named.2.1 2 = .ok (.invokevirtual 214, 3) := by decide +kernel
theorem d_C_named_5 : decode u_C_named.2.1 5 = .ok (.ifCond .eq 20, 3) := by decide +kernel
theorem d_C_named_8 : decode u_C_named.2.1 8 = .ok (.aload_n 0, 1) := by decide +kernel
theorem d_C_named_9 : decode u_C_named.2.1 9 = .ok (.iload_n 2, 1) := by decide +kernel
theorem d_C_named_10 : decode u_C_named.2.1 10 = .ok (.invokevirtual 176, 3) := by decide +kernel
theorem d_C_named_13 : decode u_C_named.2.1 13 = .ok (.ifCond .eq 12, 3) := by decide +kernel
theorem d_C_named_16 : decode u_C_named.2.1 16 = .ok (.iload_n 3, 1) := by decide +kernel
theorem d_C_named_17 : decode u_C_named.2.1 17 = .ok (.ifCond .lt 8, 3) := by decide +kernel
theorem d_C_named_20 : decode u_C_named.2.1 20 = .ok (.iload_n 3, 1) := by decide +kernel
theorem d_C_named_21 : decode u_C_named.2.1 21 = .ok (.iconst 1, 1) := by decide +kernel
theorem d_C_named_22 : decode u_C_named.2.1 22 = .ok (.if_icmp .le 6, 3) := by decide +kernel
theorem d_C_named_25 : decode u_C_named.2.1 25 = .ok (.bipush (-2), 2) := by decide +kernel
theorem d_C_named_27 : decode u_C_named.2.1 27 = .ok (.ireturn, 1) := by decide +kernel
theorem d_C_named_28 : decode u_C_named.2.1 28 = .ok (.aload_n 0, 1) := by decide +kernel
theorem d_C_named_29 : decode u_C_named.2.1 29 = .ok (.aload_n 0, 1) := by decide +kernel
theorem d_C_named_30 : decode u_C_named.2.1 30 = .ok (.getfield 29, 3) := by decide +kernel
theorem d_C_named_33 : decode u_C_named.2.1 33 = .ok (.iload_n 1, 1) := by decide +kernel
theorem d_C_named_34 : decode u_C_named.2.1 34 = .ok (.aaload, 1) := by decide +kernel
theorem d_C_named_35 : decode u_C_named.2.1 35 = .ok (.aload_n 0, 1) := by decide +kernel
theorem d_C_named_36 : decode u_C_named.2.1 36 = .ok (.getfield 23, 3) := by decide +kernel
theorem d_C_named_39 : decode u_C_named.2.1 39 = .ok (.iload_n 2, 1) := by decide +kernel
theorem d_C_named_40 : decode u_C_named.2.1 40 = .ok (.aaload, 1) := by decide +kernel
theorem d_C_named_41 : decode u_C_named.2.1 41 = .ok (.invokevirtual 236, 3) := by decide +kernel
theorem d_C_named_44 : decode u_C_named.2.1 44 = .ok (.istore 4, 2) := by decide +kernel
theorem d_C_named_46 : decode u_C_named.2.1 46 = .ok (.iload_n 3, 1) := by decide +kernel
theorem d_C_named_47 : decode u_C_named.2.1 47 = .ok (.ifCond .ne 6, 3) := by decide +kernel
theorem d_C_named_50 : decode u_C_named.2.1 50 = .ok (.iload 4, 2) := by decide +kernel
theorem d_C_named_52 : decode u_C_named.2.1 52 = .ok (.ireturn, 1) := by decide +kernel
theorem d_C_named_53 : decode u_C_named.2.1 53 = .ok (.iload 4, 2) := by decide +kernel
theorem d_C_named_55 : decode u_C_named.2.1 55 = .ok (.iconst (-1), 1) := by decide +kernel
theorem d_C_named_56 : decode u_C_named.2.1 56 = .ok (.if_icmp .ne 8, 3) := by decide +kernel
theorem d_C_named_59 : decode u_C_named.2.1 59 = .ok (.bipush (-3), 2) := by decide +kernel
theorem d_C_named_61 : decode u_C_named.2.1 61 = .ok (.goto 21, 3) := by decide +kernel
theorem d_C_named_64 : decode u_C_named.2.1 64 = .ok (.aload_n 0, 1) := by decide +kernel
theorem d_C_named_65 : decode u_C_named.2.1 65 = .ok (.aload_n 0, 1) := by decide +kernel
theorem d_C_named_66 : decode u_C_named.2.1 66 = .ok (.getfield 29, 3) := by decide +kernel
theorem d_C_named_69 : decode u_C_named.2.1 69 = .ok (.iload_n 1, 1) := by decide +kernel
theorem d_C_named_70 : decode u_C_named.2.1 70 = .ok (.aaload, 1) := by decide +kernel
theorem d_C_named_71 : decode u_C_named.2.1 71 = .ok (.aload_n 0, 1) := by decide +kernel
theorem d_C_named_72 : decode u_C_named.2.1 72 = .ok (.getfield 23, 3) := by decide +kernel
theorem d_C_named_75 : decode u_C_named.2.1 75 = .ok (.iload_n 2, 1) := by decide +kernel
theorem d_C_named_76 : decode u_C_named.2.1 76 = .ok (.aaload, 1) := by decide +kernel
theorem d_C_named_77 : decode u_C_named.2.1 77 = .ok (.iload 4, 2) := by decide +kernel
theorem d_C_named_79 : decode u_C_named.2.1 79 = .ok (.invokevirtual 240, 3) := by decide +kernel
theorem d_C_named_82 : decode u_C_named.2.1 82 = .ok (.ireturn, 1) := by decide +kernel
theorem d_C_much_0 : decode u_C_much.2.1 0 = .ok (.aload_n 0, 1) := by decide +kernel
theorem d_C_much_1 : decode u_C_much.2.1 1 = .ok (.iload_n 1, 1) := by decide +kernel
theorem d_C_much_2 : decode u_C_much.2.1 2 = .ok (.invokevirtual 214, 3) := by decide +kernel
theorem d_C_much_5 : decode u_C_much.2.1 5 = .ok (.ifCond .eq 30, 3) := by decide +kernel
theorem d_C_much_8 : decode u_C_much.2.1 8 = .ok (.aload_n 0, 1) := by decide +kernel
theorem d_C_much_9 : decode u_C_much.2.1 9 = .ok (.iload_n 2, 1) := by decide +kernel
theorem d_C_much_10 : decode u_C_much.2.1 10 = .ok (.invokevirtual 78, 3) := by decide +kernel
theorem d_C_much_13 : decode u_C_much.2.1 13 = .ok (.ifCond .eq 22, 3) := by decide +kernel
theorem d_C_much_16 : decode u_C_much.2.1 16 = .ok (.aload_n 0, 1) := by decide +kernel
theorem d_C_much_17 : decode u_C_much.2.1 17 = .ok (.iload_n 3, 1) := by decide +kernel
theorem d_C_much_18 : decode u_C_much.2.1 18 = .ok (.invokevirtual 114, 3) := by decide +kernel
theorem d_C_much_21 : decode u_C_much.2.1 21 = .ok (.ifCond .eq 14, 3) := by decide +kernel
theorem d_C_much_24 : decode u_C_much.2.1 24 = .ok (.iload 4, 2) := by decide +kernel
theorem d_C_much_26 : decode u_C_much.2.1 26 = .ok (.ifCond .lt 9, 3) := by decide +kernel
theorem d_C_much_29 : decode u_C_much.2.1 29 = .ok (.iload 4, 2) := by decide +kernel
theorem d_C_much_31 : decode u_C_much.2.1 31 = .ok (.iconst 2, 1) := by decide +kernel
theorem d_C_much_32 : decode u_C_much.2.1 32 = .ok (.if_icmp .le 6, 3) := by decide +kernel
theorem d_C_much_35 : decode u_C_much.2.1 35 = .ok (.bipush (-2), 2) := by decide +kernel
theorem d_C_much_37 : decode u_C_much.2.1 37 = .ok (.ireturn, 1) := by decide +kernel
theorem d_C_much_38 : decode u_C_much.2.1 38 = .ok (.iload 4, 2) := by decide +kernel
theorem d_C_much_40 : decode u_C_much.2.1 40 = .ok (.iconst 2, 1) := by decide +kernel
theorem d_C_much_41 : decode u_C_much.2.1 41 = .ok (.if_icmp .eq 19, 3) := by decide +kernel
theorem d_C_much_44 : decode u_C_much.2.1 44 = .ok (.aload_n 0, 1) := by decide +kernel
theorem d_C_much_45 : decode u_C_much.2.1 45 = .ok (.getfield 29, 3) := by decide +kernel
theorem d_C_much_48 : decode u_C_much.2.1 48 = .ok (.iload_n 1, 1) := by decide +kernel
theorem d_C_much_49 : decode u_C_much.2.1 49 = .ok (.aaload, 1) := by decide +kernel
theorem d_C_much_50 : decode u_C_much.2.1 50 = .ok (.iload_n 2, 1) := by decide +kernel
theorem d_C_much_51 : decode u_C_much.2.1 51 = .ok (.invokevirtual 223, 3) := by decide +kernel
theorem d_C_much_54 : decode u_C_much.2.1 54 = .ok (.ifCond .ne 6, 3) := by decide +kernel
theorem d_C_much_57 : decode u_C_much.2.1 57 = .ok (.bipush (-3), 2) := by decide +kernel
theorem d_C_much_59 : decode u_C_much.2.1 59 = .ok (.ireturn, 1) := by decide +kernel
theorem d_C_much_60 : decode u_C_much.2.1 60 = .ok (.aload_n 0, 1) := by decide +kernel
theorem d_C_much_61 : decode u_C_much.2.1 61 = .ok (.iload_n 3, 1) := by decide +kernel
theorem d_C_much_62 : decode u_C_much.2.1 62 = .ok (.aload_n 0, 1) := by decide +kernel
theorem d_C_much_63 : decode u_C_much.2.1 63 = .ok (.getfield 50, 3) := by decide +kernel
theorem d_C_much_66 : decode u_C_much.2.1 66 = .ok (.getfield 149, 3) := by decide +kernel
theorem d_C_much_69 : decode u_C_much.2.1 69 = .ok (.invokevirtual 152, 3) := by decide +kernel
theorem d_C_much_72 : decode u_C_much.2.1 72 = .ok (.iload 4, 2) := by decide +kernel
theorem d_C_much_74 : decode u_C_much.2.1 74 = .ok (.iconst 2, 1) := by decide +kernel
theorem d_C_much_75 : decode u_C_much.2.1 75 = .ok (.if_icmp .ne 9, 3) := by decide +kernel
theorem d_C_much_78 : decode u_C_much.2.1 78 = .ok (.aload_n 0, 1) := by decide +kernel
theorem d_C_much_79 : decode u_C_much.2.1 79 = .ok (.iload_n 2, 1) := by decide +kernel
theorem d_C_much_80 : decode u_C_much.2.1 80 = .ok (.invokevirtual 244, 3) := by decide +kernel
theorem d_C_much_83 : decode u_C_much.2.1 83 = .ok (.ireturn, 1) := by decide +kernel
theorem d_C_much_84 : decode u_C_much.2.1 84 = .ok (.iload 4, 2) := by decide +kernel
theorem d_C_much_86 : decode u_C_much.2.1 86 = .ok (.ifCond .ne 17, 3) := by decide +kernel
theorem d_C_much_89 : decode u_C_much.2.1 89 = .ok (.aload_n 0, 1) := by decide +kernel
theorem d_C_much_90 : decode u_C_much.2.1 90 = .ok (.aload_n 0, 1) := by decide +kernel
theorem d_C_much_91 : decode u_C_much.2.1 91 = .ok (.getfield 29, 3) := by decide +kernel
theorem d_C_much_94 : decode u_C_much.2.1 94 = .ok (.iload_n 1, 1) := by decide +kernel
theorem d_C_much_95 : decode u_C_much.2.1 95 = .ok (.aaload, 1) := by decide +kernel
theorem d_C_much_96 : decode u_C_much.2.1 96 = .ok (.iload_n 2, 1) := by decide +kernel
theorem d_C_much_97 : decode u_C_much.2.1 97 = .ok (.invokevirtual 247, 3) := by decide +kernel
theorem d_C_much_100 : decode u_C_much.2.1 100 = .ok (.goto 14, 3) := by decide +kernel
theorem d_C_much_103 : decode u_C_much.2.1 103 = .ok (.aload_n 0, 1) := by decide +kernel
theorem d_C_much_104 : decode u_C_much.2.1 104 = .ok (.aload_n 0, 1) := by decide +kernel
theorem d_C_much_105 : decode u_C_much.2.1 105 = .ok (.getfield 29, 3) := by decide +kernel
theorem d_C_much_108 : decode u_C_much.2.1 108 = .ok (.iload_n 1, 1) := by decide +kernel
theorem d_C_much_109 : decode u_C_much.2.1 109 = .ok (.aaload, 1) := by decide +kernel
theorem d_C_much_110 : decode u_C_much.2.1 110 = .ok (.iload_n 2, 1) := by decide +kernel
theorem d_C_much_111 : decode u_C_much.2.1 111 = .ok (.invokevirtual 251, 3) := by decide +kernel
theorem d_C_much_114 : decode u_C_much.2.1 114 = .ok (.ireturn, 1) := by decide +kernel
theorem d_C_few_0 : decode u_C_few.2.1 0 = .ok (.aload_n 0, 1) := by decide +kernel
theorem d_C_few_1 : decode u_C_few.2.1 1 = .ok (.iload_n 1, 1) := by decide +kernel
theorem d_C_few_2 : decode u_C_few.2.1 2 = .ok (.iload_n 2, 1) := by decide +kernel
theorem d_C_few_3 : decode u_C_few.2.1 3 = .ok (.iload_n 3, 1) := by decide +kernel
theorem d_C_few_4 : decode u_C_few.2.1 4 = .ok (.iload 4, 2) := by decide +kernel
theorem d_C_few_6 : decode u_C_few.2.1 6 = .ok (.invokevirtual 254, 3) := by decide +kernel
theorem d_C_few_9 : decode u_C_few.2.1 9 = .ok (.istore 5, 2) := by decide +kernel
theorem d_C_few_11 : decode u_C_few.2.1 11 = .ok (.iload 5, 2) := by decide +kernel
theorem d_C_few_13 : decode u_C_few.2.1 13 = .ok (.ifCond .eq 6, 3) := by decide +kernel
theorem d_C_few_16 : decode u_C_few.2.1 16 = .ok (.iload 5, 2) := by decide +kernel
theorem d_C_few_18 : decode u_C_few.2.1 18 = .ok (.ireturn, 1) := by decide +kernel
theorem d_C_few_19 : decode u_C_few.2.1 19 = .ok (.aload_n 0, 1) := by decide +kernel
theorem d_C_few_20 : decode u_C_few.2.1 20 = .ok (.iload_n 3, 1) := by decide +kernel
theorem d_C_few_21 : decode u_C_few.2.1 21 = .ok (.aload_n 0, 1) := by decide +kernel
theorem d_C_few_22 : decode u_C_few.2.1 22 = .ok (.getfield 50, 3) := by decide +kernel
theorem d_C_few_25 : decode u_C_few.2.1 25 = .ok (.getfield 149, 3) := by decide +kernel
theorem d_C_few_28 : decode u_C_few.2.1 28 = .ok (.invokevirtual 152, 3) := by decide +kernel
theorem d_C_few_31 : decode u_C_few.2.1 31 = .ok (.iconst 1, 1) := by decide +kernel
theorem d_C_few_32 : decode u_C_few.2.1 32 = .ok (.istore 6, 2) := by decide +kernel
theorem d_C_few_34 : decode u_C_few.2.1 34 = .ok (.iload 6, 2) := by decide +kernel
theorem d_C_few_36 : decode u_C_few.2.1 36 = .ok (.bipush 8, 2) := by decide +kernel
theorem d_C_few_38 : decode u_C_few.2.1 38 = .ok (.if_icmp .gt 57, 3) := by decide +kernel
theorem d_C_few_41 : decode u_C_few.2.1 41 = .ok (.iconst 1, 1) := by decide +kernel
theorem d_C_few_42 : decode u_C_few.2.1 42 = .ok (.istore 7, 2) := by decide +kernel
theorem d_C_few_44 : decode u_C_few.2.1 44 = .ok (.iload 7, 2) := by decide +kernel
theorem d_C_few_46 : decode u_C_few.2.1 46 = .ok (.sipush 256, 3) := by decide +kernel
theorem d_C_few_49 : decode u_C_few.2.1 49 = .ok (.if_icmp .ge 40, 3) := by decide +kernel
theorem d_C_few_52 : decode u_C_few.2.1 52 = .ok (.iload 7, 2) := by decide +kernel
theorem d_C_few_54 : decode u_C_few.2.1 54 = .ok (.invokestatic 258, 3) := by decide +kernel
theorem d_C_few_57 : decode u_C_few.2.1 57 = .ok (.iload 6, 2) := by decide +kernel
theorem d_C_few_59 : decode u_C_few.2.1 59 = .ok (.if_icmp .ne 24, 3) := by decide +kernel
theorem d_C_few_62 : decode u_C_few.2.1 62 = .ok (.aload_n 0, 1) := by decide +kernel
theorem d_C_few_63 : decode u_C_few.2.1 63 = .ok (.aload_n 0, 1) := by decide +kernel
theorem d_C_few_64 : decode u_C_few.2.1 64 = .ok (.getfield 29, 3) := by decide +kernel
theorem d_C_few_67 : decode u_C_few.2.1 67 = .ok (.iload_n 1, 1) := by decide +kernel
theorem d_C_few_68 : decode u_C_few.2.1 68 = .ok (.aaload, 1) := by decide +kernel
theorem d_C_few_69 : decode u_C_few.2.1 69 = .ok (.iload_n 2, 1) := by decide +kernel
theorem d_C_few_70 : decode u_C_few.2.1 70 = .ok (.iload 7, 2) := by decide +kernel
theorem d_C_few_72 : decode u_C_few.2.1 72 = .ok (.iload 4, 2) := by decide +kernel
theorem d_C_few_74 : decode u_C_few.2.1 74 = .ok (.invokevirtual 263, 3) := by decide +kernel
theorem d_C_few_77 : decode u_C_few.2.1 77 = .ok (.ifCond .eq 6, 3) := by decide +kernel
theorem d_C_few_80 : decode u_C_few.2.1 80 = .ok (.iload 7, 2) := by decide +kernel
theorem d_C_few_82 : decode u_C_few.2.1 82 = .ok (.ireturn, 1) := by decide +kernel
theorem d_C_few_83 : decode u_C_few.2.1 83 = .ok (.iinc 7 1, 3) := by decide +kernel
theorem d_C_few_86 : decode u_C_few.2.1 86 = .ok (.goto (-42), 3) := by decide +kernel
theorem d_C_few_89 : decode u_C_few.2.1 89 = .ok (.iinc 6 1, 3) := by decide +kernel
theorem d_C_few_92 : decode u_C_few.2.1 92 = .ok (.goto (-58), 3) := by decide +kernel
theorem d_C_few_95 : decode u_C_few.2.1 95 = .ok (.iconst (-1), 1) := by decide +kernel
theorem d_C_few_96 : decode u_C_few.2.1 96 = .ok (.ireturn, 1) := by decide +kernel
theorem d_C_stands_0 : decode u_C_stands.2.1 0 = .ok (.aload_n 0, 1) := by decide +kernel
theorem d_C_stands_1 : decode u_C_stands.2.1 1 = .ok (.iload_n 1, 1) := by decide +kernel
theorem d_C_stands_2 : decode u_C_stands.2.1 2 = .ok (.iload_n 2, 1) := by decide +kernel
theorem d_C_stands_3 : decode u_C_stands.2.1 3 = .ok (.iload_n 3, 1) := by decide +kernel
theorem d_C_stands_4 : decode u_C_stands.2.1 4 = .ok (.iload 4, 2) := by decide +kernel
theorem d_C_stands_6 : decode u_C_stands.2.1 6 = .ok (.invokevirtual 254, 3) := by decide +kernel
theorem d_C_stands_9 : decode u_C_stands.2.1 9 = .ok (.istore 5, 2) := by decide +kernel
theorem d_C_stands_11 : decode u_C_stands.2.1 11 = .ok (.iload 5, 2) := by decide +kernel
theorem d_C_stands_13 : decode u_C_stands.2.1 13 = .ok (.ifCond .eq 6, 3) := by decide +kernel
theorem d_C_stands_16 : decode u_C_stands.2.1 16 = .ok (.iload 5, 2) := by decide +kernel
theorem d_C_stands_18 : decode u_C_stands.2.1 18 = .ok (.ireturn, 1) := by decide +kernel
theorem d_C_stands_19 : decode u_C_stands.2.1 19 = .ok (.aload_n 0, 1) := by decide +kernel
theorem d_C_stands_20 : decode u_C_stands.2.1 20 = .ok (.iload_n 3, 1) := by decide +kernel
theorem d_C_stands_21 : decode u_C_stands.2.1 21 = .ok (.aload_n 0, 1) := by decide +kernel
theorem d_C_stands_22 : decode u_C_stands.2.1 22 = .ok (.getfield 50, 3) := by decide +kernel
theorem d_C_stands_25 : decode u_C_stands.2.1 25 = .ok (.getfield 149, 3) := by decide +kernel
theorem d_C_stands_28 : decode u_C_stands.2.1 28 = .ok (.invokevirtual 152, 3) := by decide +kernel
theorem d_C_stands_31 : decode u_C_stands.2.1 31 = .ok (.iconst 0, 1) := by decide +kernel
theorem d_C_stands_32 : decode u_C_stands.2.1 32 = .ok (.istore 6, 2) := by decide +kernel
theorem d_C_stands_34 : decode u_C_stands.2.1 34 = .ok (.iconst 0, 1) := by decide +kernel
theorem d_C_stands_35 : decode u_C_stands.2.1 35 = .ok (.istore 7, 2) := by decide +kernel
theorem d_C_stands_37 : decode u_C_stands.2.1 37 = .ok (.iload 7, 2) := by decide +kernel
theorem d_C_stands_39 : decode u_C_stands.2.1 39 = .ok (.bipush 8, 2) := by decide +kernel
theorem d_C_stands_41 : decode u_C_stands.2.1 41 = .ok (.if_icmp .ge 38, 3) := by decide +kernel
theorem d_C_stands_44 : decode u_C_stands.2.1 44 = .ok (.aload_n 0, 1) := by decide +kernel
theorem d_C_stands_45 : decode u_C_stands.2.1 45 = .ok (.aload_n 0, 1) := by decide +kernel
theorem d_C_stands_46 : decode u_C_stands.2.1 46 = .ok (.getfield 29, 3) := by decide +kernel
theorem d_C_stands_49 : decode u_C_stands.2.1 49 = .ok (.iload_n 1, 1) := by decide +kernel
theorem d_C_stands_50 : decode u_C_stands.2.1 50 = .ok (.aaload, 1) := by decide +kernel
theorem d_C_stands_51 : decode u_C_stands.2.1 51 = .ok (.iload_n 2, 1) := by decide +kernel
theorem d_C_stands_52 : decode u_C_stands.2.1 52 = .ok (.iconst 1, 1) := by decide +kernel
theorem d_C_stands_53 : decode u_C_stands.2.1 53 = .ok (.iload 7, 2) := by decide +kernel
theorem d_C_stands_55 : decode u_C_stands.2.1 55 = .ok (.ishl, 1) := by decide +kernel
theorem d_C_stands_56 : decode u_C_stands.2.1 56 = .ok (.iload 4, 2) := by decide +kernel
theorem d_C_stands_58 : decode u_C_stands.2.1 58 = .ok (.invokevirtual 263, 3) := by decide +kernel
theorem d_C_stands_61 : decode u_C_stands.2.1 61 = .ok (.ifCond .eq 12, 3) := by decide +kernel
theorem d_C_stands_64 : decode u_C_stands.2.1 64 = .ok (.iload 6, 2) := by decide +kernel
theorem d_C_stands_66 : decode u_C_stands.2.1 66 = .ok (.iconst 1, 1) := by decide +kernel
theorem d_C_stands_67 : decode u_C_stands.2.1 67 = .ok (.iload 7, 2) := by decide +kernel
theorem d_C_stands_69 : decode u_C_stands.2.1 69 = .ok (.ishl, 1) := by decide +kernel
theorem d_C_stands_70 : decode u_C_stands.2.1 70 = .ok (.ior, 1) := by decide +kernel
theorem d_C_stands_71 : decode u_C_stands.2.1 71 = .ok (.istore 6, 2) := by decide +kernel
theorem d_C_stands_73 : decode u_C_stands.2.1 73 = .ok (.iinc 7 1, 3) := by decide +kernel
theorem d_C_stands_76 : decode u_C_stands.2.1 76 = .ok (.goto (-39), 3) := by decide +kernel
theorem d_C_stands_79 : decode u_C_stands.2.1 79 = .ok (.iload 6, 2) := by decide +kernel
theorem d_C_stands_81 : decode u_C_stands.2.1 81 = .ok (.ireturn, 1) := by decide +kernel
theorem d_C_grows_0 : decode u_C_grows.2.1 0 = .ok (.aload_n 0, 1) := by decide +kernel
theorem d_C_grows_1 : decode u_C_grows.2.1 1 = .ok (.iload_n 1, 1) := by decide +kernel
theorem d_C_grows_2 : decode u_C_grows.2.1 2 = .ok (.invokevirtual 78, 3) := by decide +kernel
theorem d_C_grows_5 : decode u_C_grows.2.1 5 = .ok (.ifCond .eq 19, 3) := by decide +kernel
theorem d_C_grows_8 : decode u_C_grows.2.1 8 = .ok (.iload_n 2, 1) := by decide +kernel
theorem d_C_grows_9 : decode u_C_grows.2.1 9 = .ok (.invokestatic 82, 3) := by decide +kernel
theorem d_C_grows_12 : decode u_C_grows.2.1 12 = .ok (.ifCond .eq 12, 3) := by decide +kernel
theorem d_C_grows_15 : decode u_C_grows.2.1 15 = .ok (.iload_n 3, 1) := by decide +kernel
theorem d_C_grows_16 : decode u_C_grows.2.1 16 = .ok (.ifCond .lt 8, 3) := by decide +kernel
theorem d_C_grows_19 : decode u_C_grows.2.1 19 = .ok (.iload_n 3, 1) := by decide +kernel
theorem d_C_grows_20 : decode u_C_grows.2.1 20 = .ok (.iconst 1, 1) := by decide +kernel
theorem d_C_grows_21 : decode u_C_grows.2.1 21 = .ok (.if_icmp .le 7, 3) := by decide +kernel
theorem d_C_grows_24 : decode u_C_grows.2.1 24 = .ok (.ldc2_w 221, 3) := by decide +kernel
theorem d_C_grows_27 : decode u_C_grows.2.1 27 = .ok (.lreturn, 1) := by decide +kernel
theorem d_C_grows_28 : decode u_C_grows.2.1 28 = .ok (.lconst 0, 1) := by decide +kernel
theorem d_C_grows_29 : decode u_C_grows.2.1 29 = .ok (.lstore 4, 2) := by decide +kernel
theorem d_C_grows_31 : decode u_C_grows.2.1 31 = .ok (.lconst 0, 1) := by decide +kernel
theorem d_C_grows_32 : decode u_C_grows.2.1 32 = .ok (.lstore 6, 2) := by decide +kernel
theorem d_C_grows_34 : decode u_C_grows.2.1 34 = .ok (.lconst 0, 1) := by decide +kernel
theorem d_C_grows_35 : decode u_C_grows.2.1 35 = .ok (.lstore 8, 2) := by decide +kernel
theorem d_C_grows_37 : decode u_C_grows.2.1 37 = .ok (.lconst 0, 1) := by decide +kernel
theorem d_C_grows_38 : decode u_C_grows.2.1 38 = .ok (.lstore 10, 2) := by decide +kernel
theorem d_C_grows_40 : decode u_C_grows.2.1 40 = .ok (.lconst 0, 1) := by decide +kernel
theorem d_C_grows_41 : decode u_C_grows.2.1 41 = .ok (.lstore 12, 2) := by decide +kernel
theorem d_C_grows_43 : decode u_C_grows.2.1 43 = .ok (.iconst 0, 1) := by decide +kernel
theorem d_C_grows_44 : decode u_C_grows.2.1 44 = .ok (.istore 14, 2) := by decide +kernel
theorem d_C_grows_46 : decode u_C_grows.2.1 46 = .ok (.iload 14, 2) := by decide +kernel
theorem d_C_grows_48 : decode u_C_grows.2.1 48 = .ok (.aload_n 0, 1) := by decide +kernel
theorem d_C_grows_49 : decode u_C_grows.2.1 49 = .ok (.getfield 146, 3) := by decide +kernel
theorem d_C_grows_52 : decode u_C_grows.2.1 52 = .ok (.if_icmp .ge 102, 3) := by decide +kernel
theorem d_C_grows_55 : decode u_C_grows.2.1 55 = .ok (.aload_n 0, 1) := by decide +kernel
theorem d_C_grows_56 : decode u_C_grows.2.1 56 = .ok (.getfield 23, 3) := by decide +kernel
theorem d_C_grows_59 : decode u_C_grows.2.1 59 = .ok (.iload 14, 2) := by decide +kernel
theorem d_C_grows_61 : decode u_C_grows.2.1 61 = .ok (.aaload, 1) := by decide +kernel
theorem d_C_grows_62 : decode u_C_grows.2.1 62 = .ok (.astore 15, 2) := by decide +kernel
theorem d_C_grows_64 : decode u_C_grows.2.1 64 = .ok (.aload 15, 2) := by decide +kernel
theorem d_C_grows_66 : decode u_C_grows.2.1 66 = .ok (.getfield 160, 3) := by decide +kernel
theorem d_C_grows_69 : decode u_C_grows.2.1 69 = .ok (.iload_n 1, 1) := by decide +kernel
theorem d_C_grows_70 : decode u_C_grows.2.1 70 = .ok (.if_icmp .ne 78, 3) := by decide +kernel
theorem d_C_grows_73 : decode u_C_grows.2.1 73 = .ok (.aload 15, 2) := by decide +kernel
theorem d_C_grows_75 : decode u_C_grows.2.1 75 = .ok (.iload_n 2, 1) := by decide +kernel
theorem d_C_grows_76 : decode u_C_grows.2.1 76 = .ok (.invokevirtual 267, 3) := by decide +kernel
theorem d_C_grows_79 : decode u_C_grows.2.1 79 = .ok (.ifCond .eq 69, 3) := by decide +kernel
theorem d_C_grows_82 : decode u_C_grows.2.1 82 = .ok (.lload 4, 2) := by decide +kernel
theorem d_C_grows_84 : decode u_C_grows.2.1 84 = .ok (.lconst 1, 1) := by decide +kernel
theorem d_C_grows_85 : decode u_C_grows.2.1 85 = .ok (.ladd, 1) := by decide +kernel
theorem d_C_grows_86 : decode u_C_grows.2.1 86 = .ok (.lstore 4, 2) := by decide +kernel
theorem d_C_grows_88 : decode u_C_grows.2.1 88 = .ok (.lload 6, 2) := by decide +kernel
theorem d_C_grows_90 : decode u_C_grows.2.1 90 = .ok (.aload 15, 2) := by decide +kernel
theorem d_C_grows_92 : decode u_C_grows.2.1 92 = .ok (.getfield 163, 3) := by decide +kernel
theorem d_C_grows_95 : decode u_C_grows.2.1 95 = .ok (.i2l, 1) := by decide +kernel
theorem d_C_grows_96 : decode u_C_grows.2.1 96 = .ok (.ladd, 1) := by decide +kernel
theorem d_C_grows_97 : decode u_C_grows.2.1 97 = .ok (.lstore 6, 2) := by decide +kernel
theorem d_C_grows_99 : decode u_C_grows.2.1 99 = .ok (.lload 8, 2) := by decide +kernel
theorem d_C_grows_101 : decode u_C_grows.2.1 101 = .ok (.aload 15, 2) := by decide +kernel
theorem d_C_grows_103 : decode u_C_grows.2.1 103 = .ok (.getfield 163, 3) := by decide +kernel
theorem d_C_grows_106 : decode u_C_grows.2.1 106 = .ok (.aload 15, 2) := by decide +kernel
theorem d_C_grows_108 : decode u_C_grows.2.1 108 = .ok (.getfield 163, 3) := by decide +kernel
theorem d_C_grows_111 : decode u_C_grows.2.1 111 = .ok (.imul, 1) := by decide +kernel
theorem d_C_grows_112 : decode u_C_grows.2.1 112 = .ok (.i2l, 1) := by decide +kernel
theorem d_C_grows_113 : decode u_C_grows.2.1 113 = .ok (.ladd, 1) := by decide +kernel
theorem d_C_grows_114 : decode u_C_grows.2.1 114 = .ok (.lstore 8, 2) := by decide +kernel
theorem d_C_grows_116 : decode u_C_grows.2.1 116 = .ok (.lload 10, 2) := by decide +kernel
theorem d_C_grows_118 : decode u_C_grows.2.1 118 = .ok (.aload 15, 2) := by decide +kernel
theorem d_C_grows_120 : decode u_C_grows.2.1 120 = .ok (.getfield 185, 3) := by decide +kernel
theorem d_C_grows_123 : decode u_C_grows.2.1 123 = .ok (.iload_n 2, 1) := by decide +kernel
theorem d_C_grows_124 : decode u_C_grows.2.1 124 = .ok (.iaload, 1) := by decide +kernel
theorem d_C_grows_125 : decode u_C_grows.2.1 125 = .ok (.i2l, 1) := by decide +kernel
theorem d_C_grows_126 : decode u_C_grows.2.1 126 = .ok (.ladd, 1) := by decide +kernel
theorem d_C_grows_127 : decode u_C_grows.2.1 127 = .ok (.lstore 10, 2) := by decide +kernel
theorem d_C_grows_129 : decode u_C_grows.2.1 129 = .ok (.lload 12, 2) := by decide +kernel
theorem d_C_grows_131 : decode u_C_grows.2.1 131 = .ok (.aload 15, 2) := by decide +kernel
theorem d_C_grows_133 : decode u_C_grows.2.1 133 = .ok (.getfield 163, 3) := by decide +kernel
theorem d_C_grows_136 : decode u_C_grows.2.1 136 = .ok (.aload 15, 2) := by decide +kernel
theorem d_C_grows_138 : decode u_C_grows.2.1 138 = .ok (.getfield 185, 3) := by decide +kernel
theorem d_C_grows_141 : decode u_C_grows.2.1 141 = .ok (.iload_n 2, 1) := by decide +kernel
theorem d_C_grows_142 : decode u_C_grows.2.1 142 = .ok (.iaload, 1) := by decide +kernel
theorem d_C_grows_143 : decode u_C_grows.2.1 143 = .ok (.imul, 1) := by decide +kernel
theorem d_C_grows_144 : decode u_C_grows.2.1 144 = .ok (.i2l, 1) := by decide +kernel
theorem d_C_grows_145 : decode u_C_grows.2.1 145 = .ok (.ladd, 1) := by decide +kernel
theorem d_C_grows_146 : decode u_C_grows.2.1 146 = .ok (.lstore 12, 2) := by decide +kernel
theorem d_C_grows_148 : decode u_C_grows.2.1 148 = .ok (.iinc 14 1, 3) := by decide +kernel
theorem d_C_grows_151 : decode u_C_grows.2.1 151 = .ok (.goto (-105), 3) := by decide +kernel
theorem d_C_grows_154 : decode u_C_grows.2.1 154 = .ok (.lload 4, 2) := by decide +kernel
theorem d_C_grows_156 : decode u_C_grows.2.1 156 = .ok (.lload 8, 2) := by decide +kernel
theorem d_C_grows_158 : decode u_C_grows.2.1 158 = .ok (.lmul, 1) := by decide +kernel
theorem d_C_grows_159 : decode u_C_grows.2.1 159 = .ok (.lload 6, 2) := by decide +kernel
theorem d_C_grows_161 : decode u_C_grows.2.1 161 = .ok (.lload 6, 2) := by decide +kernel
theorem d_C_grows_163 : decode u_C_grows.2.1 163 = .ok (.lmul, 1) := by decide +kernel
theorem d_C_grows_164 : decode u_C_grows.2.1 164 = .ok (.lsub, 1) := by decide +kernel
theorem d_C_grows_165 : decode u_C_grows.2.1 165 = .ok (.lstore 14, 2) := by decide +kernel
theorem d_C_grows_167 : decode u_C_grows.2.1 167 = .ok (.lload 14, 2) := by decide +kernel
theorem d_C_grows_169 : decode u_C_grows.2.1 169 = .ok (.lconst 0, 1) := by decide +kernel
theorem d_C_grows_170 : decode u_C_grows.2.1 170 = .ok (.lcmp, 1) := by decide +kernel
theorem d_C_grows_171 : decode u_C_grows.2.1 171 = .ok (.ifCond .ne 7, 3) := by decide +kernel
theorem d_C_grows_174 : decode u_C_grows.2.1 174 = .ok (.ldc2_w 226, 3) := by decide +kernel
theorem d_C_grows_177 : decode u_C_grows.2.1 177 = .ok (.lreturn, 1) := by decide +kernel
theorem d_C_grows_178 : decode u_C_grows.2.1 178 = .ok (.aload_n 0, 1) := by decide +kernel
theorem d_C_grows_179 : decode u_C_grows.2.1 179 = .ok (.getfield 64, 3) := by decide +kernel
theorem d_C_grows_182 : decode u_C_grows.2.1 182 = .ok (.lload 4, 2) := by decide +kernel
theorem d_C_grows_184 : decode u_C_grows.2.1 184 = .ok (.lload 12, 2) := by decide +kernel
theorem d_C_grows_186 : decode u_C_grows.2.1 186 = .ok (.lmul, 1) := by decide +kernel
theorem d_C_grows_187 : decode u_C_grows.2.1 187 = .ok (.lload 6, 2) := by decide +kernel
theorem d_C_grows_189 : decode u_C_grows.2.1 189 = .ok (.lload 10, 2) := by decide +kernel
theorem d_C_grows_191 : decode u_C_grows.2.1 191 = .ok (.lmul, 1) := by decide +kernel
theorem d_C_grows_192 : decode u_C_grows.2.1 192 = .ok (.lsub, 1) := by decide +kernel
theorem d_C_grows_193 : decode u_C_grows.2.1 193 = .ok (.lload 14, 2) := by decide +kernel
theorem d_C_grows_195 : decode u_C_grows.2.1 195 = .ok (.invokevirtual 270, 3) := by decide +kernel
theorem d_C_grows_198 : decode u_C_grows.2.1 198 = .ok (.aload_n 0, 1) := by decide +kernel
theorem d_C_grows_199 : decode u_C_grows.2.1 199 = .ok (.getfield 64, 3) := by decide +kernel
theorem d_C_grows_202 : decode u_C_grows.2.1 202 = .ok (.iload_n 3, 1) := by decide +kernel
theorem d_C_grows_203 : decode u_C_grows.2.1 203 = .ok (.invokevirtual 232, 3) := by decide +kernel
theorem d_C_grows_206 : decode u_C_grows.2.1 206 = .ok (.lreturn, 1) := by decide +kernel
theorem d_C_back_0 : decode u_C_back.2.1 0 = .ok (.aload_n 0, 1) := by decide +kernel
theorem d_C_back_1 : decode u_C_back.2.1 1 = .ok (.iload_n 1, 1) := by decide +kernel
theorem d_C_back_2 : decode u_C_back.2.1 2 = .ok (.invokevirtual 78, 3) := by decide +kernel
theorem d_C_back_5 : decode u_C_back.2.1 5 = .ok (.ifCond .eq 27, 3) := by decide +kernel
theorem d_C_back_8 : decode u_C_back.2.1 8 = .ok (.iload_n 2, 1) := by decide +kernel
theorem d_C_back_9 : decode u_C_back.2.1 9 = .ok (.invokestatic 120, 3) := by decide +kernel
theorem d_C_back_12 : decode u_C_back.2.1 12 = .ok (.ifCond .eq 20, 3) := by decide +kernel
theorem d_C_back_15 : decode u_C_back.2.1 15 = .ok (.iload_n 3, 1) := by decide +kernel
theorem d_C_back_16 : decode u_C_back.2.1 16 = .ok (.invokestatic 82, 3) := by decide +kernel
theorem d_C_back_19 : decode u_C_back.2.1 19 = .ok (.ifCond .eq 13, 3) := by decide +kernel
theorem d_C_back_22 : decode u_C_back.2.1 22 = .ok (.aload_n 0, 1) := by decide +kernel
theorem d_C_back_23 : decode u_C_back.2.1 23 = .ok (.iload_n 1, 1) := by decide +kernel
theorem d_C_back_24 : decode u_C_back.2.1 24 = .ok (.iload_n 2, 1) := by decide +kernel
theorem d_C_back_25 : decode u_C_back.2.1 25 = .ok (.iload_n 3, 1) := by decide +kernel
theorem d_C_back_26 : decode u_C_back.2.1 26 = .ok (.invokevirtual 274, 3) := by decide +kernel
theorem d_C_back_29 : decode u_C_back.2.1 29 = .ok (.goto 6, 3) := by decide +kernel
theorem d_C_back_32 : decode u_C_back.2.1 32 = .ok (.sipush (-10002), 3) := by decide +kernel
theorem d_C_back_35 : decode u_C_back.2.1 35 = .ok (.ireturn, 1) := by decide +kernel
theorem d_C_near_0 : decode u_C_near.2.1 0 = .ok (.aload_n 0, 1) := by decide +kernel
theorem d_C_near_1 : decode u_C_near.2.1 1 = .ok (.iload_n 1, 1) := by decide +kernel
theorem d_C_near_2 : decode u_C_near.2.1 2 = .ok (.invokevirtual 78, 3) := by decide +kernel
theorem d_C_near_5 : decode u_C_near.2.1 5 = .ok (.ifCond .eq 10, 3) := by decide +kernel
theorem d_C_near_8 : decode u_C_near.2.1 8 = .ok (.iload_n 2, 1) := by decide +kernel
theorem d_C_near_9 : decode u_C_near.2.1 9 = .ok (.invokestatic 120, 3) := by decide +kernel
theorem d_C_near_12 : decode u_C_near.2.1 12 = .ok (.ifCond .ne 6, 3) := by decide +kernel
theorem d_C_near_15 : decode u_C_near.2.1 15 = .ok (.bipush (-2), 2) := by decide +kernel
theorem d_C_near_17 : decode u_C_near.2.1 17 = .ok (.ireturn, 1) := by decide +kernel
theorem d_C_near_18 : decode u_C_near.2.1 18 = .ok (.iconst 0, 1) := by decide +kernel
theorem d_C_near_19 : decode u_C_near.2.1 19 = .ok (.istore_n 3, 1) := by decide +kernel
theorem d_C_near_20 : decode u_C_near.2.1 20 = .ok (.iconst 0, 1) := by decide +kernel
theorem d_C_near_21 : decode u_C_near.2.1 21 = .ok (.istore 4, 2) := by decide +kernel
theorem d_C_near_23 : decode u_C_near.2.1 23 = .ok (.iload 4, 2) := by decide +kernel
theorem d_C_near_25 : decode u_C_near.2.1 25 = .ok (.bipush 8, 2) := by decide +kernel
theorem d_C_near_27 : decode u_C_near.2.1 27 = .ok (.if_icmp .ge 48, 3) := by decide +kernel
theorem d_C_near_30 : decode u_C_near.2.1 30 = .ok (.aload_n 0, 1) := by decide +kernel
theorem d_C_near_31 : decode u_C_near.2.1 31 = .ok (.iload_n 1, 1) := by decide +kernel
theorem d_C_near_32 : decode u_C_near.2.1 32 = .ok (.iload_n 2, 1) := by decide +kernel
theorem d_C_near_33 : decode u_C_near.2.1 33 = .ok (.iload 4, 2) := by decide +kernel
theorem d_C_near_35 : decode u_C_near.2.1 35 = .ok (.invokevirtual 274, 3) := by decide +kernel
theorem d_C_near_38 : decode u_C_near.2.1 38 = .ok (.istore 5, 2) := by decide +kernel
theorem d_C_near_40 : decode u_C_near.2.1 40 = .ok (.iload 5, 2) := by decide +kernel
theorem d_C_near_42 : decode u_C_near.2.1 42 = .ok (.sipush (-9999), 3) := by decide +kernel
theorem d_C_near_45 : decode u_C_near.2.1 45 = .ok (.if_icmp .eq 24, 3) := by decide +kernel
theorem d_C_near_48 : decode u_C_near.2.1 48 = .ok (.iload_n 3, 1) := by decide +kernel
theorem d_C_near_49 : decode u_C_near.2.1 49 = .ok (.iload 5, 2) := by decide +kernel
theorem d_C_near_51 : decode u_C_near.2.1 51 = .ok (.aload_n 0, 1) := by decide +kernel
theorem d_C_near_52 : decode u_C_near.2.1 52 = .ok (.getfield 11, 3) := by decide +kernel
theorem d_C_near_55 : decode u_C_near.2.1 55 = .ok (.iload_n 1, 1) := by decide +kernel
theorem d_C_near_56 : decode u_C_near.2.1 56 = .ok (.aaload, 1) := by decide +kernel
theorem d_C_near_57 : decode u_C_near.2.1 57 = .ok (.getfield 88, 3) := by decide +kernel
theorem d_C_near_60 : decode u_C_near.2.1 60 = .ok (.iload 4, 2) := by decide +kernel
theorem d_C_near_62 : decode u_C_near.2.1 62 = .ok (.iaload, 1) := by decide +kernel
theorem d_C_near_63 : decode u_C_near.2.1 63 = .ok (.isub, 1) := by decide +kernel
theorem d_C_near_64 : decode u_C_near.2.1 64 = .ok (.invokestatic 277, 3) := by decide +kernel
theorem d_C_near_67 : decode u_C_near.2.1 67 = .ok (.iadd, 1) := by decide +kernel
theorem d_C_near_68 : decode u_C_near.2.1 68 = .ok (.istore_n 3, 1) := by decide +kernel
theorem d_C_near_69 : decode u_C_near.2.1 69 = .ok (.iinc 4 1, 3) := by decide +kernel
theorem d_C_near_72 : decode u_C_near.2.1 72 = .ok (.goto (-49), 3) := by decide +kernel
theorem d_C_near_75 : decode u_C_near.2.1 75 = .ok (.iload_n 3, 1) := by decide +kernel
theorem d_C_near_76 : decode u_C_near.2.1 76 = .ok (.ireturn, 1) := by decide +kernel
theorem d_C_witness_0 : decode u_C_witness.2.1 0 = .ok (.aload_n 0, 1) := by decide +kernel
theorem d_C_witness_1 : decode u_C_witness.2.1 1 = .ok (.iload_n 1, 1) := by decide +kernel
theorem d_C_witness_2 : decode u_C_witness.2.1 2 = .ok (.invokevirtual 78, 3) := by decide +kernel
theorem d_C_witness_5 : decode u_C_witness.2.1 5 = .ok (.ifCond .eq 21, 3) := by decide +kernel
theorem d_C_witness_8 : decode u_C_witness.2.1 8 = .ok (.aload_n 0, 1) := by decide +kernel
theorem d_C_witness_9 : decode u_C_witness.2.1 9 = .ok (.iload_n 2, 1) := by decide +kernel
theorem d_C_witness_10 : decode u_C_witness.2.1 10 = .ok (.invokevirtual 114, 3) := by decide +kernel
theorem d_C_witness_13 : decode u_C_witness.2.1 13 = .ok (.ifCond .eq 13, 3) := by decide +kernel
theorem d_C_witness_16 : decode u_C_witness.2.1 16 = .ok (.iload_n 3, 1) := by decide +kernel
theorem d_C_witness_17 : decode u_C_witness.2.1 17 = .ok (.ifCond .lt 9, 3) := by decide +kernel
theorem d_C_witness_20 : decode u_C_witness.2.1 20 = .ok (.iload_n 3, 1) := by decide +kernel
theorem d_C_witness_21 : decode u_C_witness.2.1 21 = .ok (.bipush 99, 2) := by decide +kernel
theorem d_C_witness_23 : decode u_C_witness.2.1 23 = .ok (.if_icmp .le 6, 3) := by decide +kernel
theorem d_C_witness_26 : decode u_C_witness.2.1 26 = .ok (.bipush (-2), 2) := by decide +kernel
theorem d_C_witness_28 : decode u_C_witness.2.1 28 = .ok (.ireturn, 1) := by decide +kernel
theorem d_C_witness_29 : decode u_C_witness.2.1 29 = .ok (.iconst 0, 1) := by decide +kernel
theorem d_C_witness_30 : decode u_C_witness.2.1 30 = .ok (.istore 4, 2) := by decide +kernel
theorem d_C_witness_32 : decode u_C_witness.2.1 32 = .ok (.iload 4, 2) := by decide +kernel
theorem d_C_witness_34 : decode u_C_witness.2.1 34 = .ok (.bipush 8, 2) := by decide +kernel
theorem d_C_witness_36 : decode u_C_witness.2.1 36 = .ok (.if_icmp .ge 39, 3) := by decide +kernel
theorem d_C_witness_39 : decode u_C_witness.2.1 39 = .ok (.aload_n 0, 1) := by decide +kernel
theorem d_C_witness_40 : decode u_C_witness.2.1 40 = .ok (.getfield 58, 3) := by decide +kernel
theorem d_C_witness_43 : decode u_C_witness.2.1 43 = .ok (.iload 4, 2) := by decide +kernel
theorem d_C_witness_45 : decode u_C_witness.2.1 45 = .ok (.aload_n 0, 1) := by decide +kernel
theorem d_C_witness_46 : decode u_C_witness.2.1 46 = .ok (.getfield 11, 3) := by decide +kernel
theorem d_C_witness_49 : decode u_C_witness.2.1 49 = .ok (.iload_n 1, 1) := by decide +kernel
theorem d_C_witness_50 : decode u_C_witness.2.1 50 = .ok (.aaload, 1) := by decide +kernel
theorem d_C_witness_51 : decode u_C_witness.2.1 51 = .ok (.getfield 88, 3) := by decide +kernel
theorem d_C_witness_54 : decode u_C_witness.2.1 54 = .ok (.iload 4, 2) := by decide +kernel
theorem d_C_witness_56 : decode u_C_witness.2.1 56 = .ok (.iaload, 1) := by decide +kernel
theorem d_C_witness_57 : decode u_C_witness.2.1 57 = .ok (.aload_n 0, 1) := by decide +kernel
theorem d_C_witness_58 : decode u_C_witness.2.1 58 = .ok (.iload_n 2, 1) := by decide +kernel
theorem d_C_witness_59 : decode u_C_witness.2.1 59 = .ok (.iload 4, 2) := by decide +kernel
theorem d_C_witness_61 : decode u_C_witness.2.1 61 = .ok (.invokevirtual 117, 3) := by decide +kernel
theorem d_C_witness_64 : decode u_C_witness.2.1 64 = .ok (.isub, 1) := by decide +kernel
theorem d_C_witness_65 : decode u_C_witness.2.1 65 = .ok (.invokestatic 277, 3) := by decide +kernel
theorem d_C_witness_68 : decode u_C_witness.2.1 68 = .ok (.iastore, 1) := by decide +kernel
theorem d_C_witness_69 : decode u_C_witness.2.1 69 = .ok (.iinc 4 1, 3) := by decide +kernel
theorem d_C_witness_72 : decode u_C_witness.2.1 72 = .ok (.goto (-40), 3) := by decide +kernel
theorem d_C_witness_75 : decode u_C_witness.2.1 75 = .ok (.iconst 0, 1) := by decide +kernel
theorem d_C_witness_76 : decode u_C_witness.2.1 76 = .ok (.istore 4, 2) := by decide +kernel
theorem d_C_witness_78 : decode u_C_witness.2.1 78 = .ok (.iload 4, 2) := by decide +kernel
theorem d_C_witness_80 : decode u_C_witness.2.1 80 = .ok (.bipush 56, 2) := by decide +kernel
theorem d_C_witness_82 : decode u_C_witness.2.1 82 = .ok (.if_icmp .ge 50, 3) := by decide +kernel
theorem d_C_witness_85 : decode u_C_witness.2.1 85 = .ok (.aload_n 0, 1) := by decide +kernel
theorem d_C_witness_86 : decode u_C_witness.2.1 86 = .ok (.invokevirtual 280, 3) := by decide +kernel
theorem d_C_witness_89 : decode u_C_witness.2.1 89 = .ok (.istore 5, 2) := by decide +kernel
theorem d_C_witness_91 : decode u_C_witness.2.1 91 = .ok (.aload_n 0, 1) := by decide +kernel
theorem d_C_witness_92 : decode u_C_witness.2.1 92 = .ok (.getfield 58, 3) := by decide +kernel
theorem d_C_witness_95 : decode u_C_witness.2.1 95 = .ok (.iload 5, 2) := by decide +kernel
theorem d_C_witness_97 : decode u_C_witness.2.1 97 = .ok (.iaload, 1) := by decide +kernel
theorem d_C_witness_98 : decode u_C_witness.2.1 98 = .ok (.iload_n 3, 1) := by decide +kernel
theorem d_C_witness_99 : decode u_C_witness.2.1 99 = .ok (.if_icmp .gt 6, 3) := by decide +kernel
theorem d_C_witness_102 : decode u_C_witness.2.1 102 = .ok (.iload 4, 2) := by decide +kernel
theorem d_C_witness_104 : decode u_C_witness.2.1 104 = .ok (.ireturn, 1) := by decide +kernel
theorem d_C_witness_105 : decode u_C_witness.2.1 105 = .ok (.aload_n 0, 1) := by decide +kernel
theorem d_C_witness_106 : decode u_C_witness.2.1 106 = .ok (.getfield 58, 3) := by decide +kernel
theorem d_C_witness_109 : decode u_C_witness.2.1 109 = .ok (.iload 5, 2) := by decide +kernel
theorem d_C_witness_111 : decode u_C_witness.2.1 111 = .ok (.dup2, 1) := by decide +kernel
theorem d_C_witness_112 : decode u_C_witness.2.1 112 = .ok (.iaload, 1) := by decide +kernel
theorem d_C_witness_113 : decode u_C_witness.2.1 113 = .ok (.aload_n 0, 1) := by decide +kernel
theorem d_C_witness_114 : decode u_C_witness.2.1 114 = .ok (.getfield 58, 3) := by decide +kernel
theorem d_C_witness_117 : decode u_C_witness.2.1 117 = .ok (.iload 5, 2) := by decide +kernel
theorem d_C_witness_119 : decode u_C_witness.2.1 119 = .ok (.iaload, 1) := by decide +kernel
theorem d_C_witness_120 : decode u_C_witness.2.1 120 = .ok (.iconst 1, 1) := by decide +kernel
theorem d_C_witness_121 : decode u_C_witness.2.1 121 = .ok (.iadd, 1) := by decide +kernel
theorem d_C_witness_122 : decode u_C_witness.2.1 122 = .ok (.iconst 2, 1) := by decide +kernel
theorem d_C_witness_123 : decode u_C_witness.2.1 123 = .ok (.idiv, 1) := by decide +kernel
theorem d_C_witness_124 : decode u_C_witness.2.1 124 = .ok (.isub, 1) := by decide +kernel
theorem d_C_witness_125 : decode u_C_witness.2.1 125 = .ok (.iastore, 1) := by decide +kernel
theorem d_C_witness_126 : decode u_C_witness.2.1 126 = .ok (.iinc 4 1, 3) := by decide +kernel
theorem d_C_witness_129 : decode u_C_witness.2.1 129 = .ok (.goto (-51), 3) := by decide +kernel
theorem d_C_witness_132 : decode u_C_witness.2.1 132 = .ok (.bipush 56, 2) := by decide +kernel
theorem d_C_witness_134 : decode u_C_witness.2.1 134 = .ok (.ireturn, 1) := by decide +kernel
theorem d_C_plainest_0 : decode u_C_plainest.2.1 0 = .ok (.aload_n 0, 1) := by decide +kernel
theorem d_C_plainest_1 : decode u_C_plainest.2.1 1 = .ok (.iload_n 1, 1) := by decide +kernel
theorem d_C_plainest_2 : decode u_C_plainest.2.1 2 = .ok (.invokevirtual 114, 3) := by decide +kernel
theorem d_C_plainest_5 : decode u_C_plainest.2.1 5 = .ok (.ifCond .ne 6, 3) := by decide +kernel
theorem d_C_plainest_8 : decode u_C_plainest.2.1 8 = .ok (.bipush (-2), 2) := by decide +kernel
theorem d_C_plainest_10 : decode u_C_plainest.2.1 10 = .ok (.ireturn, 1) := by decide +kernel
theorem d_C_plainest_11 : decode u_C_plainest.2.1 11 = .ok (.aload_n 0, 1) := by decide +kernel
theorem d_C_plainest_12 : decode u_C_plainest.2.1 12 = .ok (.iload_n 1, 1) := by decide +kernel
theorem d_C_plainest_13 : decode u_C_plainest.2.1 13 = .ok (.aload_n 0, 1) := by decide +kernel
theorem d_C_plainest_14 : decode u_C_plainest.2.1 14 = .ok (.getfield 54, 3) := by decide +kernel
theorem d_C_plainest_17 : decode u_C_plainest.2.1 17 = .ok (.invokevirtual 152, 3) := by decide +kernel
theorem d_C_plainest_20 : decode u_C_plainest.2.1 20 = .ok (.iconst (-1), 1) := by decide +kernel
theorem d_C_plainest_21 : decode u_C_plainest.2.1 21 = .ok (.istore_n 2, 1) := by decide +kernel
theorem d_C_plainest_22 : decode u_C_plainest.2.1 22 = .ok (.iconst 0, 1) := by decide +kernel
theorem d_C_plainest_23 : decode u_C_plainest.2.1 23 = .ok (.istore_n 3, 1) := by decide +kernel
theorem d_C_plainest_24 : decode u_C_plainest.2.1 24 = .ok (.iconst 0, 1) := by decide +kernel
theorem d_C_plainest_25 : decode u_C_plainest.2.1 25 = .ok (.istore 4, 2) := by decide +kernel
theorem d_C_plainest_27 : decode u_C_plainest.2.1 27 = .ok (.iload 4, 2) := by decide +kernel
theorem d_C_plainest_29 : decode u_C_plainest.2.1 29 = .ok (.aload_n 0, 1) := by decide +kernel
theorem d_C_plainest_30 : decode u_C_plainest.2.1 30 = .ok (.getfield 75, 3) := by decide +kernel
theorem d_C_plainest_33 : decode u_C_plainest.2.1 33 = .ok (.if_icmp .ge 52, 3) := by decide +kernel
theorem d_C_plainest_36 : decode u_C_plainest.2.1 36 = .ok (.iload_n 1, 1) := by decide +kernel
theorem d_C_plainest_37 : decode u_C_plainest.2.1 37 = .ok (.iload 4, 2) := by decide +kernel
theorem d_C_plainest_39 : decode u_C_plainest.2.1 39 = .ok (.ishr, 1) := by decide +kernel
theorem d_C_plainest_40 : decode u_C_plainest.2.1 40 = .ok (.iconst 1, 1) := by decide +kernel
theorem d_C_plainest_41 : decode u_C_plainest.2.1 41 = .ok (.iand, 1) := by decide +kernel
theorem d_C_plainest_42 : decode u_C_plainest.2.1 42 = .ok (.iconst 1, 1) := by decide +kernel
theorem d_C_plainest_43 : decode u_C_plainest.2.1 43 = .ok (.if_icmp .ne 36, 3) := by decide +kernel
theorem d_C_plainest_46 : decode u_C_plainest.2.1 46 = .ok (.aload_n 0, 1) := by decide +kernel
theorem d_C_plainest_47 : decode u_C_plainest.2.1 47 = .ok (.getfield 11, 3) := by decide +kernel
theorem d_C_plainest_50 : decode u_C_plainest.2.1 50 = .ok (.iload 4, 2) := by decide +kernel
theorem d_C_plainest_52 : decode u_C_plainest.2.1 52 = .ok (.aaload, 1) := by decide +kernel
theorem d_C_plainest_53 : decode u_C_plainest.2.1 53 = .ok (.aload_n 0, 1) := by decide +kernel
theorem d_C_plainest_54 : decode u_C_plainest.2.1 54 = .ok (.getfield 54, 3) := by decide +kernel
theorem d_C_plainest_57 : decode u_C_plainest.2.1 57 = .ok (.invokevirtual 284, 3) := by decide +kernel
theorem d_C_plainest_60 : decode u_C_plainest.2.1 60 = .ok (.istore 5, 2) := by decide +kernel
theorem d_C_plainest_62 : decode u_C_plainest.2.1 62 = .ok (.iload_n 2, 1) := by decide +kernel
theorem d_C_plainest_63 : decode u_C_plainest.2.1 63 = .ok (.iconst (-1), 1) := by decide +kernel
theorem d_C_plainest_64 : decode u_C_plainest.2.1 64 = .ok (.if_icmp .eq 9, 3) := by decide +kernel
theorem d_C_plainest_67 : decode u_C_plainest.2.1 67 = .ok (.iload 5, 2) := by decide +kernel
theorem d_C_plainest_69 : decode u_C_plainest.2.1 69 = .ok (.iload_n 3, 1) := by decide +kernel
theorem d_C_plainest_70 : decode u_C_plainest.2.1 70 = .ok (.if_icmp .ge 9, 3) := by decide +kernel
theorem d_C_plainest_73 : decode u_C_plainest.2.1 73 = .ok (.iload 4, 2) := by decide +kernel
theorem d_C_plainest_75 : decode u_C_plainest.2.1 75 = .ok (.istore_n 2, 1) := by decide +kernel
theorem d_C_plainest_76 : decode u_C_plainest.2.1 76 = .ok (.iload 5, 2) := by decide +kernel
theorem d_C_plainest_78 : decode u_C_plainest.2.1 78 = .ok (.istore_n 3, 1) := by decide +kernel
theorem d_C_plainest_79 : decode u_C_plainest.2.1 79 = .ok (.iinc 4 1, 3) := by decide +kernel
theorem d_C_plainest_82 : decode u_C_plainest.2.1 82 = .ok (.goto (-55), 3) := by decide +kernel
theorem d_C_plainest_85 : decode u_C_plainest.2.1 85 = .ok (.iload_n 2, 1) := by decide +kernel
theorem d_C_plainest_86 : decode u_C_plainest.2.1 86 = .ok (.ireturn, 1) := by decide +kernel
theorem d_C_sheet_0 : decode u_C_sheet.2.1 0 = .ok (.iload_n 1, 1) := by decide +kernel
