theorem d_C_bestNamed_17 : decode u_C_bestNamed.2.1 17 = .ok (.iload_n 2, 1) := by decide +kernel
theorem d_C_bestNamed_18 : decode u_C_bestNamed.2.1 18 = .ok (.sipush 255, 3) := by decide +kernel
theorem d_C_bestNamed_21 : decode u_C_bestNamed.2.1 21 = .ok (.iload 5, 2) := by decide +kernel
theorem d_C_bestNamed_23 : decode u_C_bestNamed.2.1 23 = .ok (.invokevirtual 263, 3) := by decide +kernel
theorem d_C_bestNamed_26 : decode u_C_bestNamed.2.1 26 = .ok (.ifCond .eq 34, 3) := by decide +kernel
theorem d_C_bestNamed_29 : decode u_C_bestNamed.2.1 29 = .ok (.aload_n 0, 1) := by decide +kernel
theorem d_C_bestNamed_30 : decode u_C_bestNamed.2.1 30 = .ok (.aload_n 1, 1) := by decide +kernel
theorem d_C_bestNamed_31 : decode u_C_bestNamed.2.1 31 = .ok (.aload_n 0, 1) := by decide +kernel
theorem d_C_bestNamed_32 : decode u_C_bestNamed.2.1 32 = .ok (.getfield 50, 3) := by decide +kernel
theorem d_C_bestNamed_35 : decode u_C_bestNamed.2.1 35 = .ok (.iload_n 2, 1) := by decide +kernel
theorem d_C_bestNamed_36 : decode u_C_bestNamed.2.1 36 = .ok (.invokevirtual 240, 3) := by decide +kernel
theorem d_C_bestNamed_39 : decode u_C_bestNamed.2.1 39 = .ok (.istore 6, 2) := by decide +kernel
theorem d_C_bestNamed_41 : decode u_C_bestNamed.2.1 41 = .ok (.iload_n 3, 1) := by decide +kernel
theorem d_C_bestNamed_42 : decode u_C_bestNamed.2.1 42 = .ok (.iconst (-1), 1) := by decide +kernel
theorem d_C_bestNamed_43 : decode u_C_bestNamed.2.1 43 = .ok (.if_icmp .eq 10, 3) := by decide +kernel
theorem d_C_bestNamed_46 : decode u_C_bestNamed.2.1 46 = .ok (.iload 6, 2) := by decide +kernel
theorem d_C_bestNamed_48 : decode u_C_bestNamed.2.1 48 = .ok (.iload 4, 2) := by decide +kernel
theorem d_C_bestNamed_50 : decode u_C_bestNamed.2.1 50 = .ok (.if_icmp .le 10, 3) := by decide +kernel
theorem d_C_bestNamed_53 : decode u_C_bestNamed.2.1 53 = .ok (.iload 5, 2) := by decide +kernel
theorem d_C_bestNamed_55 : decode u_C_bestNamed.2.1 55 = .ok (.istore_n 3, 1) := by decide +kernel
theorem d_C_bestNamed_56 : decode u_C_bestNamed.2.1 56 = .ok (.iload 6, 2) := by decide +kernel
theorem d_C_bestNamed_58 : decode u_C_bestNamed.2.1 58 = .ok (.istore 4, 2) := by decide +kernel
theorem d_C_bestNamed_60 : decode u_C_bestNamed.2.1 60 = .ok (.iinc 5 1, 3) := by decide +kernel
theorem d_C_bestNamed_63 : decode u_C_bestNamed.2.1 63 = .ok (.goto (-55), 3) := by decide +kernel
theorem d_C_bestNamed_66 : decode u_C_bestNamed.2.1 66 = .ok (.iload_n 3, 1) := by decide +kernel
theorem d_C_bestNamed_67 : decode u_C_bestNamed.2.1 67 = .ok (.ireturn, 1) := by decide +kernel
theorem d_C_leastMonster_0 : decode u_C_leastMonster.2.1 0 = .ok (.iconst 0, 1) := by decide +kernel
theorem d_C_leastMonster_1 : decode u_C_leastMonster.2.1 1 = .ok (.istore_n 2, 1) := by decide +kernel
theorem d_C_leastMonster_2 : decode u_C_leastMonster.2.1 2 = .ok (.iload_n 2, 1) := by decide +kernel
theorem d_C_leastMonster_3 : decode u_C_leastMonster.2.1 3 = .ok (.bipush 60, 2) := by decide +kernel
theorem d_C_leastMonster_5 : decode u_C_leastMonster.2.1 5 = .ok (.if_icmp .gt 34, 3) := by decide +kernel
theorem d_C_leastMonster_8 : decode u_C_leastMonster.2.1 8 = .ok (.aload_n 0, 1) := by decide +kernel
theorem d_C_leastMonster_9 : decode u_C_leastMonster.2.1 9 = .ok (.iload_n 1, 1) := by decide +kernel
theorem d_C_leastMonster_10 : decode u_C_leastMonster.2.1 10 = .ok (.sipush 255, 3) := by decide +kernel
theorem d_C_leastMonster_13 : decode u_C_leastMonster.2.1 13 = .ok (.iload_n 2, 1) := by decide +kernel
theorem d_C_leastMonster_14 : decode u_C_leastMonster.2.1 14 = .ok (.invokevirtual 361, 3) := by decide +kernel
theorem d_C_leastMonster_17 : decode u_C_leastMonster.2.1 17 = .ok (.aload_n 0, 1) := by decide +kernel
theorem d_C_leastMonster_18 : decode u_C_leastMonster.2.1 18 = .ok (.getfield 50, 3) := by decide +kernel
theorem d_C_leastMonster_21 : decode u_C_leastMonster.2.1 21 = .ok (.aload_n 0, 1) := by decide +kernel
theorem d_C_leastMonster_22 : decode u_C_leastMonster.2.1 22 = .ok (.getfield 39, 3) := by decide +kernel
theorem d_C_leastMonster_25 : decode u_C_leastMonster.2.1 25 = .ok (.invokevirtual 188, 3) := by decide +kernel
theorem d_C_leastMonster_28 : decode u_C_leastMonster.2.1 28 = .ok (.ifCond .eq 5, 3) := by decide +kernel
theorem d_C_leastMonster_31 : decode u_C_leastMonster.2.1 31 = .ok (.iload_n 2, 1) := by decide +kernel
theorem d_C_leastMonster_32 : decode u_C_leastMonster.2.1 32 = .ok (.ireturn, 1) := by decide +kernel
theorem d_C_leastMonster_33 : decode u_C_leastMonster.2.1 33 = .ok (.iinc 2 1, 3) := by decide +kernel
theorem d_C_leastMonster_36 : decode u_C_leastMonster.2.1 36 = .ok (.goto (-34), 3) := by decide +kernel
theorem d_C_leastMonster_39 : decode u_C_leastMonster.2.1 39 = .ok (.iconst (-1), 1) := by decide +kernel
theorem d_C_leastMonster_40 : decode u_C_leastMonster.2.1 40 = .ok (.ireturn, 1) := by decide +kernel
theorem d_C_putBack_0 : decode u_C_putBack.2.1 0 = .ok (.aload_n 0, 1) := by decide +kernel
theorem d_C_putBack_1 : decode u_C_putBack.2.1 1 = .ok (.getfield 17, 3) := by decide +kernel
theorem d_C_putBack_4 : decode u_C_putBack.2.1 4 = .ok (.iload_n 2, 1) := by decide +kernel
theorem d_C_putBack_5 : decode u_C_putBack.2.1 5 = .ok (.aaload, 1) := by decide +kernel
theorem d_C_putBack_6 : decode u_C_putBack.2.1 6 = .ok (.getfield 136, 3) := by decide +kernel
theorem d_C_putBack_9 : decode u_C_putBack.2.1 9 = .ok (.iload_n 3, 1) := by decide +kernel
theorem d_C_putBack_10 : decode u_C_putBack.2.1 10 = .ok (.iaload, 1) := by decide +kernel
theorem d_C_putBack_11 : decode u_C_putBack.2.1 11 = .ok (.istore 4, 2) := by decide +kernel
theorem d_C_putBack_13 : decode u_C_putBack.2.1 13 = .ok (.iload 4, 2) := by decide +kernel
theorem d_C_putBack_15 : decode u_C_putBack.2.1 15 = .ok (.sipush (-9999), 3) := by decide +kernel
theorem d_C_putBack_18 : decode u_C_putBack.2.1 18 = .ok (.if_icmp .eq 8, 3) := by decide +kernel
theorem d_C_putBack_21 : decode u_C_putBack.2.1 21 = .ok (.iload 4, 2) := by decide +kernel
theorem d_C_putBack_23 : decode u_C_putBack.2.1 23 = .ok (.ifCond .ne 7, 3) := by decide +kernel
theorem d_C_putBack_26 : decode u_C_putBack.2.1 26 = .ok (.sipush (-9999), 3) := by decide +kernel
theorem d_C_putBack_29 : decode u_C_putBack.2.1 29 = .ok (.ireturn, 1) := by decide +kernel
theorem d_C_putBack_30 : decode u_C_putBack.2.1 30 = .ok (.iconst 0, 1) := by decide +kernel
theorem d_C_putBack_31 : decode u_C_putBack.2.1 31 = .ok (.istore 5, 2) := by decide +kernel
theorem d_C_putBack_33 : decode u_C_putBack.2.1 33 = .ok (.iconst 0, 1) := by decide +kernel
theorem d_C_putBack_34 : decode u_C_putBack.2.1 34 = .ok (.istore 6, 2) := by decide +kernel
theorem d_C_putBack_36 : decode u_C_putBack.2.1 36 = .ok (.iconst 0, 1) := by decide +kernel
theorem d_C_putBack_37 : decode u_C_putBack.2.1 37 = .ok (.istore 7, 2) := by decide +kernel
theorem d_C_putBack_39 : decode u_C_putBack.2.1 39 = .ok (.iload 7, 2) := by decide +kernel
theorem d_C_putBack_41 : decode u_C_putBack.2.1 41 = .ok (.aload_n 0, 1) := by decide +kernel
theorem d_C_putBack_42 : decode u_C_putBack.2.1 42 = .ok (.getfield 146, 3) := by decide +kernel
theorem d_C_putBack_45 : decode u_C_putBack.2.1 45 = .ok (.if_icmp .ge 82, 3) := by decide +kernel
theorem d_C_putBack_48 : decode u_C_putBack.2.1 48 = .ok (.aload_n 0, 1) := by decide +kernel
theorem d_C_putBack_49 : decode u_C_putBack.2.1 49 = .ok (.getfield 23, 3) := by decide +kernel
theorem d_C_putBack_52 : decode u_C_putBack.2.1 52 = .ok (.iload 7, 2) := by decide +kernel
theorem d_C_putBack_54 : decode u_C_putBack.2.1 54 = .ok (.aaload, 1) := by decide +kernel
theorem d_C_putBack_55 : decode u_C_putBack.2.1 55 = .ok (.astore 8, 2) := by decide +kernel
theorem d_C_putBack_57 : decode u_C_putBack.2.1 57 = .ok (.aload 8, 2) := by decide +kernel
theorem d_C_putBack_59 : decode u_C_putBack.2.1 59 = .ok (.getfield 160, 3) := by decide +kernel
theorem d_C_putBack_62 : decode u_C_putBack.2.1 62 = .ok (.iload_n 1, 1) := by decide +kernel
theorem d_C_putBack_63 : decode u_C_putBack.2.1 63 = .ok (.if_icmp .ne 58, 3) := by decide +kernel
theorem d_C_putBack_66 : decode u_C_putBack.2.1 66 = .ok (.aload 8, 2) := by decide +kernel
theorem d_C_putBack_68 : decode u_C_putBack.2.1 68 = .ok (.getfield 173, 3) := by decide +kernel
theorem d_C_putBack_71 : decode u_C_putBack.2.1 71 = .ok (.iconst 4, 1) := by decide +kernel
theorem d_C_putBack_72 : decode u_C_putBack.2.1 72 = .ok (.if_icmp .eq 49, 3) := by decide +kernel
theorem d_C_putBack_75 : decode u_C_putBack.2.1 75 = .ok (.aload 8, 2) := by decide +kernel
theorem d_C_putBack_77 : decode u_C_putBack.2.1 77 = .ok (.iload_n 3, 1) := by decide +kernel
theorem d_C_putBack_78 : decode u_C_putBack.2.1 78 = .ok (.invokevirtual 267, 3) := by decide +kernel
theorem d_C_putBack_81 : decode u_C_putBack.2.1 81 = .ok (.ifCond .eq 40, 3) := by decide +kernel
theorem d_C_putBack_84 : decode u_C_putBack.2.1 84 = .ok (.iload 5, 2) := by decide +kernel
theorem d_C_putBack_86 : decode u_C_putBack.2.1 86 = .ok (.aload 8, 2) := by decide +kernel
theorem d_C_putBack_88 : decode u_C_putBack.2.1 88 = .ok (.getfield 149, 3) := by decide +kernel
theorem d_C_putBack_91 : decode u_C_putBack.2.1 91 = .ok (.iload_n 3, 1) := by decide +kernel
theorem d_C_putBack_92 : decode u_C_putBack.2.1 92 = .ok (.iaload, 1) := by decide +kernel
theorem d_C_putBack_93 : decode u_C_putBack.2.1 93 = .ok (.aload 8, 2) := by decide +kernel
theorem d_C_putBack_95 : decode u_C_putBack.2.1 95 = .ok (.getfield 185, 3) := by decide +kernel
theorem d_C_putBack_98 : decode u_C_putBack.2.1 98 = .ok (.iload_n 3, 1) := by decide +kernel
theorem d_C_putBack_99 : decode u_C_putBack.2.1 99 = .ok (.iaload, 1) := by decide +kernel
theorem d_C_putBack_100 : decode u_C_putBack.2.1 100 = .ok (.aload 8, 2) := by decide +kernel
theorem d_C_putBack_102 : decode u_C_putBack.2.1 102 = .ok (.getfield 149, 3) := by decide +kernel
theorem d_C_putBack_105 : decode u_C_putBack.2.1 105 = .ok (.iload_n 3, 1) := by decide +kernel
theorem d_C_putBack_106 : decode u_C_putBack.2.1 106 = .ok (.iaload, 1) := by decide +kernel
theorem d_C_putBack_107 : decode u_C_putBack.2.1 107 = .ok (.isub, 1) := by decide +kernel
theorem d_C_putBack_108 : decode u_C_putBack.2.1 108 = .ok (.bipush 10, 2) := by decide +kernel
theorem d_C_putBack_110 : decode u_C_putBack.2.1 110 = .ok (.imul, 1) := by decide +kernel
theorem d_C_putBack_111 : decode u_C_putBack.2.1 111 = .ok (.iload 4, 2) := by decide +kernel
theorem d_C_putBack_113 : decode u_C_putBack.2.1 113 = .ok (.idiv, 1) := by decide +kernel
theorem d_C_putBack_114 : decode u_C_putBack.2.1 114 = .ok (.iadd, 1) := by decide +kernel
theorem d_C_putBack_115 : decode u_C_putBack.2.1 115 = .ok (.iadd, 1) := by decide +kernel
theorem d_C_putBack_116 : decode u_C_putBack.2.1 116 = .ok (.istore 5, 2) := by decide +kernel
theorem d_C_putBack_118 : decode u_C_putBack.2.1 118 = .ok (.iinc 6 1, 3) := by decide +kernel
theorem d_C_putBack_121 : decode u_C_putBack.2.1 121 = .ok (.iinc 7 1, 3) := by decide +kernel
theorem d_C_putBack_124 : decode u_C_putBack.2.1 124 = .ok (.goto (-85), 3) := by decide +kernel
theorem d_C_putBack_127 : decode u_C_putBack.2.1 127 = .ok (.iload 6, 2) := by decide +kernel
theorem d_C_putBack_129 : decode u_C_putBack.2.1 129 = .ok (.ifCond .ne 9, 3) := by decide +kernel
theorem d_C_putBack_132 : decode u_C_putBack.2.1 132 = .ok (.sipush (-9999), 3) := by decide +kernel
theorem d_C_putBack_135 : decode u_C_putBack.2.1 135 = .ok (.goto 8, 3) := by decide +kernel
theorem d_C_putBack_138 : decode u_C_putBack.2.1 138 = .ok (.iload 5, 2) := by decide +kernel
theorem d_C_putBack_140 : decode u_C_putBack.2.1 140 = .ok (.iload 6, 2) := by decide +kernel
theorem d_C_putBack_142 : decode u_C_putBack.2.1 142 = .ok (.idiv, 1) := by decide +kernel
theorem d_C_putBack_143 : decode u_C_putBack.2.1 143 = .ok (.ireturn, 1) := by decide +kernel
theorem d_C_furthestOff_0 : decode u_C_furthestOff.2.1 0 = .ok (.iconst 0, 1) := by decide +kernel
theorem d_C_furthestOff_1 : decode u_C_furthestOff.2.1 1 = .ok (.istore_n 1, 1) := by decide +kernel
theorem d_C_furthestOff_2 : decode u_C_furthestOff.2.1 2 = .ok (.iconst 1, 1) := by decide +kernel
theorem d_C_furthestOff_3 : decode u_C_furthestOff.2.1 3 = .ok (.istore_n 2, 1) := by decide +kernel
theorem d_C_furthestOff_4 : decode u_C_furthestOff.2.1 4 = .ok (.iload_n 2, 1) := by decide +kernel
theorem d_C_furthestOff_5 : decode u_C_furthestOff.2.1 5 = .ok (.bipush 8, 2) := by decide +kernel
theorem d_C_furthestOff_7 : decode u_C_furthestOff.2.1 7 = .ok (.if_icmp .ge 26, 3) := by decide +kernel
theorem d_C_furthestOff_10 : decode u_C_furthestOff.2.1 10 = .ok (.aload_n 0, 1) := by decide +kernel
theorem d_C_furthestOff_11 : decode u_C_furthestOff.2.1 11 = .ok (.getfield 58, 3) := by decide +kernel
theorem d_C_furthestOff_14 : decode u_C_furthestOff.2.1 14 = .ok (.iload_n 2, 1) := by decide +kernel
theorem d_C_furthestOff_15 : decode u_C_furthestOff.2.1 15 = .ok (.iaload, 1) := by decide +kernel
theorem d_C_furthestOff_16 : decode u_C_furthestOff.2.1 16 = .ok (.aload_n 0, 1) := by decide +kernel
theorem d_C_furthestOff_17 : decode u_C_furthestOff.2.1 17 = .ok (.getfield 58, 3) := by decide +kernel
theorem d_C_furthestOff_20 : decode u_C_furthestOff.2.1 20 = .ok (.iload_n 1, 1) := by decide +kernel
theorem d_C_furthestOff_21 : decode u_C_furthestOff.2.1 21 = .ok (.iaload, 1) := by decide +kernel
theorem d_C_furthestOff_22 : decode u_C_furthestOff.2.1 22 = .ok (.if_icmp .le 5, 3) := by decide +kernel
theorem d_C_furthestOff_25 : decode u_C_furthestOff.2.1 25 = .ok (.iload_n 2, 1) := by decide +kernel
theorem d_C_furthestOff_26 : decode u_C_furthestOff.2.1 26 = .ok (.istore_n 1, 1) := by decide +kernel
theorem d_C_furthestOff_27 : decode u_C_furthestOff.2.1 27 = .ok (.iinc 2 1, 3) := by decide +kernel
theorem d_C_furthestOff_30 : decode u_C_furthestOff.2.1 30 = .ok (.goto (-26), 3) := by decide +kernel
theorem d_C_furthestOff_33 : decode u_C_furthestOff.2.1 33 = .ok (.iload_n 1, 1) := by decide +kernel
theorem d_C_furthestOff_34 : decode u_C_furthestOff.2.1 34 = .ok (.ireturn, 1) := by decide +kernel
theorem d_C_digestOfDrawing_0 : decode u_C_digestOfDrawing.2.1 0 = .ok (.lload_n 1, 1) := by decide +kernel
theorem d_C_digestOfDrawing_1 : decode u_C_digestOfDrawing.2.1 1 = .ok (.lstore 4, 2) := by decide +kernel
theorem d_C_digestOfDrawing_3 : decode u_C_digestOfDrawing.2.1 3 = .ok (.iconst 0, 1) := by decide +kernel
theorem d_C_digestOfDrawing_4 : decode u_C_digestOfDrawing.2.1 4 = .ok (.istore 6, 2) := by decide +kernel
theorem d_C_digestOfDrawing_6 : decode u_C_digestOfDrawing.2.1 6 = .ok (.iload 6, 2) := by decide +kernel
theorem d_C_digestOfDrawing_8 : decode u_C_digestOfDrawing.2.1 8 = .ok (.bipush 7, 2) := by decide +kernel
theorem d_C_digestOfDrawing_10 : decode u_C_digestOfDrawing.2.1 10 = .ok (.if_icmp .gt 26, 3) := by decide +kernel
theorem d_C_digestOfDrawing_13 : decode u_C_digestOfDrawing.2.1 13 = .ok (.ldc2_w 318, 3) := by decide +kernel
theorem d_C_digestOfDrawing_16 : decode u_C_digestOfDrawing.2.1 16 = .ok (.lload 4, 2) := by decide +kernel
theorem d_C_digestOfDrawing_18 : decode u_C_digestOfDrawing.2.1 18 = .ok (.lmul, 1) := by decide +kernel
theorem d_C_digestOfDrawing_19 : decode u_C_digestOfDrawing.2.1 19 = .ok (.aload_n 0, 1) := by decide +kernel
theorem d_C_digestOfDrawing_20 : decode u_C_digestOfDrawing.2.1 20 = .ok (.iload_n 3, 1) := by decide +kernel
theorem d_C_digestOfDrawing_21 : decode u_C_digestOfDrawing.2.1 21 = .ok (.iload 6, 2) := by decide +kernel
theorem d_C_digestOfDrawing_23 : decode u_C_digestOfDrawing.2.1 23 = .ok (.invokevirtual 365, 3) := by decide +kernel
theorem d_C_digestOfDrawing_26 : decode u_C_digestOfDrawing.2.1 26 = .ok (.i2l, 1) := by decide +kernel
theorem d_C_digestOfDrawing_27 : decode u_C_digestOfDrawing.2.1 27 = .ok (.ladd, 1) := by decide +kernel
theorem d_C_digestOfDrawing_28 : decode u_C_digestOfDrawing.2.1 28 = .ok (.lstore 4, 2) := by decide +kernel
theorem d_C_digestOfDrawing_30 : decode u_C_digestOfDrawing.2.1 30 = .ok (.iinc 6 1, 3) := by decide +kernel
theorem d_C_digestOfDrawing_33 : decode u_C_digestOfDrawing.2.1 33 = .ok (.goto (-27), 3) := by decide +kernel
theorem d_C_digestOfDrawing_36 : decode u_C_digestOfDrawing.2.1 36 = .ok (.iconst 0, 1) := by decide +kernel
theorem d_C_digestOfDrawing_37 : decode u_C_digestOfDrawing.2.1 37 = .ok (.istore 6, 2) := by decide +kernel
theorem d_C_digestOfDrawing_39 : decode u_C_digestOfDrawing.2.1 39 = .ok (.iload 6, 2) := by decide +kernel
theorem d_C_digestOfDrawing_41 : decode u_C_digestOfDrawing.2.1 41 = .ok (.bipush 8, 2) := by decide +kernel
theorem d_C_digestOfDrawing_43 : decode u_C_digestOfDrawing.2.1 43 = .ok (.if_icmp .ge 26, 3) := by decide +kernel
theorem d_C_digestOfDrawing_46 : decode u_C_digestOfDrawing.2.1 46 = .ok (.ldc2_w 318, 3) := by decide +kernel
theorem d_C_digestOfDrawing_49 : decode u_C_digestOfDrawing.2.1 49 = .ok (.lload 4, 2) := by decide +kernel
theorem d_C_digestOfDrawing_51 : decode u_C_digestOfDrawing.2.1 51 = .ok (.lmul, 1) := by decide +kernel
theorem d_C_digestOfDrawing_52 : decode u_C_digestOfDrawing.2.1 52 = .ok (.aload_n 0, 1) := by decide +kernel
theorem d_C_digestOfDrawing_53 : decode u_C_digestOfDrawing.2.1 53 = .ok (.iload_n 3, 1) := by decide +kernel
theorem d_C_digestOfDrawing_54 : decode u_C_digestOfDrawing.2.1 54 = .ok (.iload 6, 2) := by decide +kernel
theorem d_C_digestOfDrawing_56 : decode u_C_digestOfDrawing.2.1 56 = .ok (.invokevirtual 368, 3) := by decide +kernel
theorem d_C_digestOfDrawing_59 : decode u_C_digestOfDrawing.2.1 59 = .ok (.i2l, 1) := by decide +kernel
theorem d_C_digestOfDrawing_60 : decode u_C_digestOfDrawing.2.1 60 = .ok (.ladd, 1) := by decide +kernel
theorem d_C_digestOfDrawing_61 : decode u_C_digestOfDrawing.2.1 61 = .ok (.lstore 4, 2) := by decide +kernel
theorem d_C_digestOfDrawing_63 : decode u_C_digestOfDrawing.2.1 63 = .ok (.iinc 6 1, 3) := by decide +kernel
theorem d_C_digestOfDrawing_66 : decode u_C_digestOfDrawing.2.1 66 = .ok (.goto (-27), 3) := by decide +kernel
theorem d_C_digestOfDrawing_69 : decode u_C_digestOfDrawing.2.1 69 = .ok (.lload 4, 2) := by decide +kernel
theorem d_C_digestOfDrawing_71 : decode u_C_digestOfDrawing.2.1 71 = .ok (.lreturn, 1) := by decide +kernel
theorem d_C_digestOfKnower_0 : decode u_C_digestOfKnower.2.1 0 = .ok (.lload_n 1, 1) := by decide +kernel
theorem d_C_digestOfKnower_1 : decode u_C_digestOfKnower.2.1 1 = .ok (.lstore 4, 2) := by decide +kernel
theorem d_C_digestOfKnower_3 : decode u_C_digestOfKnower.2.1 3 = .ok (.iconst 0, 1) := by decide +kernel
theorem d_C_digestOfKnower_4 : decode u_C_digestOfKnower.2.1 4 = .ok (.istore 6, 2) := by decide +kernel
theorem d_C_digestOfKnower_6 : decode u_C_digestOfKnower.2.1 6 = .ok (.iload 6, 2) := by decide +kernel
theorem d_C_digestOfKnower_8 : decode u_C_digestOfKnower.2.1 8 = .ok (.bipush 8, 2) := by decide +kernel
theorem d_C_digestOfKnower_10 : decode u_C_digestOfKnower.2.1 10 = .ok (.if_icmp .ge 26, 3) := by decide +kernel
theorem d_C_digestOfKnower_13 : decode u_C_digestOfKnower.2.1 13 = .ok (.ldc2_w 318, 3) := by decide +kernel
theorem d_C_digestOfKnower_16 : decode u_C_digestOfKnower.2.1 16 = .ok (.lload 4, 2) := by decide +kernel
theorem d_C_digestOfKnower_18 : decode u_C_digestOfKnower.2.1 18 = .ok (.lmul, 1) := by decide +kernel
theorem d_C_digestOfKnower_19 : decode u_C_digestOfKnower.2.1 19 = .ok (.aload_n 0, 1) := by decide +kernel
theorem d_C_digestOfKnower_20 : decode u_C_digestOfKnower.2.1 20 = .ok (.iload_n 3, 1) := by decide +kernel
theorem d_C_digestOfKnower_21 : decode u_C_digestOfKnower.2.1 21 = .ok (.iload 6, 2) := by decide +kernel
theorem d_C_digestOfKnower_23 : decode u_C_digestOfKnower.2.1 23 = .ok (.invokevirtual 371, 3) := by decide +kernel
theorem d_C_digestOfKnower_26 : decode u_C_digestOfKnower.2.1 26 = .ok (.i2l, 1) := by decide +kernel
theorem d_C_digestOfKnower_27 : decode u_C_digestOfKnower.2.1 27 = .ok (.ladd, 1) := by decide +kernel
theorem d_C_digestOfKnower_28 : decode u_C_digestOfKnower.2.1 28 = .ok (.lstore 4, 2) := by decide +kernel
theorem d_C_digestOfKnower_30 : decode u_C_digestOfKnower.2.1 30 = .ok (.iinc 6 1, 3) := by decide +kernel
theorem d_C_digestOfKnower_33 : decode u_C_digestOfKnower.2.1 33 = .ok (.goto (-27), 3) := by decide +kernel
theorem d_C_digestOfKnower_36 : decode u_C_digestOfKnower.2.1 36 = .ok (.iconst 0, 1) := by decide +kernel
theorem d_C_digestOfKnower_37 : decode u_C_digestOfKnower.2.1 37 = .ok (.istore 6, 2) := by decide +kernel
theorem d_C_digestOfKnower_39 : decode u_C_digestOfKnower.2.1 39 = .ok (.iload 6, 2) := by decide +kernel
theorem d_C_digestOfKnower_41 : decode u_C_digestOfKnower.2.1 41 = .ok (.aload_n 0, 1) := by decide +kernel
theorem d_C_digestOfKnower_42 : decode u_C_digestOfKnower.2.1 42 = .ok (.getfield 146, 3) := by decide +kernel
theorem d_C_digestOfKnower_45 : decode u_C_digestOfKnower.2.1 45 = .ok (.if_icmp .ge 45, 3) := by decide +kernel
theorem d_C_digestOfKnower_48 : decode u_C_digestOfKnower.2.1 48 = .ok (.ldc2_w 318, 3) := by decide +kernel
theorem d_C_digestOfKnower_51 : decode u_C_digestOfKnower.2.1 51 = .ok (.lload 4, 2) := by decide +kernel
theorem d_C_digestOfKnower_53 : decode u_C_digestOfKnower.2.1 53 = .ok (.lmul, 1) := by decide +kernel
theorem d_C_digestOfKnower_54 : decode u_C_digestOfKnower.2.1 54 = .ok (.aload_n 0, 1) := by decide +kernel
theorem d_C_digestOfKnower_55 : decode u_C_digestOfKnower.2.1 55 = .ok (.iload_n 3, 1) := by decide +kernel
theorem d_C_digestOfKnower_56 : decode u_C_digestOfKnower.2.1 56 = .ok (.iload 6, 2) := by decide +kernel
theorem d_C_digestOfKnower_58 : decode u_C_digestOfKnower.2.1 58 = .ok (.iconst 0, 1) := by decide +kernel
theorem d_C_digestOfKnower_59 : decode u_C_digestOfKnower.2.1 59 = .ok (.invokevirtual 374, 3) := by decide +kernel
theorem d_C_digestOfKnower_62 : decode u_C_digestOfKnower.2.1 62 = .ok (.i2l, 1) := by decide +kernel
theorem d_C_digestOfKnower_63 : decode u_C_digestOfKnower.2.1 63 = .ok (.ladd, 1) := by decide +kernel
theorem d_C_digestOfKnower_64 : decode u_C_digestOfKnower.2.1 64 = .ok (.lstore 4, 2) := by decide +kernel
theorem d_C_digestOfKnower_66 : decode u_C_digestOfKnower.2.1 66 = .ok (.ldc2_w 318, 3) := by decide +kernel
theorem d_C_digestOfKnower_69 : decode u_C_digestOfKnower.2.1 69 = .ok (.lload 4, 2) := by decide +kernel
theorem d_C_digestOfKnower_71 : decode u_C_digestOfKnower.2.1 71 = .ok (.lmul, 1) := by decide +kernel
theorem d_C_digestOfKnower_72 : decode u_C_digestOfKnower.2.1 72 = .ok (.aload_n 0, 1) := by decide +kernel
theorem d_C_digestOfKnower_73 : decode u_C_digestOfKnower.2.1 73 = .ok (.iload_n 3, 1) := by decide +kernel
theorem d_C_digestOfKnower_74 : decode u_C_digestOfKnower.2.1 74 = .ok (.iload 6, 2) := by decide +kernel
theorem d_C_digestOfKnower_76 : decode u_C_digestOfKnower.2.1 76 = .ok (.iconst 1, 1) := by decide +kernel
theorem d_C_digestOfKnower_77 : decode u_C_digestOfKnower.2.1 77 = .ok (.invokevirtual 374, 3) := by decide +kernel
theorem d_C_digestOfKnower_80 : decode u_C_digestOfKnower.2.1 80 = .ok (.i2l, 1) := by decide +kernel
theorem d_C_digestOfKnower_81 : decode u_C_digestOfKnower.2.1 81 = .ok (.ladd, 1) := by decide +kernel
theorem d_C_digestOfKnower_82 : decode u_C_digestOfKnower.2.1 82 = .ok (.lstore 4, 2) := by decide +kernel
theorem d_C_digestOfKnower_84 : decode u_C_digestOfKnower.2.1 84 = .ok (.iinc 6 1, 3) := by decide +kernel
theorem d_C_digestOfKnower_87 : decode u_C_digestOfKnower.2.1 87 = .ok (.goto (-48), 3) := by decide +kernel
theorem d_C_digestOfKnower_90 : decode u_C_digestOfKnower.2.1 90 = .ok (.lload 4, 2) := by decide +kernel
theorem d_C_digestOfKnower_92 : decode u_C_digestOfKnower.2.1 92 = .ok (.lreturn, 1) := by decide +kernel
theorem d_M_init_0 : decode u_M_init.2.1 0 = .ok (.aload_n 0, 1) := by decide +kernel
theorem d_M_init_1 : decode u_M_init.2.1 1 = .ok (.invokespecial 1, 3) := by decide +kernel
theorem d_M_init_4 : decode u_M_init.2.1 4 = .ok (.aload_n 0, 1) := by decide +kernel
theorem d_M_init_5 : decode u_M_init.2.1 5 = .ok (.iconst 4, 1) := by decide +kernel
theorem d_M_init_6 : decode u_M_init.2.1 6 = .ok (.newarray .int, 2) := by decide +kernel
theorem d_M_init_8 : decode u_M_init.2.1 8 = .ok (.putfield 7, 3) := by decide +kernel
theorem d_M_init_11 : decode u_M_init.2.1 11 = .ok (.aload_n 0, 1) := by decide +kernel
theorem d_M_init_12 : decode u_M_init.2.1 12 = .ok (.iconst 4, 1) := by decide +kernel
theorem d_M_init_13 : decode u_M_init.2.1 13 = .ok (.newarray .int, 2) := by decide +kernel
theorem d_M_init_15 : decode u_M_init.2.1 15 = .ok (.putfield 13, 3) := by decide +kernel
theorem d_M_init_18 : decode u_M_init.2.1 18 = .ok (.aload_n 0, 1) := by decide +kernel
theorem d_M_init_19 : decode u_M_init.2.1 19 = .ok (.sipush 240, 3) := by decide +kernel
theorem d_M_init_22 : decode u_M_init.2.1 22 = .ok (.newarray .int, 2) := by decide +kernel
theorem d_M_init_24 : decode u_M_init.2.1 24 = .ok (.putfield 16, 3) := by decide +kernel
theorem d_M_init_27 : decode u_M_init.2.1 27 = .ok (.aload_n 0, 1) := by decide +kernel
theorem d_M_init_28 : decode u_M_init.2.1 28 = .ok (.bipush 60, 2) := by decide +kernel
theorem d_M_init_30 : decode u_M_init.2.1 30 = .ok (.newarray .int, 2) := by decide +kernel
theorem d_M_init_32 : decode u_M_init.2.1 32 = .ok (.putfield 19, 3) := by decide +kernel
theorem d_M_init_35 : decode u_M_init.2.1 35 = .ok (.aload_n 0, 1) := by decide +kernel
theorem d_M_init_36 : decode u_M_init.2.1 36 = .ok (.bipush 64, 2) := by decide +kernel
theorem d_M_init_38 : decode u_M_init.2.1 38 = .ok (.newarray .int, 2) := by decide +kernel
theorem d_M_init_40 : decode u_M_init.2.1 40 = .ok (.putfield 22, 3) := by decide +kernel
theorem d_M_init_43 : decode u_M_init.2.1 43 = .ok (.aload_n 0, 1) := by decide +kernel
theorem d_M_init_44 : decode u_M_init.2.1 44 = .ok (.sipush 160, 3) := by decide +kernel
theorem d_M_init_47 : decode u_M_init.2.1 47 = .ok (.newarray .int, 2) := by decide +kernel
theorem d_M_init_49 : decode u_M_init.2.1 49 = .ok (.putfield 25, 3) := by decide +kernel
theorem d_M_init_52 : decode u_M_init.2.1 52 = .ok (.aload_n 0, 1) := by decide +kernel
theorem d_M_init_53 : decode u_M_init.2.1 53 = .ok (.iconst 4, 1) := by decide +kernel
theorem d_M_init_54 : decode u_M_init.2.1 54 = .ok (.newarray .int, 2) := by decide +kernel
theorem d_M_init_56 : decode u_M_init.2.1 56 = .ok (.putfield 28, 3) := by decide +kernel
theorem d_M_init_59 : decode u_M_init.2.1 59 = .ok (.aload_n 0, 1) := by decide +kernel
theorem d_M_init_60 : decode u_M_init.2.1 60 = .ok (.bipush 8, 2) := by decide +kernel
theorem d_M_init_62 : decode u_M_init.2.1 62 = .ok (.newarray .int, 2) := by decide +kernel
theorem d_M_init_64 : decode u_M_init.2.1 64 = .ok (.putfield 31, 3) := by decide +kernel
theorem d_M_init_67 : decode u_M_init.2.1 67 = .ok (.aload_n 0, 1) := by decide +kernel
theorem d_M_init_68 : decode u_M_init.2.1 68 = .ok (.iconst 3, 1) := by decide +kernel
theorem d_M_init_69 : decode u_M_init.2.1 69 = .ok (.newarray .int, 2) := by decide +kernel
theorem d_M_init_71 : decode u_M_init.2.1 71 = .ok (.putfield 34, 3) := by decide +kernel
theorem d_M_init_74 : decode u_M_init.2.1 74 = .ok (.aload_n 0, 1) := by decide +kernel
theorem d_M_init_75 : decode u_M_init.2.1 75 = .ok (.bipush 30, 2) := by decide +kernel
theorem d_M_init_77 : decode u_M_init.2.1 77 = .ok (.newarray .int, 2) := by decide +kernel
theorem d_M_init_79 : decode u_M_init.2.1 79 = .ok (.putfield 37, 3) := by decide +kernel
theorem d_M_init_82 : decode u_M_init.2.1 82 = .ok (.aload_n 0, 1) := by decide +kernel
theorem d_M_init_83 : decode u_M_init.2.1 83 = .ok (.bipush 30, 2) := by decide +kernel
theorem d_M_init_85 : decode u_M_init.2.1 85 = .ok (.newarray .int, 2) := by decide +kernel
theorem d_M_init_87 : decode u_M_init.2.1 87 = .ok (.putfield 40, 3) := by decide +kernel
theorem d_M_init_90 : decode u_M_init.2.1 90 = .ok (.aload_n 0, 1) := by decide +kernel
theorem d_M_init_91 : decode u_M_init.2.1 91 = .ok (.bipush 30, 2) := by decide +kernel
theorem d_M_init_93 : decode u_M_init.2.1 93 = .ok (.newarray .int, 2) := by decide +kernel
theorem d_M_init_95 : decode u_M_init.2.1 95 = .ok (.putfield 43, 3) := by decide +kernel
theorem d_M_init_98 : decode u_M_init.2.1 98 = .ok (.aload_n 0, 1) := by decide +kernel
theorem d_M_init_99 : decode u_M_init.2.1 99 = .ok (.bipush 30, 2) := by decide +kernel
theorem d_M_init_101 : decode u_M_init.2.1 101 = .ok (.newarray .int, 2) := by decide +kernel
theorem d_M_init_103 : decode u_M_init.2.1 103 = .ok (.putfield 46, 3) := by decide +kernel
theorem d_M_init_106 : decode u_M_init.2.1 106 = .ok (.aload_n 0, 1) := by decide +kernel
theorem d_M_init_107 : decode u_M_init.2.1 107 = .ok (.sipush 240, 3) := by decide +kernel
theorem d_M_init_110 : decode u_M_init.2.1 110 = .ok (.newarray .int, 2) := by decide +kernel
theorem d_M_init_112 : decode u_M_init.2.1 112 = .ok (.putfield 49, 3) := by decide +kernel
theorem d_M_init_115 : decode u_M_init.2.1 115 = .ok (.aload_n 0, 1) := by decide +kernel
theorem d_M_init_116 : decode u_M_init.2.1 116 = .ok (.sipush 240, 3) := by decide +kernel
theorem d_M_init_119 : decode u_M_init.2.1 119 = .ok (.newarray .int, 2) := by decide +kernel
theorem d_M_init_121 : decode u_M_init.2.1 121 = .ok (.putfield 52, 3) := by decide +kernel
theorem d_M_init_124 : decode u_M_init.2.1 124 = .ok (.aload_n 0, 1) := by decide +kernel
theorem d_M_init_125 : decode u_M_init.2.1 125 = .ok (.iconst 4, 1) := by decide +kernel
theorem d_M_init_126 : decode u_M_init.2.1 126 = .ok (.newarray .int, 2) := by decide +kernel
theorem d_M_init_128 : decode u_M_init.2.1 128 = .ok (.putfield 55, 3) := by decide +kernel
theorem d_M_init_131 : decode u_M_init.2.1 131 = .ok (.aload_n 0, 1) := by decide +kernel
theorem d_M_init_132 : decode u_M_init.2.1 132 = .ok (.bipush 32, 2) := by decide +kernel
theorem d_M_init_134 : decode u_M_init.2.1 134 = .ok (.newarray .int, 2) := by decide +kernel
theorem d_M_init_136 : decode u_M_init.2.1 136 = .ok (.putfield 58, 3) := by decide +kernel
theorem d_M_init_139 : decode u_M_init.2.1 139 = .ok (.aload_n 0, 1) := by decide +kernel
theorem d_M_init_140 : decode u_M_init.2.1 140 = .ok (.bipush 8, 2) := by decide +kernel
theorem d_M_init_142 : decode u_M_init.2.1 142 = .ok (.newarray .int, 2) := by decide +kernel
theorem d_M_init_144 : decode u_M_init.2.1 144 = .ok (.putfield 61, 3) := by decide +kernel
theorem d_M_init_147 : decode u_M_init.2.1 147 = .ok (.aload_n 0, 1) := by decide +kernel
theorem d_M_init_148 : decode u_M_init.2.1 148 = .ok (.bipush 8, 2) := by decide +kernel
theorem d_M_init_150 : decode u_M_init.2.1 150 = .ok (.newarray .int, 2) := by decide +kernel
theorem d_M_init_152 : decode u_M_init.2.1 152 = .ok (.putfield 64, 3) := by decide +kernel
theorem d_M_init_155 : decode u_M_init.2.1 155 = .ok (.iconst 0, 1) := by decide +kernel
theorem d_M_init_156 : decode u_M_init.2.1 156 = .ok (.istore_n 1, 1) := by decide +kernel
theorem d_M_init_157 : decode u_M_init.2.1 157 = .ok (.iload_n 1, 1) := by decide +kernel
theorem d_M_init_158 : decode u_M_init.2.1 158 = .ok (.iconst 4, 1) := by decide +kernel
theorem d_M_init_159 : decode u_M_init.2.1 159 = .ok (.if_icmp .ge 16, 3) := by decide +kernel
theorem d_M_init_162 : decode u_M_init.2.1 162 = .ok (.aload_n 0, 1) := by decide +kernel
theorem d_M_init_163 : decode u_M_init.2.1 163 = .ok (.getfield 7, 3) := by decide +kernel
theorem d_M_init_166 : decode u_M_init.2.1 166 = .ok (.iload_n 1, 1) := by decide +kernel
theorem d_M_init_167 : decode u_M_init.2.1 167 = .ok (.iconst (-1), 1) := by decide +kernel
theorem d_M_init_168 : decode u_M_init.2.1 168 = .ok (.iastore, 1) := by decide +kernel
theorem d_M_init_169 : decode u_M_init.2.1 169 = .ok (.iinc 1 1, 3) := by decide +kernel
theorem d_M_init_172 : decode u_M_init.2.1 172 = .ok (.goto (-15), 3) := by decide +kernel
theorem d_M_init_175 : decode u_M_init.2.1 175 = .ok (.aload_n 0, 1) := by decide +kernel
theorem d_M_init_176 : decode u_M_init.2.1 176 = .ok (.getfield 34, 3) := by decide +kernel
theorem d_M_init_179 : decode u_M_init.2.1 179 = .ok (.iconst 0, 1) := by decide +kernel
theorem d_M_init_180 : decode u_M_init.2.1 180 = .ok (.bipush 60, 2) := by decide +kernel
theorem d_M_init_182 : decode u_M_init.2.1 182 = .ok (.iastore, 1) := by decide +kernel
theorem d_M_init_183 : decode u_M_init.2.1 183 = .ok (.aload_n 0, 1) := by decide +kernel
theorem d_M_init_184 : decode u_M_init.2.1 184 = .ok (.getfield 34, 3) := by decide +kernel
theorem d_M_init_187 : decode u_M_init.2.1 187 = .ok (.iconst 1, 1) := by decide +kernel
theorem d_M_init_188 : decode u_M_init.2.1 188 = .ok (.bipush 10, 2) := by decide +kernel
theorem d_M_init_190 : decode u_M_init.2.1 190 = .ok (.iastore, 1) := by decide +kernel
theorem d_M_init_191 : decode u_M_init.2.1 191 = .ok (.aload_n 0, 1) := by decide +kernel
theorem d_M_init_192 : decode u_M_init.2.1 192 = .ok (.getfield 34, 3) := by decide +kernel
theorem d_M_init_195 : decode u_M_init.2.1 195 = .ok (.iconst 2, 1) := by decide +kernel
theorem d_M_init_196 : decode u_M_init.2.1 196 = .ok (.bipush 20, 2) := by decide +kernel
theorem d_M_init_198 : decode u_M_init.2.1 198 = .ok (.iastore, 1) := by decide +kernel
theorem d_M_init_199 : decode u_M_init.2.1 199 = .ok (.return_, 1) := by decide +kernel
theorem d_M_in_0 : decode u_M_in.2.1 0 = .ok (.lload_n 0, 1) := by decide +kernel
theorem d_M_in_1 : decode u_M_in.2.1 1 = .ok (.lload_n 2, 1) := by decide +kernel
theorem d_M_in_2 : decode u_M_in.2.1 2 = .ok (.lcmp, 1) := by decide +kernel
theorem d_M_in_3 : decode u_M_in.2.1 3 = .ok (.ifCond .lt 14, 3) := by decide +kernel
theorem d_M_in_6 : decode u_M_in.2.1 6 = .ok (.lload_n 0, 1) := by decide +kernel
theorem d_M_in_7 : decode u_M_in.2.1 7 = .ok (.lload 4, 2) := by decide +kernel
theorem d_M_in_9 : decode u_M_in.2.1 9 = .ok (.lcmp, 1) := by decide +kernel
theorem d_M_in_10 : decode u_M_in.2.1 10 = .ok (.ifCond .gt 7, 3) := by decide +kernel
theorem d_M_in_13 : decode u_M_in.2.1 13 = .ok (.iconst 1, 1) := by decide +kernel
theorem d_M_in_14 : decode u_M_in.2.1 14 = .ok (.goto 4, 3) := by decide +kernel
theorem d_M_in_17 : decode u_M_in.2.1 17 = .ok (.iconst 0, 1) := by decide +kernel
theorem d_M_in_18 : decode u_M_in.2.1 18 = .ok (.ireturn, 1) := by decide +kernel
theorem d_M_no_0 : decode u_M_no.2.1 0 = .ok (.ldc2_w 67, 3) := by decide +kernel
theorem d_M_no_3 : decode u_M_no.2.1 3 = .ok (.iload_n 0, 1) := by decide +kernel
theorem d_M_no_4 : decode u_M_no.2.1 4 = .ok (.i2l, 1) := by decide +kernel
theorem d_M_no_5 : decode u_M_no.2.1 5 = .ok (.lsub, 1) := by decide +kernel
theorem d_M_no_6 : decode u_M_no.2.1 6 = .ok (.lreturn, 1) := by decide +kernel
theorem d_M_dear_0 : decode u_M_dear.2.1 0 = .ok (.sipush (-10000), 3) := by decide +kernel
theorem d_M_dear_3 : decode u_M_dear.2.1 3 = .ok (.iload_n 0, 1) := by decide +kernel
theorem d_M_dear_4 : decode u_M_dear.2.1 4 = .ok (.iadd, 1) := by decide +kernel
theorem d_M_dear_5 : decode u_M_dear.2.1 5 = .ok (.ireturn, 1) := by decide +kernel
theorem d_M_isTwo_0 : decode u_M_isTwo.2.1 0 = .ok (.iload_n 0, 1) := by decide +kernel
theorem d_M_isTwo_1 : decode u_M_isTwo.2.1 1 = .ok (.i2l, 1) := by decide +kernel
theorem d_M_isTwo_2 : decode u_M_isTwo.2.1 2 = .ok (.lconst 0, 1) := by decide +kernel
theorem d_M_isTwo_3 : decode u_M_isTwo.2.1 3 = .ok (.lconst 1, 1) := by decide +kernel
theorem d_M_isTwo_4 : decode u_M_isTwo.2.1 4 = .ok (.invokestatic 69, 3) := by decide +kernel
theorem d_M_isTwo_7 : decode u_M_isTwo.2.1 7 = .ok (.ireturn, 1) := by decide +kernel
theorem d_M_amount_0 : decode u_M_amount.2.1 0 = .ok (.iload_n 0, 1) := by decide +kernel
theorem d_M_amount_1 : decode u_M_amount.2.1 1 = .ok (.ifCond .ge 8, 3) := by decide +kernel
theorem d_M_amount_4 : decode u_M_amount.2.1 4 = .ok (.iload_n 0, 1) := by decide +kernel
theorem d_M_amount_5 : decode u_M_amount.2.1 5 = .ok (.ineg, 1) := by decide +kernel
theorem d_M_amount_6 : decode u_M_amount.2.1 6 = .ok (.goto 4, 3) := by decide +kernel
theorem d_M_amount_9 : decode u_M_amount.2.1 9 = .ok (.iload_n 0, 1) := by decide +kernel
theorem d_M_amount_10 : decode u_M_amount.2.1 10 = .ok (.ireturn, 1) := by decide +kernel
theorem d_M_met_0 : decode u_M_met.2.1 0 = .ok (.aload_n 0, 1) := by decide +kernel
theorem d_M_met_1 : decode u_M_met.2.1 1 = .ok (.iload_n 1, 1) := by decide +kernel
theorem d_M_met_2 : decode u_M_met.2.1 2 = .ok (.putfield 73, 3) := by decide +kernel
theorem d_M_met_5 : decode u_M_met.2.1 5 = .ok (.bipush (-10), 2) := by decide +kernel
theorem d_M_met_7 : decode u_M_met.2.1 7 = .ok (.iload_n 1, 1) := by decide +kernel
theorem d_M_met_8 : decode u_M_met.2.1 8 = .ok (.isub, 1) := by decide +kernel
theorem d_M_met_9 : decode u_M_met.2.1 9 = .ok (.ireturn, 1) := by decide +kernel
theorem d_M_isSheet_0 : decode u_M_isSheet.2.1 0 = .ok (.iload_n 0, 1) := by decide +kernel
theorem d_M_isSheet_1 : decode u_M_isSheet.2.1 1 = .ok (.i2l, 1) := by decide +kernel
theorem d_M_isSheet_2 : decode u_M_isSheet.2.1 2 = .ok (.lconst 0, 1) := by decide +kernel
theorem d_M_isSheet_3 : decode u_M_isSheet.2.1 3 = .ok (.ldc2_w 77, 3) := by decide +kernel
theorem d_M_isSheet_6 : decode u_M_isSheet.2.1 6 = .ok (.invokestatic 69, 3) := by decide +kernel
theorem d_M_isSheet_9 : decode u_M_isSheet.2.1 9 = .ok (.ireturn, 1) := by decide +kernel
theorem d_M_sheet_0 : decode u_M_sheet.2.1 0 = .ok (.iload_n 1, 1) := by decide +kernel
theorem d_M_sheet_1 : decode u_M_sheet.2.1 1 = .ok (.invokestatic 79, 3) := by decide +kernel
theorem d_M_sheet_4 : decode u_M_sheet.2.1 4 = .ok (.ifCond .eq 21, 3) := by decide +kernel
theorem d_M_sheet_7 : decode u_M_sheet.2.1 7 = .ok (.iload_n 2, 1) := by decide +kernel
theorem d_M_sheet_8 : decode u_M_sheet.2.1 8 = .ok (.i2l, 1) := by decide +kernel
theorem d_M_sheet_9 : decode u_M_sheet.2.1 9 = .ok (.lconst 0, 1) := by decide +kernel
theorem d_M_sheet_10 : decode u_M_sheet.2.1 10 = .ok (.ldc2_w 83, 3) := by decide +kernel
theorem d_M_sheet_13 : decode u_M_sheet.2.1 13 = .ok (.invokestatic 69, 3) := by decide +kernel
theorem d_M_sheet_16 : decode u_M_sheet.2.1 16 = .ok (.ifCond .eq 9, 3) := by decide +kernel
theorem d_M_sheet_19 : decode u_M_sheet.2.1 19 = .ok (.iload_n 3, 1) := by decide +kernel
theorem d_M_sheet_20 : decode u_M_sheet.2.1 20 = .ok (.bipush 60, 2) := by decide +kernel
theorem d_M_sheet_22 : decode u_M_sheet.2.1 22 = .ok (.if_icmp .le 6, 3) := by decide +kernel
theorem d_M_sheet_25 : decode u_M_sheet.2.1 25 = .ok (.bipush (-2), 2) := by decide +kernel
theorem d_M_sheet_27 : decode u_M_sheet.2.1 27 = .ok (.ireturn, 1) := by decide +kernel
theorem d_M_sheet_28 : decode u_M_sheet.2.1 28 = .ok (.iload_n 3, 1) := by decide +kernel
theorem d_M_sheet_29 : decode u_M_sheet.2.1 29 = .ok (.ifCond .ge 9, 3) := by decide +kernel
theorem d_M_sheet_32 : decode u_M_sheet.2.1 32 = .ok (.aload_n 0, 1) := by decide +kernel
theorem d_M_sheet_33 : decode u_M_sheet.2.1 33 = .ok (.iconst 5, 1) := by decide +kernel
theorem d_M_sheet_34 : decode u_M_sheet.2.1 34 = .ok (.invokevirtual 85, 3) := by decide +kernel
theorem d_M_sheet_37 : decode u_M_sheet.2.1 37 = .ok (.ireturn, 1) := by decide +kernel
theorem d_M_sheet_38 : decode u_M_sheet.2.1 38 = .ok (.aload_n 0, 1) := by decide +kernel
theorem d_M_sheet_39 : decode u_M_sheet.2.1 39 = .ok (.getfield 7, 3) := by decide +kernel
theorem d_M_sheet_42 : decode u_M_sheet.2.1 42 = .ok (.iload_n 1, 1) := by decide +kernel
theorem d_M_sheet_43 : decode u_M_sheet.2.1 43 = .ok (.iload_n 2, 1) := by decide +kernel
theorem d_M_sheet_44 : decode u_M_sheet.2.1 44 = .ok (.iastore, 1) := by decide +kernel
theorem d_M_sheet_45 : decode u_M_sheet.2.1 45 = .ok (.aload_n 0, 1) := by decide +kernel
theorem d_M_sheet_46 : decode u_M_sheet.2.1 46 = .ok (.getfield 13, 3) := by decide +kernel
theorem d_M_sheet_49 : decode u_M_sheet.2.1 49 = .ok (.iload_n 1, 1) := by decide +kernel
theorem d_M_sheet_50 : decode u_M_sheet.2.1 50 = .ok (.iload_n 3, 1) := by decide +kernel
theorem d_M_sheet_51 : decode u_M_sheet.2.1 51 = .ok (.iastore, 1) := by decide +kernel
theorem d_M_sheet_52 : decode u_M_sheet.2.1 52 = .ok (.iconst 0, 1) := by decide +kernel
theorem d_M_sheet_53 : decode u_M_sheet.2.1 53 = .ok (.istore 4, 2) := by decide +kernel
theorem d_M_sheet_55 : decode u_M_sheet.2.1 55 = .ok (.iload 4, 2) := by decide +kernel
theorem d_M_sheet_57 : decode u_M_sheet.2.1 57 = .ok (.iload_n 3, 1) := by decide +kernel
theorem d_M_sheet_58 : decode u_M_sheet.2.1 58 = .ok (.if_icmp .ge 22, 3) := by decide +kernel
theorem d_M_sheet_61 : decode u_M_sheet.2.1 61 = .ok (.aload_n 0, 1) := by decide +kernel
theorem d_M_sheet_62 : decode u_M_sheet.2.1 62 = .ok (.getfield 16, 3) := by decide +kernel
theorem d_M_sheet_65 : decode u_M_sheet.2.1 65 = .ok (.bipush 60, 2) := by decide +kernel
theorem d_M_sheet_67 : decode u_M_sheet.2.1 67 = .ok (.iload_n 1, 1) := by decide +kernel
theorem d_M_sheet_68 : decode u_M_sheet.2.1 68 = .ok (.imul, 1) := by decide +kernel
theorem d_M_sheet_69 : decode u_M_sheet.2.1 69 = .ok (.iload 4, 2) := by decide +kernel
theorem d_M_sheet_71 : decode u_M_sheet.2.1 71 = .ok (.iadd, 1) := by decide +kernel
theorem d_M_sheet_72 : decode u_M_sheet.2.1 72 = .ok (.iconst 0, 1) := by decide +kernel
theorem d_M_sheet_73 : decode u_M_sheet.2.1 73 = .ok (.iastore, 1) := by decide +kernel
theorem d_M_sheet_74 : decode u_M_sheet.2.1 74 = .ok (.iinc 4 1, 3) := by decide +kernel
theorem d_M_sheet_77 : decode u_M_sheet.2.1 77 = .ok (.goto (-22), 3) := by decide +kernel
theorem d_M_sheet_80 : decode u_M_sheet.2.1 80 = .ok (.iload_n 3, 1) := by decide +kernel
theorem d_M_sheet_81 : decode u_M_sheet.2.1 81 = .ok (.ireturn, 1) := by decide +kernel
theorem d_M_lose_0 : decode u_M_lose.2.1 0 = .ok (.iload_n 1, 1) := by decide +kernel
theorem d_M_lose_1 : decode u_M_lose.2.1 1 = .ok (.invokestatic 79, 3) := by decide +kernel
theorem d_M_lose_4 : decode u_M_lose.2.1 4 = .ok (.ifCond .ne 6, 3) := by decide +kernel
theorem d_M_lose_7 : decode u_M_lose.2.1 7 = .ok (.bipush (-2), 2) := by decide +kernel
theorem d_M_lose_9 : decode u_M_lose.2.1 9 = .ok (.ireturn, 1) := by decide +kernel
theorem d_M_lose_10 : decode u_M_lose.2.1 10 = .ok (.aload_n 0, 1) := by decide +kernel
theorem d_M_lose_11 : decode u_M_lose.2.1 11 = .ok (.getfield 7, 3) := by decide +kernel
theorem d_M_lose_14 : decode u_M_lose.2.1 14 = .ok (.iload_n 1, 1) := by decide +kernel
theorem d_M_lose_15 : decode u_M_lose.2.1 15 = .ok (.iaload, 1) := by decide +kernel
theorem d_M_lose_16 : decode u_M_lose.2.1 16 = .ok (.ifCond .ge 9, 3) := by decide +kernel
theorem d_M_lose_19 : decode u_M_lose.2.1 19 = .ok (.aload_n 0, 1) := by decide +kernel
theorem d_M_lose_20 : decode u_M_lose.2.1 20 = .ok (.iconst 1, 1) := by decide +kernel
theorem d_M_lose_21 : decode u_M_lose.2.1 21 = .ok (.invokevirtual 85, 3) := by decide +kernel
theorem d_M_lose_24 : decode u_M_lose.2.1 24 = .ok (.ireturn, 1) := by decide +kernel
theorem d_M_lose_25 : decode u_M_lose.2.1 25 = .ok (.aload_n 0, 1) := by decide +kernel
theorem d_M_lose_26 : decode u_M_lose.2.1 26 = .ok (.getfield 7, 3) := by decide +kernel
theorem d_M_lose_29 : decode u_M_lose.2.1 29 = .ok (.iload_n 1, 1) := by decide +kernel
theorem d_M_lose_30 : decode u_M_lose.2.1 30 = .ok (.iconst (-1), 1) := by decide +kernel
theorem d_M_lose_31 : decode u_M_lose.2.1 31 = .ok (.iastore, 1) := by decide +kernel
theorem d_M_lose_32 : decode u_M_lose.2.1 32 = .ok (.aload_n 0, 1) := by decide +kernel
theorem d_M_lose_33 : decode u_M_lose.2.1 33 = .ok (.getfield 13, 3) := by decide +kernel
theorem d_M_lose_36 : decode u_M_lose.2.1 36 = .ok (.iload_n 1, 1) := by decide +kernel
theorem d_M_lose_37 : decode u_M_lose.2.1 37 = .ok (.iaload, 1) := by decide +kernel
theorem d_M_lose_38 : decode u_M_lose.2.1 38 = .ok (.ireturn, 1) := by decide +kernel
theorem d_M_lacks_0 : decode u_M_lacks.2.1 0 = .ok (.aload_n 0, 1) := by decide +kernel
theorem d_M_lacks_1 : decode u_M_lacks.2.1 1 = .ok (.getfield 7, 3) := by decide +kernel
theorem d_M_lacks_4 : decode u_M_lacks.2.1 4 = .ok (.iload_n 1, 1) := by decide +kernel
theorem d_M_lacks_5 : decode u_M_lacks.2.1 5 = .ok (.iaload, 1) := by decide +kernel
theorem d_M_lacks_6 : decode u_M_lacks.2.1 6 = .ok (.ifCond .ge 9, 3) := by decide +kernel
theorem d_M_lacks_9 : decode u_M_lacks.2.1 9 = .ok (.aload_n 0, 1) := by decide +kernel
theorem d_M_lacks_10 : decode u_M_lacks.2.1 10 = .ok (.iconst 1, 1) := by decide +kernel
theorem d_M_lacks_11 : decode u_M_lacks.2.1 11 = .ok (.invokevirtual 85, 3) := by decide +kernel
theorem d_M_lacks_14 : decode u_M_lacks.2.1 14 = .ok (.ireturn, 1) := by decide +kernel
theorem d_M_lacks_15 : decode u_M_lacks.2.1 15 = .ok (.aload_n 0, 1) := by decide +kernel
theorem d_M_lacks_16 : decode u_M_lacks.2.1 16 = .ok (.getfield 7, 3) := by decide +kernel
theorem d_M_lacks_19 : decode u_M_lacks.2.1 19 = .ok (.iload_n 1, 1) := by decide +kernel
theorem d_M_lacks_20 : decode u_M_lacks.2.1 20 = .ok (.iaload, 1) := by decide +kernel
theorem d_M_lacks_21 : decode u_M_lacks.2.1 21 = .ok (.iload_n 2, 1) := by decide +kernel
theorem d_M_lacks_22 : decode u_M_lacks.2.1 22 = .ok (.if_icmp .eq 9, 3) := by decide +kernel
theorem d_M_lacks_25 : decode u_M_lacks.2.1 25 = .ok (.aload_n 0, 1) := by decide +kernel
theorem d_M_lacks_26 : decode u_M_lacks.2.1 26 = .ok (.iconst 3, 1) := by decide +kernel
theorem d_M_lacks_27 : decode u_M_lacks.2.1 27 = .ok (.invokevirtual 85, 3) := by decide +kernel
theorem d_M_lacks_30 : decode u_M_lacks.2.1 30 = .ok (.ireturn, 1) := by decide +kernel
theorem d_M_lacks_31 : decode u_M_lacks.2.1 31 = .ok (.iload_n 3, 1) := by decide +kernel
theorem d_M_lacks_32 : decode u_M_lacks.2.1 32 = .ok (.i2l, 1) := by decide +kernel
theorem d_M_lacks_33 : decode u_M_lacks.2.1 33 = .ok (.lconst 0, 1) := by decide +kernel
theorem d_M_lacks_34 : decode u_M_lacks.2.1 34 = .ok (.aload_n 0, 1) := by decide +kernel
theorem d_M_lacks_35 : decode u_M_lacks.2.1 35 = .ok (.getfield 13, 3) := by decide +kernel
theorem d_M_lacks_38 : decode u_M_lacks.2.1 38 = .ok (.iload_n 1, 1) := by decide +kernel
theorem d_M_lacks_39 : decode u_M_lacks.2.1 39 = .ok (.iaload, 1) := by decide +kernel
theorem d_M_lacks_40 : decode u_M_lacks.2.1 40 = .ok (.iconst 1, 1) := by decide +kernel
theorem d_M_lacks_41 : decode u_M_lacks.2.1 41 = .ok (.isub, 1) := by decide +kernel
theorem d_M_lacks_42 : decode u_M_lacks.2.1 42 = .ok (.i2l, 1) := by decide +kernel
theorem d_M_lacks_43 : decode u_M_lacks.2.1 43 = .ok (.invokestatic 69, 3) := by decide +kernel
theorem d_M_lacks_46 : decode u_M_lacks.2.1 46 = .ok (.ifCond .eq 7, 3) := by decide +kernel
theorem d_M_lacks_49 : decode u_M_lacks.2.1 49 = .ok (.iconst 0, 1) := by decide +kernel
theorem d_M_lacks_50 : decode u_M_lacks.2.1 50 = .ok (.goto 8, 3) := by decide +kernel
theorem d_M_lacks_53 : decode u_M_lacks.2.1 53 = .ok (.aload_n 0, 1) := by decide +kernel
theorem d_M_lacks_54 : decode u_M_lacks.2.1 54 = .ok (.iconst 2, 1) := by decide +kernel
theorem d_M_lacks_55 : decode u_M_lacks.2.1 55 = .ok (.invokevirtual 85, 3) := by decide +kernel
theorem d_M_lacks_58 : decode u_M_lacks.2.1 58 = .ok (.ireturn, 1) := by decide +kernel
theorem d_M_cut_0 : decode u_M_cut.2.1 0 = .ok (.iload_n 0, 1) := by decide +kernel
theorem d_M_cut_1 : decode u_M_cut.2.1 1 = .ok (.ifCond .ne 8, 3) := by decide +kernel
theorem d_M_cut_4 : decode u_M_cut.2.1 4 = .ok (.iload_n 1, 1) := by decide +kernel
theorem d_M_cut_5 : decode u_M_cut.2.1 5 = .ok (.i2b, 1) := by decide +kernel
theorem d_M_cut_6 : decode u_M_cut.2.1 6 = .ok (.goto 14, 3) := by decide +kernel
theorem d_M_cut_9 : decode u_M_cut.2.1 9 = .ok (.iload_n 0, 1) := by decide +kernel
theorem d_M_cut_10 : decode u_M_cut.2.1 10 = .ok (.iconst 1, 1) := by decide +kernel
theorem d_M_cut_11 : decode u_M_cut.2.1 11 = .ok (.if_icmp .ne 8, 3) := by decide +kernel
theorem d_M_cut_14 : decode u_M_cut.2.1 14 = .ok (.iload_n 1, 1) := by decide +kernel
theorem d_M_cut_15 : decode u_M_cut.2.1 15 = .ok (.i2s, 1) := by decide +kernel
theorem d_M_cut_16 : decode u_M_cut.2.1 16 = .ok (.goto 4, 3) := by decide +kernel
theorem d_M_cut_19 : decode u_M_cut.2.1 19 = .ok (.iload_n 1, 1) := by decide +kernel
theorem d_M_cut_20 : decode u_M_cut.2.1 20 = .ok (.ireturn, 1) := by decide +kernel
theorem d_M_lay_0 : decode u_M_lay.2.1 0 = .ok (.iload_n 1, 1) := by decide +kernel
theorem d_M_lay_1 : decode u_M_lay.2.1 1 = .ok (.invokestatic 79, 3) := by decide +kernel
theorem d_M_lay_4 : decode u_M_lay.2.1 4 = .ok (.ifCond .eq 15, 3) := by decide +kernel
theorem d_M_lay_7 : decode u_M_lay.2.1 7 = .ok (.iload_n 2, 1) := by decide +kernel
theorem d_M_lay_8 : decode u_M_lay.2.1 8 = .ok (.i2l, 1) := by decide +kernel
theorem d_M_lay_9 : decode u_M_lay.2.1 9 = .ok (.lconst 0, 1) := by decide +kernel
theorem d_M_lay_10 : decode u_M_lay.2.1 10 = .ok (.ldc2_w 83, 3) := by decide +kernel
theorem d_M_lay_13 : decode u_M_lay.2.1 13 = .ok (.invokestatic 69, 3) := by decide +kernel
theorem d_M_lay_16 : decode u_M_lay.2.1 16 = .ok (.ifCond .ne 6, 3) := by decide +kernel
theorem d_M_lay_19 : decode u_M_lay.2.1 19 = .ok (.bipush (-2), 2) := by decide +kernel
theorem d_M_lay_21 : decode u_M_lay.2.1 21 = .ok (.ireturn, 1) := by decide +kernel
theorem d_M_lay_22 : decode u_M_lay.2.1 22 = .ok (.aload_n 0, 1) := by decide +kernel
theorem d_M_lay_23 : decode u_M_lay.2.1 23 = .ok (.iload_n 1, 1) := by decide +kernel
theorem d_M_lay_24 : decode u_M_lay.2.1 24 = .ok (.iload_n 2, 1) := by decide +kernel
theorem d_M_lay_25 : decode u_M_lay.2.1 25 = .ok (.iload_n 3, 1) := by decide +kernel
theorem d_M_lay_26 : decode u_M_lay.2.1 26 = .ok (.invokevirtual 89, 3) := by decide +kernel
theorem d_M_lay_29 : decode u_M_lay.2.1 29 = .ok (.istore 5, 2) := by decide +kernel
theorem d_M_lay_31 : decode u_M_lay.2.1 31 = .ok (.iload 5, 2) := by decide +kernel
theorem d_M_lay_33 : decode u_M_lay.2.1 33 = .ok (.ifCond .eq 6, 3) := by decide +kernel
theorem d_M_lay_36 : decode u_M_lay.2.1 36 = .ok (.iload 5, 2) := by decide +kernel
theorem d_M_lay_38 : decode u_M_lay.2.1 38 = .ok (.ireturn, 1) := by decide +kernel
theorem d_M_lay_39 : decode u_M_lay.2.1 39 = .ok (.aload_n 0, 1) := by decide +kernel
theorem d_M_lay_40 : decode u_M_lay.2.1 40 = .ok (.getfield 16, 3) := by decide +kernel
theorem d_M_lay_43 : decode u_M_lay.2.1 43 = .ok (.bipush 60, 2) := by decide +kernel
theorem d_M_lay_45 : decode u_M_lay.2.1 45 = .ok (.iload_n 1, 1) := by decide +kernel
theorem d_M_lay_46 : decode u_M_lay.2.1 46 = .ok (.imul, 1) := by decide +kernel
theorem d_M_lay_47 : decode u_M_lay.2.1 47 = .ok (.iload_n 3, 1) := by decide +kernel
theorem d_M_lay_48 : decode u_M_lay.2.1 48 = .ok (.iadd, 1) := by decide +kernel
theorem d_M_lay_49 : decode u_M_lay.2.1 49 = .ok (.iload_n 2, 1) := by decide +kernel
theorem d_M_lay_50 : decode u_M_lay.2.1 50 = .ok (.iload 4, 2) := by decide +kernel
theorem d_M_lay_52 : decode u_M_lay.2.1 52 = .ok (.invokestatic 93, 3) := by decide +kernel
theorem d_M_lay_55 : decode u_M_lay.2.1 55 = .ok (.iastore, 1) := by decide +kernel
theorem d_M_lay_56 : decode u_M_lay.2.1 56 = .ok (.iconst 1, 1) := by decide +kernel
theorem d_M_lay_57 : decode u_M_lay.2.1 57 = .ok (.ireturn, 1) := by decide +kernel
theorem d_M_get_0 : decode u_M_get.2.1 0 = .ok (.iload_n 1, 1) := by decide +kernel
theorem d_M_get_1 : decode u_M_get.2.1 1 = .ok (.invokestatic 79, 3) := by decide +kernel
theorem d_M_get_4 : decode u_M_get.2.1 4 = .ok (.ifCond .eq 25, 3) := by decide +kernel
theorem d_M_get_7 : decode u_M_get.2.1 7 = .ok (.iload_n 2, 1) := by decide +kernel
theorem d_M_get_8 : decode u_M_get.2.1 8 = .ok (.i2l, 1) := by decide +kernel
theorem d_M_get_9 : decode u_M_get.2.1 9 = .ok (.lconst 0, 1) := by decide +kernel
theorem d_M_get_10 : decode u_M_get.2.1 10 = .ok (.ldc2_w 83, 3) := by decide +kernel
theorem d_M_get_13 : decode u_M_get.2.1 13 = .ok (.invokestatic 69, 3) := by decide +kernel
theorem d_M_get_16 : decode u_M_get.2.1 16 = .ok (.ifCond .eq 13, 3) := by decide +kernel
theorem d_M_get_19 : decode u_M_get.2.1 19 = .ok (.aload_n 0, 1) := by decide +kernel
theorem d_M_get_20 : decode u_M_get.2.1 20 = .ok (.iload_n 1, 1) := by decide +kernel
theorem d_M_get_21 : decode u_M_get.2.1 21 = .ok (.iload_n 2, 1) := by decide +kernel
theorem d_M_get_22 : decode u_M_get.2.1 22 = .ok (.iload_n 3, 1) := by decide +kernel
theorem d_M_get_23 : decode u_M_get.2.1 23 = .ok (.invokevirtual 89, 3) := by decide +kernel
theorem d_M_get_26 : decode u_M_get.2.1 26 = .ok (.ifCond .eq 6, 3) := by decide +kernel
theorem d_M_get_29 : decode u_M_get.2.1 29 = .ok (.ldc 97, 2) := by decide +kernel
theorem d_M_get_31 : decode u_M_get.2.1 31 = .ok (.ireturn, 1) := by decide +kernel
theorem d_M_get_32 : decode u_M_get.2.1 32 = .ok (.aload_n 0, 1) := by decide +kernel
theorem d_M_get_33 : decode u_M_get.2.1 33 = .ok (.getfield 16, 3) := by decide +kernel
theorem d_M_get_36 : decode u_M_get.2.1 36 = .ok (.bipush 60, 2) := by decide +kernel
theorem d_M_get_38 : decode u_M_get.2.1 38 = .ok (.iload_n 1, 1) := by decide +kernel
theorem d_M_get_39 : decode u_M_get.2.1 39 = .ok (.imul, 1) := by decide +kernel
theorem d_M_get_40 : decode u_M_get.2.1 40 = .ok (.iload_n 3, 1) := by decide +kernel
theorem d_M_get_41 : decode u_M_get.2.1 41 = .ok (.iadd, 1) := by decide +kernel
theorem d_M_get_42 : decode u_M_get.2.1 42 = .ok (.iaload, 1) := by decide +kernel
theorem d_M_get_43 : decode u_M_get.2.1 43 = .ok (.ireturn, 1) := by decide +kernel
theorem d_M_copy_0 : decode u_M_copy.2.1 0 = .ok (.iload_n 1, 1) := by decide +kernel
theorem d_M_copy_1 : decode u_M_copy.2.1 1 = .ok (.invokestatic 79, 3) := by decide +kernel
theorem d_M_copy_4 : decode u_M_copy.2.1 4 = .ok (.ifCond .eq 10, 3) := by decide +kernel
theorem d_M_copy_7 : decode u_M_copy.2.1 7 = .ok (.iload_n 3, 1) := by decide +kernel
theorem d_M_copy_8 : decode u_M_copy.2.1 8 = .ok (.invokestatic 79, 3) := by decide +kernel
theorem d_M_copy_11 : decode u_M_copy.2.1 11 = .ok (.ifCond .ne 6, 3) := by decide +kernel
theorem d_M_copy_14 : decode u_M_copy.2.1 14 = .ok (.bipush (-2), 2) := by decide +kernel
theorem d_M_copy_16 : decode u_M_copy.2.1 16 = .ok (.ireturn, 1) := by decide +kernel
theorem d_M_copy_17 : decode u_M_copy.2.1 17 = .ok (.aload_n 0, 1) := by decide +kernel
theorem d_M_copy_18 : decode u_M_copy.2.1 18 = .ok (.getfield 7, 3) := by decide +kernel
theorem d_M_copy_21 : decode u_M_copy.2.1 21 = .ok (.iload_n 1, 1) := by decide +kernel
theorem d_M_copy_22 : decode u_M_copy.2.1 22 = .ok (.iaload, 1) := by decide +kernel
theorem d_M_copy_23 : decode u_M_copy.2.1 23 = .ok (.ifCond .lt 12, 3) := by decide +kernel
theorem d_M_copy_26 : decode u_M_copy.2.1 26 = .ok (.aload_n 0, 1) := by decide +kernel
theorem d_M_copy_27 : decode u_M_copy.2.1 27 = .ok (.getfield 7, 3) := by decide +kernel
theorem d_M_copy_30 : decode u_M_copy.2.1 30 = .ok (.iload_n 3, 1) := by decide +kernel
theorem d_M_copy_31 : decode u_M_copy.2.1 31 = .ok (.iaload, 1) := by decide +kernel
theorem d_M_copy_32 : decode u_M_copy.2.1 32 = .ok (.ifCond .ge 9, 3) := by decide +kernel
theorem d_M_copy_35 : decode u_M_copy.2.1 35 = .ok (.aload_n 0, 1) := by decide +kernel
theorem d_M_copy_36 : decode u_M_copy.2.1 36 = .ok (.iconst 1, 1) := by decide +kernel
theorem d_M_copy_37 : decode u_M_copy.2.1 37 = .ok (.invokevirtual 85, 3) := by decide +kernel
theorem d_M_copy_40 : decode u_M_copy.2.1 40 = .ok (.ireturn, 1) := by decide +kernel
theorem d_M_copy_41 : decode u_M_copy.2.1 41 = .ok (.aload_n 0, 1) := by decide +kernel
theorem d_M_copy_42 : decode u_M_copy.2.1 42 = .ok (.getfield 7, 3) := by decide +kernel
theorem d_M_copy_45 : decode u_M_copy.2.1 45 = .ok (.iload_n 1, 1) := by decide +kernel
theorem d_M_copy_46 : decode u_M_copy.2.1 46 = .ok (.iaload, 1) := by decide +kernel
theorem d_M_copy_47 : decode u_M_copy.2.1 47 = .ok (.aload_n 0, 1) := by decide +kernel
theorem d_M_copy_48 : decode u_M_copy.2.1 48 = .ok (.getfield 7, 3) := by decide +kernel
theorem d_M_copy_51 : decode u_M_copy.2.1 51 = .ok (.iload_n 3, 1) := by decide +kernel
theorem d_M_copy_52 : decode u_M_copy.2.1 52 = .ok (.iaload, 1) := by decide +kernel
theorem d_M_copy_53 : decode u_M_copy.2.1 53 = .ok (.if_icmp .eq 9, 3) := by decide +kernel
theorem d_M_copy_56 : decode u_M_copy.2.1 56 = .ok (.aload_n 0, 1) := by decide +kernel
theorem d_M_copy_57 : decode u_M_copy.2.1 57 = .ok (.iconst 4, 1) := by decide +kernel
theorem d_M_copy_58 : decode u_M_copy.2.1 58 = .ok (.invokevirtual 85, 3) := by decide +kernel
theorem d_M_copy_61 : decode u_M_copy.2.1 61 = .ok (.ireturn, 1) := by decide +kernel
theorem d_M_copy_62 : decode u_M_copy.2.1 62 = .ok (.iload_n 2, 1) := by decide +kernel
theorem d_M_copy_63 : decode u_M_copy.2.1 63 = .ok (.ifCond .lt 48, 3) := by decide +kernel
theorem d_M_copy_66 : decode u_M_copy.2.1 66 = .ok (.iload 4, 2) := by decide +kernel
theorem d_M_copy_68 : decode u_M_copy.2.1 68 = .ok (.ifCond .lt 43, 3) := by decide +kernel
theorem d_M_copy_71 : decode u_M_copy.2.1 71 = .ok (.iload 5, 2) := by decide +kernel
theorem d_M_copy_73 : decode u_M_copy.2.1 73 = .ok (.ifCond .lt 38, 3) := by decide +kernel
theorem d_M_copy_76 : decode u_M_copy.2.1 76 = .ok (.iload_n 2, 1) := by decide +kernel
theorem d_M_copy_77 : decode u_M_copy.2.1 77 = .ok (.i2l, 1) := by decide +kernel
theorem d_M_copy_78 : decode u_M_copy.2.1 78 = .ok (.iload 5, 2) := by decide +kernel
theorem d_M_copy_80 : decode u_M_copy.2.1 80 = .ok (.i2l, 1) := by decide +kernel
theorem d_M_copy_81 : decode u_M_copy.2.1 81 = .ok (.ladd, 1) := by decide +kernel
theorem d_M_copy_82 : decode u_M_copy.2.1 82 = .ok (.aload_n 0, 1) := by decide +kernel
theorem d_M_copy_83 : decode u_M_copy.2.1 83 = .ok (.getfield 13, 3) := by decide +kernel
theorem d_M_copy_86 : decode u_M_copy.2.1 86 = .ok (.iload_n 1, 1) := by decide +kernel
theorem d_M_copy_87 : decode u_M_copy.2.1 87 = .ok (.iaload, 1) := by decide +kernel
theorem d_M_copy_88 : decode u_M_copy.2.1 88 = .ok (.i2l, 1) := by decide +kernel
theorem d_M_copy_89 : decode u_M_copy.2.1 89 = .ok (.lcmp, 1) := by decide +kernel
theorem d_M_copy_90 : decode u_M_copy.2.1 90 = .ok (.ifCond .gt 21, 3) := by decide +kernel
theorem d_M_copy_93 : decode u_M_copy.2.1 93 = .ok (.iload 4, 2) := by decide +kernel
theorem d_M_copy_95 : decode u_M_copy.2.1 95 = .ok (.i2l, 1) := by decide +kernel
theorem d_M_copy_96 : decode u_M_copy.2.1 96 = .ok (.iload 5, 2) := by decide +kernel
theorem d_M_copy_98 : decode u_M_copy.2.1 98 = .ok (.i2l, 1) := by decide +kernel
theorem d_M_copy_99 : decode u_M_copy.2.1 99 = .ok (.ladd, 1) := by decide +kernel
theorem d_M_copy_100 : decode u_M_copy.2.1 100 = .ok (.aload_n 0, 1) := by decide +kernel
theorem d_M_copy_101 : decode u_M_copy.2.1 101 = .ok (.getfield 13, 3) := by decide +kernel
theorem d_M_copy_104 : decode u_M_copy.2.1 104 = .ok (.iload_n 3, 1) := by decide +kernel
theorem d_M_copy_105 : decode u_M_copy.2.1 105 = .ok (.iaload, 1) := by decide +kernel
theorem d_M_copy_106 : decode u_M_copy.2.1 106 = .ok (.i2l, 1) := by decide +kernel
theorem d_M_copy_107 : decode u_M_copy.2.1 107 = .ok (.lcmp, 1) := by decide +kernel
theorem d_M_copy_108 : decode u_M_copy.2.1 108 = .ok (.ifCond .le 9, 3) := by decide +kernel
theorem d_M_copy_111 : decode u_M_copy.2.1 111 = .ok (.aload_n 0, 1) := by decide +kernel
theorem d_M_copy_112 : decode u_M_copy.2.1 112 = .ok (.iconst 2, 1) := by decide +kernel
theorem d_M_copy_113 : decode u_M_copy.2.1 113 = .ok (.invokevirtual 85, 3) := by decide +kernel
theorem d_M_copy_116 : decode u_M_copy.2.1 116 = .ok (.ireturn, 1) := by decide +kernel
theorem d_M_copy_117 : decode u_M_copy.2.1 117 = .ok (.iconst 0, 1) := by decide +kernel
theorem d_M_copy_118 : decode u_M_copy.2.1 118 = .ok (.istore 6, 2) := by decide +kernel
theorem d_M_copy_120 : decode u_M_copy.2.1 120 = .ok (.iload 6, 2) := by decide +kernel
theorem d_M_copy_122 : decode u_M_copy.2.1 122 = .ok (.iload 5, 2) := by decide +kernel
theorem d_M_copy_124 : decode u_M_copy.2.1 124 = .ok (.if_icmp .ge 30, 3) := by decide +kernel
theorem d_M_copy_127 : decode u_M_copy.2.1 127 = .ok (.aload_n 0, 1) := by decide +kernel
theorem d_M_copy_128 : decode u_M_copy.2.1 128 = .ok (.getfield 19, 3) := by decide +kernel
theorem d_M_copy_131 : decode u_M_copy.2.1 131 = .ok (.iload 6, 2) := by decide +kernel
theorem d_M_copy_133 : decode u_M_copy.2.1 133 = .ok (.aload_n 0, 1) := by decide +kernel
theorem d_M_copy_134 : decode u_M_copy.2.1 134 = .ok (.getfield 16, 3) := by decide +kernel
theorem d_M_copy_137 : decode u_M_copy.2.1 137 = .ok (.bipush 60, 2) := by decide +kernel
theorem d_M_copy_139 : decode u_M_copy.2.1 139 = .ok (.iload_n 1, 1) := by decide +kernel
theorem d_M_copy_140 : decode u_M_copy.2.1 140 = .ok (.imul, 1) := by decide +kernel
theorem d_M_copy_141 : decode u_M_copy.2.1 141 = .ok (.iload_n 2, 1) := by decide +kernel
theorem d_M_copy_142 : decode u_M_copy.2.1 142 = .ok (.iadd, 1) := by decide +kernel
theorem d_M_copy_143 : decode u_M_copy.2.1 143 = .ok (.iload 6, 2) := by decide +kernel
theorem d_M_copy_145 : decode u_M_copy.2.1 145 = .ok (.iadd, 1) := by decide +kernel
theorem d_M_copy_146 : decode u_M_copy.2.1 146 = .ok (.iaload, 1) := by decide +kernel
theorem d_M_copy_147 : decode u_M_copy.2.1 147 = .ok (.iastore, 1) := by decide +kernel
theorem d_M_copy_148 : decode u_M_copy.2.1 148 = .ok (.iinc 6 1, 3) := by decide +kernel
theorem d_M_copy_151 : decode u_M_copy.2.1 151 = .ok (.goto (-31), 3) := by decide +kernel
theorem d_M_copy_154 : decode u_M_copy.2.1 154 = .ok (.iconst 0, 1) := by decide +kernel
theorem d_M_copy_155 : decode u_M_copy.2.1 155 = .ok (.istore 6, 2) := by decide +kernel
theorem d_M_copy_157 : decode u_M_copy.2.1 157 = .ok (.iload 6, 2) := by decide +kernel
theorem d_M_copy_159 : decode u_M_copy.2.1 159 = .ok (.iload 5, 2) := by decide +kernel
theorem d_M_copy_161 : decode u_M_copy.2.1 161 = .ok (.if_icmp .ge 31, 3) := by decide +kernel
theorem d_M_copy_164 : decode u_M_copy.2.1 164 = .ok (.aload_n 0, 1) := by decide +kernel
theorem d_M_copy_165 : decode u_M_copy.2.1 165 = .ok (.getfield 16, 3) := by decide +kernel
theorem d_M_copy_168 : decode u_M_copy.2.1 168 = .ok (.bipush 60, 2) := by decide +kernel
theorem d_M_copy_170 : decode u_M_copy.2.1 170 = .ok (.iload_n 3, 1) := by decide +kernel
theorem d_M_copy_171 : decode u_M_copy.2.1 171 = .ok (.imul, 1) := by decide +kernel
theorem d_M_copy_172 : decode u_M_copy.2.1 172 = .ok (.iload 4, 2) := by decide +kernel
theorem d_M_copy_174 : decode u_M_copy.2.1 174 = .ok (.iadd, 1) := by decide +kernel
theorem d_M_copy_175 : decode u_M_copy.2.1 175 = .ok (.iload 6, 2) := by decide +kernel
theorem d_M_copy_177 : decode u_M_copy.2.1 177 = .ok (.iadd, 1) := by decide +kernel
theorem d_M_copy_178 : decode u_M_copy.2.1 178 = .ok (.aload_n 0, 1) := by decide +kernel
theorem d_M_copy_179 : decode u_M_copy.2.1 179 = .ok (.getfield 19, 3) := by decide +kernel
theorem d_M_copy_182 : decode u_M_copy.2.1 182 = .ok (.iload 6, 2) := by decide +kernel
theorem d_M_copy_184 : decode u_M_copy.2.1 184 = .ok (.iaload, 1) := by decide +kernel
theorem d_M_copy_185 : decode u_M_copy.2.1 185 = .ok (.iastore, 1) := by decide +kernel
theorem d_M_copy_186 : decode u_M_copy.2.1 186 = .ok (.iinc 6 1, 3) := by decide +kernel
theorem d_M_copy_189 : decode u_M_copy.2.1 189 = .ok (.goto (-32), 3) := by decide +kernel
theorem d_M_copy_192 : decode u_M_copy.2.1 192 = .ok (.iconst 1, 1) := by decide +kernel
theorem d_M_copy_193 : decode u_M_copy.2.1 193 = .ok (.ireturn, 1) := by decide +kernel
theorem d_M_isHead_0 : decode u_M_isHead.2.1 0 = .ok (.iload_n 1, 1) := by decide +kernel
theorem d_M_isHead_1 : decode u_M_isHead.2.1 1 = .ok (.i2l, 1) := by decide +kernel
theorem d_M_isHead_2 : decode u_M_isHead.2.1 2 = .ok (.lconst 0, 1) := by decide +kernel
theorem d_M_isHead_3 : decode u_M_isHead.2.1 3 = .ok (.aload_n 0, 1) := by decide +kernel
theorem d_M_isHead_4 : decode u_M_isHead.2.1 4 = .ok (.getfield 98, 3) := by decide +kernel
theorem d_M_isHead_7 : decode u_M_isHead.2.1 7 = .ok (.iconst 1, 1) := by decide +kernel
theorem d_M_isHead_8 : decode u_M_isHead.2.1 8 = .ok (.isub, 1) := by decide +kernel
theorem d_M_isHead_9 : decode u_M_isHead.2.1 9 = .ok (.i2l, 1) := by decide +kernel
theorem d_M_isHead_10 : decode u_M_isHead.2.1 10 = .ok (.invokestatic 69, 3) := by decide +kernel
theorem d_M_isHead_13 : decode u_M_isHead.2.1 13 = .ok (.ireturn, 1) := by decide +kernel
theorem d_M_isPart_0 : decode u_M_isPart.2.1 0 = .ok (.iload_n 0, 1) := by decide +kernel
theorem d_M_isPart_1 : decode u_M_isPart.2.1 1 = .ok (.i2l, 1) := by decide +kernel
theorem d_M_isPart_2 : decode u_M_isPart.2.1 2 = .ok (.lconst 0, 1) := by decide +kernel
theorem d_M_isPart_3 : decode u_M_isPart.2.1 3 = .ok (.ldc2_w 101, 3) := by decide +kernel
theorem d_M_isPart_6 : decode u_M_isPart.2.1 6 = .ok (.invokestatic 69, 3) := by decide +kernel
theorem d_M_isPart_9 : decode u_M_isPart.2.1 9 = .ok (.ireturn, 1) := by decide +kernel
theorem d_M_isHand_0 : decode u_M_isHand.2.1 0 = .ok (.iload_n 0, 1) := by decide +kernel
theorem d_M_isHand_1 : decode u_M_isHand.2.1 1 = .ok (.i2l, 1) := by decide +kernel
theorem d_M_isHand_2 : decode u_M_isHand.2.1 2 = .ok (.lconst 0, 1) := by decide +kernel
theorem d_M_isHand_3 : decode u_M_isHand.2.1 3 = .ok (.ldc2_w 77, 3) := by decide +kernel
theorem d_M_isHand_6 : decode u_M_isHand.2.1 6 = .ok (.invokestatic 69, 3) := by decide +kernel
theorem d_M_isHand_9 : decode u_M_isHand.2.1 9 = .ok (.ireturn, 1) := by decide +kernel
theorem d_M_isSet_0 : decode u_M_isSet.2.1 0 = .ok (.iload_n 1, 1) := by decide +kernel
theorem d_M_isSet_1 : decode u_M_isSet.2.1 1 = .ok (.i2l, 1) := by decide +kernel
theorem d_M_isSet_2 : decode u_M_isSet.2.1 2 = .ok (.lconst 1, 1) := by decide +kernel
theorem d_M_isSet_3 : decode u_M_isSet.2.1 3 = .ok (.iconst 1, 1) := by decide +kernel
theorem d_M_isSet_4 : decode u_M_isSet.2.1 4 = .ok (.aload_n 0, 1) := by decide +kernel
theorem d_M_isSet_5 : decode u_M_isSet.2.1 5 = .ok (.getfield 98, 3) := by decide +kernel
theorem d_M_isSet_8 : decode u_M_isSet.2.1 8 = .ok (.ishl, 1) := by decide +kernel
theorem d_M_isSet_9 : decode u_M_isSet.2.1 9 = .ok (.iconst 1, 1) := by decide +kernel
theorem d_M_isSet_10 : decode u_M_isSet.2.1 10 = .ok (.isub, 1) := by decide +kernel
theorem d_M_isSet_11 : decode u_M_isSet.2.1 11 = .ok (.i2l, 1) := by decide +kernel
theorem d_M_isSet_12 : decode u_M_isSet.2.1 12 = .ok (.invokestatic 69, 3) := by decide +kernel
theorem d_M_isSet_15 : decode u_M_isSet.2.1 15 = .ok (.ireturn, 1) := by decide +kernel
theorem d_M_head_0 : decode u_M_head.2.1 0 = .ok (.aload_n 0, 1) := by decide +kernel
theorem d_M_head_1 : decode u_M_head.2.1 1 = .ok (.getfield 98, 3) := by decide +kernel
theorem d_M_head_4 : decode u_M_head.2.1 4 = .ok (.bipush 8, 2) := by decide +kernel
theorem d_M_head_6 : decode u_M_head.2.1 6 = .ok (.if_icmp .ne 6, 3) := by decide +kernel
theorem d_M_head_9 : decode u_M_head.2.1 9 = .ok (.bipush (-4), 2) := by decide +kernel
theorem d_M_head_11 : decode u_M_head.2.1 11 = .ok (.ireturn, 1) := by decide +kernel
theorem d_M_head_12 : decode u_M_head.2.1 12 = .ok (.iconst 0, 1) := by decide +kernel
theorem d_M_head_13 : decode u_M_head.2.1 13 = .ok (.istore_n 1, 1) := by decide +kernel
theorem d_M_head_14 : decode u_M_head.2.1 14 = .ok (.iload_n 1, 1) := by decide +kernel
theorem d_M_head_15 : decode u_M_head.2.1 15 = .ok (.bipush 8, 2) := by decide +kernel
theorem d_M_head_17 : decode u_M_head.2.1 17 = .ok (.if_icmp .ge 25, 3) := by decide +kernel
theorem d_M_head_20 : decode u_M_head.2.1 20 = .ok (.aload_n 0, 1) := by decide +kernel
theorem d_M_head_21 : decode u_M_head.2.1 21 = .ok (.getfield 22, 3) := by decide +kernel
theorem d_M_head_24 : decode u_M_head.2.1 24 = .ok (.bipush 8, 2) := by decide +kernel
theorem d_M_head_26 : decode u_M_head.2.1 26 = .ok (.aload_n 0, 1) := by decide +kernel
theorem d_M_head_27 : decode u_M_head.2.1 27 = .ok (.getfield 98, 3) := by decide +kernel
theorem d_M_head_30 : decode u_M_head.2.1 30 = .ok (.imul, 1) := by decide +kernel
theorem d_M_head_31 : decode u_M_head.2.1 31 = .ok (.iload_n 1, 1) := by decide +kernel
theorem d_M_head_32 : decode u_M_head.2.1 32 = .ok (.iadd, 1) := by decide +kernel
theorem d_M_head_33 : decode u_M_head.2.1 33 = .ok (.bipush 50, 2) := by decide +kernel
theorem d_M_head_35 : decode u_M_head.2.1 35 = .ok (.iastore, 1) := by decide +kernel
theorem d_M_head_36 : decode u_M_head.2.1 36 = .ok (.iinc 1 1, 3) := by decide +kernel
theorem d_M_head_39 : decode u_M_head.2.1 39 = .ok (.goto (-25), 3) := by decide +kernel
theorem d_M_head_42 : decode u_M_head.2.1 42 = .ok (.aload_n 0, 1) := by decide +kernel
theorem d_M_head_43 : decode u_M_head.2.1 43 = .ok (.dup, 1) := by decide +kernel
theorem d_M_head_44 : decode u_M_head.2.1 44 = .ok (.getfield 98, 3) := by decide +kernel
theorem d_M_head_47 : decode u_M_head.2.1 47 = .ok (.iconst 1, 1) := by decide +kernel
theorem d_M_head_48 : decode u_M_head.2.1 48 = .ok (.iadd, 1) := by decide +kernel
theorem d_M_head_49 : decode u_M_head.2.1 49 = .ok (.putfield 98, 3) := by decide +kernel
theorem d_M_head_52 : decode u_M_head.2.1 52 = .ok (.aload_n 0, 1) := by decide +kernel
theorem d_M_head_53 : decode u_M_head.2.1 53 = .ok (.getfield 98, 3) := by decide +kernel
theorem d_M_head_56 : decode u_M_head.2.1 56 = .ok (.iconst 1, 1) := by decide +kernel
theorem d_M_head_57 : decode u_M_head.2.1 57 = .ok (.isub, 1) := by decide +kernel
theorem d_M_head_58 : decode u_M_head.2.1 58 = .ok (.ireturn, 1) := by decide +kernel
theorem d_M_place_0 : decode u_M_place.2.1 0 = .ok (.aload_n 0, 1) := by decide +kernel
theorem d_M_place_1 : decode u_M_place.2.1 1 = .ok (.iload_n 1, 1) := by decide +kernel
theorem d_M_place_2 : decode u_M_place.2.1 2 = .ok (.invokevirtual 103, 3) := by decide +kernel
theorem d_M_place_5 : decode u_M_place.2.1 5 = .ok (.ifCond .eq 22, 3) := by decide +kernel
theorem d_M_place_8 : decode u_M_place.2.1 8 = .ok (.iload_n 2, 1) := by decide +kernel
theorem d_M_place_9 : decode u_M_place.2.1 9 = .ok (.invokestatic 106, 3) := by decide +kernel
theorem d_M_place_12 : decode u_M_place.2.1 12 = .ok (.ifCond .eq 15, 3) := by decide +kernel
theorem d_M_place_15 : decode u_M_place.2.1 15 = .ok (.iload_n 3, 1) := by decide +kernel
theorem d_M_place_16 : decode u_M_place.2.1 16 = .ok (.i2l, 1) := by decide +kernel
theorem d_M_place_17 : decode u_M_place.2.1 17 = .ok (.lconst 0, 1) := by decide +kernel
theorem d_M_place_18 : decode u_M_place.2.1 18 = .ok (.ldc2_w 109, 3) := by decide +kernel
theorem d_M_place_21 : decode u_M_place.2.1 21 = .ok (.invokestatic 69, 3) := by decide +kernel
theorem d_M_place_24 : decode u_M_place.2.1 24 = .ok (.ifCond .ne 6, 3) := by decide +kernel
theorem d_M_place_27 : decode u_M_place.2.1 27 = .ok (.bipush (-2), 2) := by decide +kernel
theorem d_M_place_29 : decode u_M_place.2.1 29 = .ok (.ireturn, 1) := by decide +kernel
theorem d_M_place_30 : decode u_M_place.2.1 30 = .ok (.aload_n 0, 1) := by decide +kernel
theorem d_M_place_31 : decode u_M_place.2.1 31 = .ok (.getfield 22, 3) := by decide +kernel
theorem d_M_place_34 : decode u_M_place.2.1 34 = .ok (.bipush 8, 2) := by decide +kernel
theorem d_M_place_36 : decode u_M_place.2.1 36 = .ok (.iload_n 1, 1) := by decide +kernel
theorem d_M_place_37 : decode u_M_place.2.1 37 = .ok (.imul, 1) := by decide +kernel
theorem d_M_place_38 : decode u_M_place.2.1 38 = .ok (.iload_n 2, 1) := by decide +kernel
theorem d_M_place_39 : decode u_M_place.2.1 39 = .ok (.iadd, 1) := by decide +kernel
theorem d_M_place_40 : decode u_M_place.2.1 40 = .ok (.iaload, 1) := by decide +kernel
theorem d_M_place_41 : decode u_M_place.2.1 41 = .ok (.istore 4, 2) := by decide +kernel
theorem d_M_place_43 : decode u_M_place.2.1 43 = .ok (.aload_n 0, 1) := by decide +kernel
theorem d_M_place_44 : decode u_M_place.2.1 44 = .ok (.getfield 22, 3) := by decide +kernel
theorem d_M_place_47 : decode u_M_place.2.1 47 = .ok (.bipush 8, 2) := by decide +kernel
theorem d_M_place_49 : decode u_M_place.2.1 49 = .ok (.iload_n 1, 1) := by decide +kernel
theorem d_M_place_50 : decode u_M_place.2.1 50 = .ok (.imul, 1) := by decide +kernel
theorem d_M_place_51 : decode u_M_place.2.1 51 = .ok (.iload_n 2, 1) := by decide +kernel
theorem d_M_place_52 : decode u_M_place.2.1 52 = .ok (.iadd, 1) := by decide +kernel
theorem d_M_place_53 : decode u_M_place.2.1 53 = .ok (.iload_n 3, 1) := by decide +kernel
theorem d_M_place_54 : decode u_M_place.2.1 54 = .ok (.iastore, 1) := by decide +kernel
theorem d_M_place_55 : decode u_M_place.2.1 55 = .ok (.iload 4, 2) := by decide +kernel
theorem d_M_place_57 : decode u_M_place.2.1 57 = .ok (.ireturn, 1) := by decide +kernel
theorem d_M_read_0 : decode u_M_read.2.1 0 = .ok (.iload_n 1, 1) := by decide +kernel
theorem d_M_read_1 : decode u_M_read.2.1 1 = .ok (.invokestatic 79, 3) := by decide +kernel
theorem d_M_read_4 : decode u_M_read.2.1 4 = .ok (.ifCond .eq 11, 3) := by decide +kernel
theorem d_M_read_7 : decode u_M_read.2.1 7 = .ok (.aload_n 0, 1) := by decide +kernel
theorem d_M_read_8 : decode u_M_read.2.1 8 = .ok (.iload_n 2, 1) := by decide +kernel
theorem d_M_read_9 : decode u_M_read.2.1 9 = .ok (.invokevirtual 103, 3) := by decide +kernel
theorem d_M_read_12 : decode u_M_read.2.1 12 = .ok (.ifCond .ne 6, 3) := by decide +kernel
theorem d_M_read_15 : decode u_M_read.2.1 15 = .ok (.bipush (-2), 2) := by decide +kernel
theorem d_M_read_17 : decode u_M_read.2.1 17 = .ok (.ireturn, 1) := by decide +kernel
theorem d_M_read_18 : decode u_M_read.2.1 18 = .ok (.aload_n 0, 1) := by decide +kernel
theorem d_M_read_19 : decode u_M_read.2.1 19 = .ok (.getfield 7, 3) := by decide +kernel
theorem d_M_read_22 : decode u_M_read.2.1 22 = .ok (.iload_n 1, 1) := by decide +kernel
theorem d_M_read_23 : decode u_M_read.2.1 23 = .ok (.iaload, 1) := by decide +kernel
theorem d_M_read_24 : decode u_M_read.2.1 24 = .ok (.ifCond .ge 9, 3) := by decide +kernel
theorem d_M_read_27 : decode u_M_read.2.1 27 = .ok (.aload_n 0, 1) := by decide +kernel
theorem d_M_read_28 : decode u_M_read.2.1 28 = .ok (.iconst 1, 1) := by decide +kernel
theorem d_M_read_29 : decode u_M_read.2.1 29 = .ok (.invokevirtual 85, 3) := by decide +kernel
theorem d_M_read_32 : decode u_M_read.2.1 32 = .ok (.ireturn, 1) := by decide +kernel
theorem d_M_read_33 : decode u_M_read.2.1 33 = .ok (.iconst 0, 1) := by decide +kernel
theorem d_M_read_34 : decode u_M_read.2.1 34 = .ok (.istore_n 3, 1) := by decide +kernel
theorem d_M_read_35 : decode u_M_read.2.1 35 = .ok (.iload_n 3, 1) := by decide +kernel
theorem d_M_read_36 : decode u_M_read.2.1 36 = .ok (.aload_n 0, 1) := by decide +kernel
theorem d_M_read_37 : decode u_M_read.2.1 37 = .ok (.getfield 13, 3) := by decide +kernel
theorem d_M_read_40 : decode u_M_read.2.1 40 = .ok (.iload_n 1, 1) := by decide +kernel
theorem d_M_read_41 : decode u_M_read.2.1 41 = .ok (.iaload, 1) := by decide +kernel
theorem d_M_read_42 : decode u_M_read.2.1 42 = .ok (.if_icmp .ge 29, 3) := by decide +kernel
theorem d_M_read_45 : decode u_M_read.2.1 45 = .ok (.aload_n 0, 1) := by decide +kernel
theorem d_M_read_46 : decode u_M_read.2.1 46 = .ok (.iload_n 2, 1) := by decide +kernel
theorem d_M_read_47 : decode u_M_read.2.1 47 = .ok (.iload_n 3, 1) := by decide +kernel
theorem d_M_read_48 : decode u_M_read.2.1 48 = .ok (.aload_n 0, 1) := by decide +kernel
theorem d_M_read_49 : decode u_M_read.2.1 49 = .ok (.getfield 16, 3) := by decide +kernel
theorem d_M_read_52 : decode u_M_read.2.1 52 = .ok (.bipush 60, 2) := by decide +kernel
theorem d_M_read_54 : decode u_M_read.2.1 54 = .ok (.iload_n 1, 1) := by decide +kernel
theorem d_M_read_55 : decode u_M_read.2.1 55 = .ok (.imul, 1) := by decide +kernel
theorem d_M_read_56 : decode u_M_read.2.1 56 = .ok (.iload_n 3, 1) := by decide +kernel
theorem d_M_read_57 : decode u_M_read.2.1 57 = .ok (.iadd, 1) := by decide +kernel
theorem d_M_read_58 : decode u_M_read.2.1 58 = .ok (.iaload, 1) := by decide +kernel
theorem d_M_read_59 : decode u_M_read.2.1 59 = .ok (.invokevirtual 111, 3) := by decide +kernel
theorem d_M_read_62 : decode u_M_read.2.1 62 = .ok (.ifCond .lt 9, 3) := by decide +kernel
theorem d_M_read_65 : decode u_M_read.2.1 65 = .ok (.iinc 3 1, 3) := by decide +kernel
theorem d_M_read_68 : decode u_M_read.2.1 68 = .ok (.goto (-33), 3) := by decide +kernel
theorem d_M_read_71 : decode u_M_read.2.1 71 = .ok (.iload_n 3, 1) := by decide +kernel
theorem d_M_read_72 : decode u_M_read.2.1 72 = .ok (.ireturn, 1) := by decide +kernel
theorem d_M_meanOf_0 : decode u_M_meanOf.2.1 0 = .ok (.iconst 0, 1) := by decide +kernel
theorem d_M_meanOf_1 : decode u_M_meanOf.2.1 1 = .ok (.istore_n 3, 1) := by decide +kernel
theorem d_M_meanOf_2 : decode u_M_meanOf.2.1 2 = .ok (.iconst 0, 1) := by decide +kernel
theorem d_M_meanOf_3 : decode u_M_meanOf.2.1 3 = .ok (.istore 4, 2) := by decide +kernel
theorem d_M_meanOf_5 : decode u_M_meanOf.2.1 5 = .ok (.iconst 0, 1) := by decide +kernel
theorem d_M_meanOf_6 : decode u_M_meanOf.2.1 6 = .ok (.istore 5, 2) := by decide +kernel
theorem d_M_meanOf_8 : decode u_M_meanOf.2.1 8 = .ok (.iload 5, 2) := by decide +kernel
theorem d_M_meanOf_10 : decode u_M_meanOf.2.1 10 = .ok (.aload_n 0, 1) := by decide +kernel
theorem d_M_meanOf_11 : decode u_M_meanOf.2.1 11 = .ok (.getfield 98, 3) := by decide +kernel
theorem d_M_meanOf_14 : decode u_M_meanOf.2.1 14 = .ok (.if_icmp .ge 65, 3) := by decide +kernel
theorem d_M_meanOf_17 : decode u_M_meanOf.2.1 17 = .ok (.iload_n 1, 1) := by decide +kernel
theorem d_M_meanOf_18 : decode u_M_meanOf.2.1 18 = .ok (.iload 5, 2) := by decide +kernel
theorem d_M_meanOf_20 : decode u_M_meanOf.2.1 20 = .ok (.ishr, 1) := by decide +kernel
theorem d_M_meanOf_21 : decode u_M_meanOf.2.1 21 = .ok (.iconst 1, 1) := by decide +kernel
theorem d_M_meanOf_22 : decode u_M_meanOf.2.1 22 = .ok (.iand, 1) := by decide +kernel
theorem d_M_meanOf_23 : decode u_M_meanOf.2.1 23 = .ok (.iconst 1, 1) := by decide +kernel
theorem d_M_meanOf_24 : decode u_M_meanOf.2.1 24 = .ok (.if_icmp .ne 7, 3) := by decide +kernel
theorem d_M_meanOf_27 : decode u_M_meanOf.2.1 27 = .ok (.iconst 1, 1) := by decide +kernel
theorem d_M_meanOf_28 : decode u_M_meanOf.2.1 28 = .ok (.goto 4, 3) := by decide +kernel
theorem d_M_meanOf_31 : decode u_M_meanOf.2.1 31 = .ok (.iconst 0, 1) := by decide +kernel
theorem d_M_meanOf_32 : decode u_M_meanOf.2.1 32 = .ok (.istore 6, 2) := by decide +kernel
theorem d_M_meanOf_34 : decode u_M_meanOf.2.1 34 = .ok (.iload_n 3, 1) := by decide +kernel
theorem d_M_meanOf_35 : decode u_M_meanOf.2.1 35 = .ok (.iload 6, 2) := by decide +kernel
theorem d_M_meanOf_37 : decode u_M_meanOf.2.1 37 = .ok (.ifCond .eq 18, 3) := by decide +kernel
theorem d_M_meanOf_40 : decode u_M_meanOf.2.1 40 = .ok (.aload_n 0, 1) := by decide +kernel
theorem d_M_meanOf_41 : decode u_M_meanOf.2.1 41 = .ok (.getfield 22, 3) := by decide +kernel
theorem d_M_meanOf_44 : decode u_M_meanOf.2.1 44 = .ok (.bipush 8, 2) := by decide +kernel
theorem d_M_meanOf_46 : decode u_M_meanOf.2.1 46 = .ok (.iload 5, 2) := by decide +kernel
theorem d_M_meanOf_48 : decode u_M_meanOf.2.1 48 = .ok (.imul, 1) := by decide +kernel
theorem d_M_meanOf_49 : decode u_M_meanOf.2.1 49 = .ok (.iload_n 2, 1) := by decide +kernel
theorem d_M_meanOf_50 : decode u_M_meanOf.2.1 50 = .ok (.iadd, 1) := by decide +kernel
theorem d_M_meanOf_51 : decode u_M_meanOf.2.1 51 = .ok (.iaload, 1) := by decide +kernel
theorem d_M_meanOf_52 : decode u_M_meanOf.2.1 52 = .ok (.goto 4, 3) := by decide +kernel
theorem d_M_meanOf_55 : decode u_M_meanOf.2.1 55 = .ok (.iconst 0, 1) := by decide +kernel
theorem d_M_meanOf_56 : decode u_M_meanOf.2.1 56 = .ok (.iadd, 1) := by decide +kernel
theorem d_M_meanOf_57 : decode u_M_meanOf.2.1 57 = .ok (.istore_n 3, 1) := by decide +kernel
theorem d_M_meanOf_58 : decode u_M_meanOf.2.1 58 = .ok (.iload 4, 2) := by decide +kernel
theorem d_M_meanOf_60 : decode u_M_meanOf.2.1 60 = .ok (.iload 6, 2) := by decide +kernel
theorem d_M_meanOf_62 : decode u_M_meanOf.2.1 62 = .ok (.ifCond .eq 7, 3) := by decide +kernel
theorem d_M_meanOf_65 : decode u_M_meanOf.2.1 65 = .ok (.iconst 1, 1) := by decide +kernel
theorem d_M_meanOf_66 : decode u_M_meanOf.2.1 66 = .ok (.goto 4, 3) := by decide +kernel
theorem d_M_meanOf_69 : decode u_M_meanOf.2.1 69 = .ok (.iconst 0, 1) := by decide +kernel
theorem d_M_meanOf_70 : decode u_M_meanOf.2.1 70 = .ok (.iadd, 1) := by decide +kernel
theorem d_M_meanOf_71 : decode u_M_meanOf.2.1 71 = .ok (.istore 4, 2) := by decide +kernel
theorem d_M_meanOf_73 : decode u_M_meanOf.2.1 73 = .ok (.iinc 5 1, 3) := by decide +kernel
theorem d_M_meanOf_76 : decode u_M_meanOf.2.1 76 = .ok (.goto (-68), 3) := by decide +kernel
theorem d_M_meanOf_79 : decode u_M_meanOf.2.1 79 = .ok (.iload_n 3, 1) := by decide +kernel
theorem d_M_meanOf_80 : decode u_M_meanOf.2.1 80 = .ok (.iload 4, 2) := by decide +kernel
theorem d_M_meanOf_82 : decode u_M_meanOf.2.1 82 = .ok (.idiv, 1) := by decide +kernel
theorem d_M_meanOf_83 : decode u_M_meanOf.2.1 83 = .ok (.ireturn, 1) := by decide +kernel
theorem d_M_mean_0 : decode u_M_mean.2.1 0 = .ok (.aload_n 0, 1) := by decide +kernel
theorem d_M_mean_1 : decode u_M_mean.2.1 1 = .ok (.iload_n 1, 1) := by decide +kernel
theorem d_M_mean_2 : decode u_M_mean.2.1 2 = .ok (.invokevirtual 114, 3) := by decide +kernel
theorem d_M_mean_5 : decode u_M_mean.2.1 5 = .ok (.ifCond .eq 19, 3) := by decide +kernel
theorem d_M_mean_8 : decode u_M_mean.2.1 8 = .ok (.iload_n 2, 1) := by decide +kernel
theorem d_M_mean_9 : decode u_M_mean.2.1 9 = .ok (.invokestatic 106, 3) := by decide +kernel
theorem d_M_mean_12 : decode u_M_mean.2.1 12 = .ok (.ifCond .eq 12, 3) := by decide +kernel
theorem d_M_mean_15 : decode u_M_mean.2.1 15 = .ok (.aload_n 0, 1) := by decide +kernel
theorem d_M_mean_16 : decode u_M_mean.2.1 16 = .ok (.iload_n 1, 1) := by decide +kernel
theorem d_M_mean_17 : decode u_M_mean.2.1 17 = .ok (.iload_n 2, 1) := by decide +kernel
theorem d_M_mean_18 : decode u_M_mean.2.1 18 = .ok (.invokevirtual 117, 3) := by decide +kernel
theorem d_M_mean_21 : decode u_M_mean.2.1 21 = .ok (.goto 5, 3) := by decide +kernel
theorem d_M_mean_24 : decode u_M_mean.2.1 24 = .ok (.bipush (-2), 2) := by decide +kernel
theorem d_M_mean_26 : decode u_M_mean.2.1 26 = .ok (.ireturn, 1) := by decide +kernel
theorem d_M_type_0 : decode u_M_type.2.1 0 = .ok (.iload_n 1, 1) := by decide +kernel
theorem d_M_type_1 : decode u_M_type.2.1 1 = .ok (.invokestatic 120, 3) := by decide +kernel
theorem d_M_type_4 : decode u_M_type.2.1 4 = .ok (.ifCond .eq 15, 3) := by decide +kernel
theorem d_M_type_7 : decode u_M_type.2.1 7 = .ok (.iload_n 2, 1) := by decide +kernel
theorem d_M_type_8 : decode u_M_type.2.1 8 = .ok (.i2l, 1) := by decide +kernel
theorem d_M_type_9 : decode u_M_type.2.1 9 = .ok (.lconst 0, 1) := by decide +kernel
theorem d_M_type_10 : decode u_M_type.2.1 10 = .ok (.ldc2_w 123, 3) := by decide +kernel
theorem d_M_type_13 : decode u_M_type.2.1 13 = .ok (.invokestatic 69, 3) := by decide +kernel
theorem d_M_type_16 : decode u_M_type.2.1 16 = .ok (.ifCond .ne 6, 3) := by decide +kernel
theorem d_M_type_19 : decode u_M_type.2.1 19 = .ok (.bipush (-2), 2) := by decide +kernel
theorem d_M_type_21 : decode u_M_type.2.1 21 = .ok (.ireturn, 1) := by decide +kernel
theorem d_M_type_22 : decode u_M_type.2.1 22 = .ok (.aload_n 0, 1) := by decide +kernel
theorem d_M_type_23 : decode u_M_type.2.1 23 = .ok (.getfield 28, 3) := by decide +kernel
theorem d_M_type_26 : decode u_M_type.2.1 26 = .ok (.iload_n 1, 1) := by decide +kernel
theorem d_M_type_27 : decode u_M_type.2.1 27 = .ok (.iaload, 1) := by decide +kernel
theorem d_M_type_28 : decode u_M_type.2.1 28 = .ok (.bipush 40, 2) := by decide +kernel
theorem d_M_type_30 : decode u_M_type.2.1 30 = .ok (.if_icmp .ne 6, 3) := by decide +kernel
theorem d_M_type_33 : decode u_M_type.2.1 33 = .ok (.bipush (-4), 2) := by decide +kernel
theorem d_M_type_35 : decode u_M_type.2.1 35 = .ok (.ireturn, 1) := by decide +kernel
theorem d_M_type_36 : decode u_M_type.2.1 36 = .ok (.aload_n 0, 1) := by decide +kernel
theorem d_M_type_37 : decode u_M_type.2.1 37 = .ok (.getfield 25, 3) := by decide +kernel
theorem d_M_type_40 : decode u_M_type.2.1 40 = .ok (.bipush 40, 2) := by decide +kernel
theorem d_M_type_42 : decode u_M_type.2.1 42 = .ok (.iload_n 1, 1) := by decide +kernel
theorem d_M_type_43 : decode u_M_type.2.1 43 = .ok (.imul, 1) := by decide +kernel
theorem d_M_type_44 : decode u_M_type.2.1 44 = .ok (.aload_n 0, 1) := by decide +kernel
theorem d_M_type_45 : decode u_M_type.2.1 45 = .ok (.getfield 28, 3) := by decide +kernel
theorem d_M_type_48 : decode u_M_type.2.1 48 = .ok (.iload_n 1, 1) := by decide +kernel
theorem d_M_type_49 : decode u_M_type.2.1 49 = .ok (.iaload, 1) := by decide +kernel
theorem d_M_type_50 : decode u_M_type.2.1 50 = .ok (.iadd, 1) := by decide +kernel
theorem d_M_type_51 : decode u_M_type.2.1 51 = .ok (.iload_n 2, 1) := by decide +kernel
theorem d_M_type_52 : decode u_M_type.2.1 52 = .ok (.iastore, 1) := by decide +kernel
theorem d_M_type_53 : decode u_M_type.2.1 53 = .ok (.aload_n 0, 1) := by decide +kernel
theorem d_M_type_54 : decode u_M_type.2.1 54 = .ok (.getfield 28, 3) := by decide +kernel
theorem d_M_type_57 : decode u_M_type.2.1 57 = .ok (.iload_n 1, 1) := by decide +kernel
theorem d_M_type_58 : decode u_M_type.2.1 58 = .ok (.dup2, 1) := by decide +kernel
theorem d_M_type_59 : decode u_M_type.2.1 59 = .ok (.iaload, 1) := by decide +kernel
theorem d_M_type_60 : decode u_M_type.2.1 60 = .ok (.iconst 1, 1) := by decide +kernel
theorem d_M_type_61 : decode u_M_type.2.1 61 = .ok (.iadd, 1) := by decide +kernel
theorem d_M_type_62 : decode u_M_type.2.1 62 = .ok (.iastore, 1) := by decide +kernel
theorem d_M_type_63 : decode u_M_type.2.1 63 = .ok (.aload_n 0, 1) := by decide +kernel
theorem d_M_type_64 : decode u_M_type.2.1 64 = .ok (.getfield 28, 3) := by decide +kernel
theorem d_M_type_67 : decode u_M_type.2.1 67 = .ok (.iload_n 1, 1) := by decide +kernel
theorem d_M_type_68 : decode u_M_type.2.1 68 = .ok (.iaload, 1) := by decide +kernel
theorem d_M_type_69 : decode u_M_type.2.1 69 = .ok (.ireturn, 1) := by decide +kernel
theorem d_M_wipe_0 : decode u_M_wipe.2.1 0 = .ok (.iload_n 1, 1) := by decide +kernel
theorem d_M_wipe_1 : decode u_M_wipe.2.1 1 = .ok (.invokestatic 120, 3) := by decide +kernel
theorem d_M_wipe_4 : decode u_M_wipe.2.1 4 = .ok (.ifCond .ne 6, 3) := by decide +kernel
theorem d_M_wipe_7 : decode u_M_wipe.2.1 7 = .ok (.bipush (-2), 2) := by decide +kernel
theorem d_M_wipe_9 : decode u_M_wipe.2.1 9 = .ok (.ireturn, 1) := by decide +kernel
theorem d_M_wipe_10 : decode u_M_wipe.2.1 10 = .ok (.aload_n 0, 1) := by decide +kernel
theorem d_M_wipe_11 : decode u_M_wipe.2.1 11 = .ok (.getfield 28, 3) := by decide +kernel
theorem d_M_wipe_14 : decode u_M_wipe.2.1 14 = .ok (.iload_n 1, 1) := by decide +kernel
theorem d_M_wipe_15 : decode u_M_wipe.2.1 15 = .ok (.iaload, 1) := by decide +kernel
theorem d_M_wipe_16 : decode u_M_wipe.2.1 16 = .ok (.istore_n 2, 1) := by decide +kernel
theorem d_M_wipe_17 : decode u_M_wipe.2.1 17 = .ok (.aload_n 0, 1) := by decide +kernel
theorem d_M_wipe_18 : decode u_M_wipe.2.1 18 = .ok (.getfield 28, 3) := by decide +kernel
theorem d_M_wipe_21 : decode u_M_wipe.2.1 21 = .ok (.iload_n 1, 1) := by decide +kernel
theorem d_M_wipe_22 : decode u_M_wipe.2.1 22 = .ok (.iconst 0, 1) := by decide +kernel
theorem d_M_wipe_23 : decode u_M_wipe.2.1 23 = .ok (.iastore, 1) := by decide +kernel
theorem d_M_wipe_24 : decode u_M_wipe.2.1 24 = .ok (.iload_n 2, 1) := by decide +kernel
theorem d_M_wipe_25 : decode u_M_wipe.2.1 25 = .ok (.ireturn, 1) := by decide +kernel
theorem d_M_here_0 : decode u_M_here.2.1 0 = .ok (.aload_n 0, 1) := by decide +kernel
theorem d_M_here_1 : decode u_M_here.2.1 1 = .ok (.getfield 125, 3) := by decide +kernel
theorem d_M_here_4 : decode u_M_here.2.1 4 = .ok (.aload_n 0, 1) := by decide +kernel
theorem d_M_here_5 : decode u_M_here.2.1 5 = .ok (.getfield 28, 3) := by decide +kernel
theorem d_M_here_8 : decode u_M_here.2.1 8 = .ok (.iload_n 1, 1) := by decide +kernel
theorem d_M_here_9 : decode u_M_here.2.1 9 = .ok (.iaload, 1) := by decide +kernel
theorem d_M_here_10 : decode u_M_here.2.1 10 = .ok (.if_icmp .ge 20, 3) := by decide +kernel
theorem d_M_here_13 : decode u_M_here.2.1 13 = .ok (.aload_n 0, 1) := by decide +kernel
theorem d_M_here_14 : decode u_M_here.2.1 14 = .ok (.getfield 25, 3) := by decide +kernel
theorem d_M_here_17 : decode u_M_here.2.1 17 = .ok (.bipush 40, 2) := by decide +kernel
theorem d_M_here_19 : decode u_M_here.2.1 19 = .ok (.iload_n 1, 1) := by decide +kernel
theorem d_M_here_20 : decode u_M_here.2.1 20 = .ok (.imul, 1) := by decide +kernel
theorem d_M_here_21 : decode u_M_here.2.1 21 = .ok (.aload_n 0, 1) := by decide +kernel
theorem d_M_here_22 : decode u_M_here.2.1 22 = .ok (.getfield 125, 3) := by decide +kernel
theorem d_M_here_25 : decode u_M_here.2.1 25 = .ok (.iadd, 1) := by decide +kernel
theorem d_M_here_26 : decode u_M_here.2.1 26 = .ok (.iaload, 1) := by decide +kernel
theorem d_M_here_27 : decode u_M_here.2.1 27 = .ok (.goto 4, 3) := by decide +kernel
theorem d_M_here_30 : decode u_M_here.2.1 30 = .ok (.iconst (-1), 1) := by decide +kernel
theorem d_M_here_31 : decode u_M_here.2.1 31 = .ok (.ireturn, 1) := by decide +kernel
theorem d_M_number_0 : decode u_M_number.2.1 0 = .ok (.aload_n 0, 1) := by decide +kernel
theorem d_M_number_1 : decode u_M_number.2.1 1 = .ok (.getfield 125, 3) := by decide +kernel
theorem d_M_number_4 : decode u_M_number.2.1 4 = .ok (.istore_n 2, 1) := by decide +kernel
theorem d_M_number_5 : decode u_M_number.2.1 5 = .ok (.iconst 0, 1) := by decide +kernel
theorem d_M_number_6 : decode u_M_number.2.1 6 = .ok (.istore_n 3, 1) := by decide +kernel
theorem d_M_number_7 : decode u_M_number.2.1 7 = .ok (.aload_n 0, 1) := by decide +kernel
theorem d_M_number_8 : decode u_M_number.2.1 8 = .ok (.getfield 125, 3) := by decide +kernel
theorem d_M_number_11 : decode u_M_number.2.1 11 = .ok (.iload_n 2, 1) := by decide +kernel
theorem d_M_number_12 : decode u_M_number.2.1 12 = .ok (.iconst 2, 1) := by decide +kernel
theorem d_M_number_13 : decode u_M_number.2.1 13 = .ok (.iadd, 1) := by decide +kernel
theorem d_M_number_14 : decode u_M_number.2.1 14 = .ok (.if_icmp .ge 48, 3) := by decide +kernel
theorem d_M_number_17 : decode u_M_number.2.1 17 = .ok (.aload_n 0, 1) := by decide +kernel
theorem d_M_number_18 : decode u_M_number.2.1 18 = .ok (.iload_n 1, 1) := by decide +kernel
theorem d_M_number_19 : decode u_M_number.2.1 19 = .ok (.invokevirtual 128, 3) := by decide +kernel
theorem d_M_number_22 : decode u_M_number.2.1 22 = .ok (.i2l, 1) := by decide +kernel
theorem d_M_number_23 : decode u_M_number.2.1 23 = .ok (.ldc2_w 131, 3) := by decide +kernel
theorem d_M_number_26 : decode u_M_number.2.1 26 = .ok (.ldc2_w 133, 3) := by decide +kernel
theorem d_M_number_29 : decode u_M_number.2.1 29 = .ok (.invokestatic 69, 3) := by decide +kernel
theorem d_M_number_32 : decode u_M_number.2.1 32 = .ok (.ifCond .eq 30, 3) := by decide +kernel
theorem d_M_number_35 : decode u_M_number.2.1 35 = .ok (.bipush 10, 2) := by decide +kernel
theorem d_M_number_37 : decode u_M_number.2.1 37 = .ok (.iload_n 3, 1) := by decide +kernel
theorem d_M_number_38 : decode u_M_number.2.1 38 = .ok (.imul, 1) := by decide +kernel
theorem d_M_number_39 : decode u_M_number.2.1 39 = .ok (.aload_n 0, 1) := by decide +kernel
theorem d_M_number_40 : decode u_M_number.2.1 40 = .ok (.iload_n 1, 1) := by decide +kernel
theorem d_M_number_41 : decode u_M_number.2.1 41 = .ok (.invokevirtual 128, 3) := by decide +kernel
theorem d_M_number_44 : decode u_M_number.2.1 44 = .ok (.iadd, 1) := by decide +kernel
theorem d_M_number_45 : decode u_M_number.2.1 45 = .ok (.bipush 48, 2) := by decide +kernel
theorem d_M_number_47 : decode u_M_number.2.1 47 = .ok (.isub, 1) := by decide +kernel
theorem d_M_number_48 : decode u_M_number.2.1 48 = .ok (.istore_n 3, 1) := by decide +kernel
