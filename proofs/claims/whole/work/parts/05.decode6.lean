theorem d_M_backOf_65 : decode u_M_backOf.2.1 65 = .ok (.iload 6, 2) := by decide +kernel
theorem d_M_backOf_67 : decode u_M_backOf.2.1 67 = .ok (.iaload, 1) := by decide +kernel
theorem d_M_backOf_68 : decode u_M_backOf.2.1 68 = .ok (.iconst 4, 1) := by decide +kernel
theorem d_M_backOf_69 : decode u_M_backOf.2.1 69 = .ok (.if_icmp .eq 46, 3) := by decide +kernel
theorem d_M_backOf_72 : decode u_M_backOf.2.1 72 = .ok (.iload 7, 2) := by decide +kernel
theorem d_M_backOf_74 : decode u_M_backOf.2.1 74 = .ok (.sipush (-9999), 3) := by decide +kernel
theorem d_M_backOf_77 : decode u_M_backOf.2.1 77 = .ok (.if_icmp .eq 38, 3) := by decide +kernel
theorem d_M_backOf_80 : decode u_M_backOf.2.1 80 = .ok (.aload_n 0, 1) := by decide +kernel
theorem d_M_backOf_81 : decode u_M_backOf.2.1 81 = .ok (.getfield 52, 3) := by decide +kernel
theorem d_M_backOf_84 : decode u_M_backOf.2.1 84 = .ok (.bipush 8, 2) := by decide +kernel
theorem d_M_backOf_86 : decode u_M_backOf.2.1 86 = .ok (.iload 6, 2) := by decide +kernel
theorem d_M_backOf_88 : decode u_M_backOf.2.1 88 = .ok (.imul, 1) := by decide +kernel
theorem d_M_backOf_89 : decode u_M_backOf.2.1 89 = .ok (.iload_n 2, 1) := by decide +kernel
theorem d_M_backOf_90 : decode u_M_backOf.2.1 90 = .ok (.iadd, 1) := by decide +kernel
theorem d_M_backOf_91 : decode u_M_backOf.2.1 91 = .ok (.iaload, 1) := by decide +kernel
theorem d_M_backOf_92 : decode u_M_backOf.2.1 92 = .ok (.istore 8, 2) := by decide +kernel
theorem d_M_backOf_94 : decode u_M_backOf.2.1 94 = .ok (.iload 5, 2) := by decide +kernel
theorem d_M_backOf_96 : decode u_M_backOf.2.1 96 = .ok (.iload 8, 2) := by decide +kernel
theorem d_M_backOf_98 : decode u_M_backOf.2.1 98 = .ok (.iload 7, 2) := by decide +kernel
theorem d_M_backOf_100 : decode u_M_backOf.2.1 100 = .ok (.iload 8, 2) := by decide +kernel
theorem d_M_backOf_102 : decode u_M_backOf.2.1 102 = .ok (.isub, 1) := by decide +kernel
theorem d_M_backOf_103 : decode u_M_backOf.2.1 103 = .ok (.bipush 10, 2) := by decide +kernel
theorem d_M_backOf_105 : decode u_M_backOf.2.1 105 = .ok (.imul, 1) := by decide +kernel
theorem d_M_backOf_106 : decode u_M_backOf.2.1 106 = .ok (.iload_n 3, 1) := by decide +kernel
theorem d_M_backOf_107 : decode u_M_backOf.2.1 107 = .ok (.idiv, 1) := by decide +kernel
theorem d_M_backOf_108 : decode u_M_backOf.2.1 108 = .ok (.iadd, 1) := by decide +kernel
theorem d_M_backOf_109 : decode u_M_backOf.2.1 109 = .ok (.iadd, 1) := by decide +kernel
theorem d_M_backOf_110 : decode u_M_backOf.2.1 110 = .ok (.istore 5, 2) := by decide +kernel
theorem d_M_backOf_112 : decode u_M_backOf.2.1 112 = .ok (.iinc 4 1, 3) := by decide +kernel
theorem d_M_backOf_115 : decode u_M_backOf.2.1 115 = .ok (.iinc 6 1, 3) := by decide +kernel
theorem d_M_backOf_118 : decode u_M_backOf.2.1 118 = .ok (.goto (-102), 3) := by decide +kernel
theorem d_M_backOf_121 : decode u_M_backOf.2.1 121 = .ok (.iload 4, 2) := by decide +kernel
theorem d_M_backOf_123 : decode u_M_backOf.2.1 123 = .ok (.ifCond .ne 9, 3) := by decide +kernel
theorem d_M_backOf_126 : decode u_M_backOf.2.1 126 = .ok (.sipush (-9999), 3) := by decide +kernel
theorem d_M_backOf_129 : decode u_M_backOf.2.1 129 = .ok (.goto 8, 3) := by decide +kernel
theorem d_M_backOf_132 : decode u_M_backOf.2.1 132 = .ok (.iload 5, 2) := by decide +kernel
theorem d_M_backOf_134 : decode u_M_backOf.2.1 134 = .ok (.iload 4, 2) := by decide +kernel
theorem d_M_backOf_136 : decode u_M_backOf.2.1 136 = .ok (.idiv, 1) := by decide +kernel
theorem d_M_backOf_137 : decode u_M_backOf.2.1 137 = .ok (.ireturn, 1) := by decide +kernel
theorem d_M_back_0 : decode u_M_back.2.1 0 = .ok (.aload_n 0, 1) := by decide +kernel
theorem d_M_back_1 : decode u_M_back.2.1 1 = .ok (.iload_n 1, 1) := by decide +kernel
theorem d_M_back_2 : decode u_M_back.2.1 2 = .ok (.invokevirtual 103, 3) := by decide +kernel
theorem d_M_back_5 : decode u_M_back.2.1 5 = .ok (.ifCond .eq 17, 3) := by decide +kernel
theorem d_M_back_8 : decode u_M_back.2.1 8 = .ok (.iload_n 2, 1) := by decide +kernel
theorem d_M_back_9 : decode u_M_back.2.1 9 = .ok (.invokestatic 120, 3) := by decide +kernel
theorem d_M_back_12 : decode u_M_back.2.1 12 = .ok (.ifCond .eq 10, 3) := by decide +kernel
theorem d_M_back_15 : decode u_M_back.2.1 15 = .ok (.iload_n 3, 1) := by decide +kernel
theorem d_M_back_16 : decode u_M_back.2.1 16 = .ok (.invokestatic 106, 3) := by decide +kernel
theorem d_M_back_19 : decode u_M_back.2.1 19 = .ok (.ifCond .ne 9, 3) := by decide +kernel
theorem d_M_back_22 : decode u_M_back.2.1 22 = .ok (.bipush (-2), 2) := by decide +kernel
theorem d_M_back_24 : decode u_M_back.2.1 24 = .ok (.invokestatic 149, 3) := by decide +kernel
theorem d_M_back_27 : decode u_M_back.2.1 27 = .ok (.ireturn, 1) := by decide +kernel
theorem d_M_back_28 : decode u_M_back.2.1 28 = .ok (.aload_n 0, 1) := by decide +kernel
theorem d_M_back_29 : decode u_M_back.2.1 29 = .ok (.iload_n 2, 1) := by decide +kernel
theorem d_M_back_30 : decode u_M_back.2.1 30 = .ok (.invokevirtual 146, 3) := by decide +kernel
theorem d_M_back_33 : decode u_M_back.2.1 33 = .ok (.pop, 1) := by decide +kernel
theorem d_M_back_34 : decode u_M_back.2.1 34 = .ok (.aload_n 0, 1) := by decide +kernel
theorem d_M_back_35 : decode u_M_back.2.1 35 = .ok (.iload_n 1, 1) := by decide +kernel
theorem d_M_back_36 : decode u_M_back.2.1 36 = .ok (.iload_n 3, 1) := by decide +kernel
theorem d_M_back_37 : decode u_M_back.2.1 37 = .ok (.invokevirtual 261, 3) := by decide +kernel
theorem d_M_back_40 : decode u_M_back.2.1 40 = .ok (.ireturn, 1) := by decide +kernel
theorem d_M_nearOf_0 : decode u_M_nearOf.2.1 0 = .ok (.aload_n 0, 1) := by decide +kernel
theorem d_M_nearOf_1 : decode u_M_nearOf.2.1 1 = .ok (.iload_n 2, 1) := by decide +kernel
theorem d_M_nearOf_2 : decode u_M_nearOf.2.1 2 = .ok (.invokevirtual 146, 3) := by decide +kernel
theorem d_M_nearOf_5 : decode u_M_nearOf.2.1 5 = .ok (.pop, 1) := by decide +kernel
theorem d_M_nearOf_6 : decode u_M_nearOf.2.1 6 = .ok (.iconst 0, 1) := by decide +kernel
theorem d_M_nearOf_7 : decode u_M_nearOf.2.1 7 = .ok (.istore_n 3, 1) := by decide +kernel
theorem d_M_nearOf_8 : decode u_M_nearOf.2.1 8 = .ok (.iconst 0, 1) := by decide +kernel
theorem d_M_nearOf_9 : decode u_M_nearOf.2.1 9 = .ok (.istore 4, 2) := by decide +kernel
theorem d_M_nearOf_11 : decode u_M_nearOf.2.1 11 = .ok (.iload 4, 2) := by decide +kernel
theorem d_M_nearOf_13 : decode u_M_nearOf.2.1 13 = .ok (.bipush 8, 2) := by decide +kernel
theorem d_M_nearOf_15 : decode u_M_nearOf.2.1 15 = .ok (.if_icmp .ge 51, 3) := by decide +kernel
theorem d_M_nearOf_18 : decode u_M_nearOf.2.1 18 = .ok (.aload_n 0, 1) := by decide +kernel
theorem d_M_nearOf_19 : decode u_M_nearOf.2.1 19 = .ok (.iload_n 1, 1) := by decide +kernel
theorem d_M_nearOf_20 : decode u_M_nearOf.2.1 20 = .ok (.iload 4, 2) := by decide +kernel
theorem d_M_nearOf_22 : decode u_M_nearOf.2.1 22 = .ok (.invokevirtual 261, 3) := by decide +kernel
theorem d_M_nearOf_25 : decode u_M_nearOf.2.1 25 = .ok (.istore 5, 2) := by decide +kernel
theorem d_M_nearOf_27 : decode u_M_nearOf.2.1 27 = .ok (.iload_n 3, 1) := by decide +kernel
theorem d_M_nearOf_28 : decode u_M_nearOf.2.1 28 = .ok (.iload 5, 2) := by decide +kernel
theorem d_M_nearOf_30 : decode u_M_nearOf.2.1 30 = .ok (.sipush (-9999), 3) := by decide +kernel
theorem d_M_nearOf_33 : decode u_M_nearOf.2.1 33 = .ok (.if_icmp .ne 7, 3) := by decide +kernel
theorem d_M_nearOf_36 : decode u_M_nearOf.2.1 36 = .ok (.iconst 0, 1) := by decide +kernel
theorem d_M_nearOf_37 : decode u_M_nearOf.2.1 37 = .ok (.goto 21, 3) := by decide +kernel
theorem d_M_nearOf_40 : decode u_M_nearOf.2.1 40 = .ok (.iload 5, 2) := by decide +kernel
theorem d_M_nearOf_42 : decode u_M_nearOf.2.1 42 = .ok (.aload_n 0, 1) := by decide +kernel
theorem d_M_nearOf_43 : decode u_M_nearOf.2.1 43 = .ok (.getfield 22, 3) := by decide +kernel
theorem d_M_nearOf_46 : decode u_M_nearOf.2.1 46 = .ok (.bipush 8, 2) := by decide +kernel
theorem d_M_nearOf_48 : decode u_M_nearOf.2.1 48 = .ok (.iload_n 1, 1) := by decide +kernel
theorem d_M_nearOf_49 : decode u_M_nearOf.2.1 49 = .ok (.imul, 1) := by decide +kernel
theorem d_M_nearOf_50 : decode u_M_nearOf.2.1 50 = .ok (.iload 4, 2) := by decide +kernel
theorem d_M_nearOf_52 : decode u_M_nearOf.2.1 52 = .ok (.iadd, 1) := by decide +kernel
theorem d_M_nearOf_53 : decode u_M_nearOf.2.1 53 = .ok (.iaload, 1) := by decide +kernel
theorem d_M_nearOf_54 : decode u_M_nearOf.2.1 54 = .ok (.isub, 1) := by decide +kernel
theorem d_M_nearOf_55 : decode u_M_nearOf.2.1 55 = .ok (.invokestatic 166, 3) := by decide +kernel
theorem d_M_nearOf_58 : decode u_M_nearOf.2.1 58 = .ok (.iadd, 1) := by decide +kernel
theorem d_M_nearOf_59 : decode u_M_nearOf.2.1 59 = .ok (.istore_n 3, 1) := by decide +kernel
theorem d_M_nearOf_60 : decode u_M_nearOf.2.1 60 = .ok (.iinc 4 1, 3) := by decide +kernel
theorem d_M_nearOf_63 : decode u_M_nearOf.2.1 63 = .ok (.goto (-52), 3) := by decide +kernel
theorem d_M_nearOf_66 : decode u_M_nearOf.2.1 66 = .ok (.iload_n 3, 1) := by decide +kernel
theorem d_M_nearOf_67 : decode u_M_nearOf.2.1 67 = .ok (.ireturn, 1) := by decide +kernel
theorem d_M_near_0 : decode u_M_near.2.1 0 = .ok (.aload_n 0, 1) := by decide +kernel
theorem d_M_near_1 : decode u_M_near.2.1 1 = .ok (.iload_n 1, 1) := by decide +kernel
theorem d_M_near_2 : decode u_M_near.2.1 2 = .ok (.invokevirtual 103, 3) := by decide +kernel
theorem d_M_near_5 : decode u_M_near.2.1 5 = .ok (.ifCond .eq 19, 3) := by decide +kernel
theorem d_M_near_8 : decode u_M_near.2.1 8 = .ok (.iload_n 2, 1) := by decide +kernel
theorem d_M_near_9 : decode u_M_near.2.1 9 = .ok (.invokestatic 120, 3) := by decide +kernel
theorem d_M_near_12 : decode u_M_near.2.1 12 = .ok (.ifCond .eq 12, 3) := by decide +kernel
theorem d_M_near_15 : decode u_M_near.2.1 15 = .ok (.aload_n 0, 1) := by decide +kernel
theorem d_M_near_16 : decode u_M_near.2.1 16 = .ok (.iload_n 1, 1) := by decide +kernel
theorem d_M_near_17 : decode u_M_near.2.1 17 = .ok (.iload_n 2, 1) := by decide +kernel
theorem d_M_near_18 : decode u_M_near.2.1 18 = .ok (.invokevirtual 264, 3) := by decide +kernel
theorem d_M_near_21 : decode u_M_near.2.1 21 = .ok (.goto 5, 3) := by decide +kernel
theorem d_M_near_24 : decode u_M_near.2.1 24 = .ok (.bipush (-2), 2) := by decide +kernel
theorem d_M_near_26 : decode u_M_near.2.1 26 = .ok (.ireturn, 1) := by decide +kernel
theorem d_M_witnessOf_0 : decode u_M_witnessOf.2.1 0 = .ok (.iconst 0, 1) := by decide +kernel
theorem d_M_witnessOf_1 : decode u_M_witnessOf.2.1 1 = .ok (.istore 4, 2) := by decide +kernel
theorem d_M_witnessOf_3 : decode u_M_witnessOf.2.1 3 = .ok (.iload 4, 2) := by decide +kernel
theorem d_M_witnessOf_5 : decode u_M_witnessOf.2.1 5 = .ok (.bipush 8, 2) := by decide +kernel
theorem d_M_witnessOf_7 : decode u_M_witnessOf.2.1 7 = .ok (.if_icmp .ge 39, 3) := by decide +kernel
theorem d_M_witnessOf_10 : decode u_M_witnessOf.2.1 10 = .ok (.aload_n 0, 1) := by decide +kernel
theorem d_M_witnessOf_11 : decode u_M_witnessOf.2.1 11 = .ok (.getfield 64, 3) := by decide +kernel
theorem d_M_witnessOf_14 : decode u_M_witnessOf.2.1 14 = .ok (.iload 4, 2) := by decide +kernel
theorem d_M_witnessOf_16 : decode u_M_witnessOf.2.1 16 = .ok (.aload_n 0, 1) := by decide +kernel
theorem d_M_witnessOf_17 : decode u_M_witnessOf.2.1 17 = .ok (.getfield 22, 3) := by decide +kernel
theorem d_M_witnessOf_20 : decode u_M_witnessOf.2.1 20 = .ok (.bipush 8, 2) := by decide +kernel
theorem d_M_witnessOf_22 : decode u_M_witnessOf.2.1 22 = .ok (.iload_n 1, 1) := by decide +kernel
theorem d_M_witnessOf_23 : decode u_M_witnessOf.2.1 23 = .ok (.imul, 1) := by decide +kernel
theorem d_M_witnessOf_24 : decode u_M_witnessOf.2.1 24 = .ok (.iload 4, 2) := by decide +kernel
theorem d_M_witnessOf_26 : decode u_M_witnessOf.2.1 26 = .ok (.iadd, 1) := by decide +kernel
theorem d_M_witnessOf_27 : decode u_M_witnessOf.2.1 27 = .ok (.iaload, 1) := by decide +kernel
theorem d_M_witnessOf_28 : decode u_M_witnessOf.2.1 28 = .ok (.aload_n 0, 1) := by decide +kernel
theorem d_M_witnessOf_29 : decode u_M_witnessOf.2.1 29 = .ok (.iload_n 2, 1) := by decide +kernel
theorem d_M_witnessOf_30 : decode u_M_witnessOf.2.1 30 = .ok (.iload 4, 2) := by decide +kernel
theorem d_M_witnessOf_32 : decode u_M_witnessOf.2.1 32 = .ok (.invokevirtual 117, 3) := by decide +kernel
theorem d_M_witnessOf_35 : decode u_M_witnessOf.2.1 35 = .ok (.isub, 1) := by decide +kernel
theorem d_M_witnessOf_36 : decode u_M_witnessOf.2.1 36 = .ok (.invokestatic 166, 3) := by decide +kernel
theorem d_M_witnessOf_39 : decode u_M_witnessOf.2.1 39 = .ok (.iastore, 1) := by decide +kernel
theorem d_M_witnessOf_40 : decode u_M_witnessOf.2.1 40 = .ok (.iinc 4 1, 3) := by decide +kernel
theorem d_M_witnessOf_43 : decode u_M_witnessOf.2.1 43 = .ok (.goto (-40), 3) := by decide +kernel
theorem d_M_witnessOf_46 : decode u_M_witnessOf.2.1 46 = .ok (.iconst 0, 1) := by decide +kernel
theorem d_M_witnessOf_47 : decode u_M_witnessOf.2.1 47 = .ok (.istore 4, 2) := by decide +kernel
theorem d_M_witnessOf_49 : decode u_M_witnessOf.2.1 49 = .ok (.iconst 0, 1) := by decide +kernel
theorem d_M_witnessOf_50 : decode u_M_witnessOf.2.1 50 = .ok (.istore 5, 2) := by decide +kernel
theorem d_M_witnessOf_52 : decode u_M_witnessOf.2.1 52 = .ok (.iconst 1, 1) := by decide +kernel
theorem d_M_witnessOf_53 : decode u_M_witnessOf.2.1 53 = .ok (.istore 6, 2) := by decide +kernel
theorem d_M_witnessOf_55 : decode u_M_witnessOf.2.1 55 = .ok (.iload 6, 2) := by decide +kernel
theorem d_M_witnessOf_57 : decode u_M_witnessOf.2.1 57 = .ok (.bipush 8, 2) := by decide +kernel
theorem d_M_witnessOf_59 : decode u_M_witnessOf.2.1 59 = .ok (.if_icmp .ge 35, 3) := by decide +kernel
theorem d_M_witnessOf_62 : decode u_M_witnessOf.2.1 62 = .ok (.aload_n 0, 1) := by decide +kernel
theorem d_M_witnessOf_63 : decode u_M_witnessOf.2.1 63 = .ok (.getfield 64, 3) := by decide +kernel
theorem d_M_witnessOf_66 : decode u_M_witnessOf.2.1 66 = .ok (.iload 6, 2) := by decide +kernel
theorem d_M_witnessOf_68 : decode u_M_witnessOf.2.1 68 = .ok (.iaload, 1) := by decide +kernel
theorem d_M_witnessOf_69 : decode u_M_witnessOf.2.1 69 = .ok (.aload_n 0, 1) := by decide +kernel
theorem d_M_witnessOf_70 : decode u_M_witnessOf.2.1 70 = .ok (.getfield 64, 3) := by decide +kernel
theorem d_M_witnessOf_73 : decode u_M_witnessOf.2.1 73 = .ok (.iload 5, 2) := by decide +kernel
theorem d_M_witnessOf_75 : decode u_M_witnessOf.2.1 75 = .ok (.iaload, 1) := by decide +kernel
theorem d_M_witnessOf_76 : decode u_M_witnessOf.2.1 76 = .ok (.if_icmp .le 8, 3) := by decide +kernel
theorem d_M_witnessOf_79 : decode u_M_witnessOf.2.1 79 = .ok (.iload 6, 2) := by decide +kernel
theorem d_M_witnessOf_81 : decode u_M_witnessOf.2.1 81 = .ok (.goto 5, 3) := by decide +kernel
theorem d_M_witnessOf_84 : decode u_M_witnessOf.2.1 84 = .ok (.iload 5, 2) := by decide +kernel
theorem d_M_witnessOf_86 : decode u_M_witnessOf.2.1 86 = .ok (.istore 5, 2) := by decide +kernel
theorem d_M_witnessOf_88 : decode u_M_witnessOf.2.1 88 = .ok (.iinc 6 1, 3) := by decide +kernel
theorem d_M_witnessOf_91 : decode u_M_witnessOf.2.1 91 = .ok (.goto (-36), 3) := by decide +kernel
theorem d_M_witnessOf_94 : decode u_M_witnessOf.2.1 94 = .ok (.aload_n 0, 1) := by decide +kernel
theorem d_M_witnessOf_95 : decode u_M_witnessOf.2.1 95 = .ok (.getfield 64, 3) := by decide +kernel
theorem d_M_witnessOf_98 : decode u_M_witnessOf.2.1 98 = .ok (.iload 5, 2) := by decide +kernel
theorem d_M_witnessOf_100 : decode u_M_witnessOf.2.1 100 = .ok (.iaload, 1) := by decide +kernel
theorem d_M_witnessOf_101 : decode u_M_witnessOf.2.1 101 = .ok (.iload_n 3, 1) := by decide +kernel
theorem d_M_witnessOf_102 : decode u_M_witnessOf.2.1 102 = .ok (.if_icmp .gt 6, 3) := by decide +kernel
theorem d_M_witnessOf_105 : decode u_M_witnessOf.2.1 105 = .ok (.iload 4, 2) := by decide +kernel
theorem d_M_witnessOf_107 : decode u_M_witnessOf.2.1 107 = .ok (.ireturn, 1) := by decide +kernel
theorem d_M_witnessOf_108 : decode u_M_witnessOf.2.1 108 = .ok (.aload_n 0, 1) := by decide +kernel
theorem d_M_witnessOf_109 : decode u_M_witnessOf.2.1 109 = .ok (.getfield 64, 3) := by decide +kernel
theorem d_M_witnessOf_112 : decode u_M_witnessOf.2.1 112 = .ok (.iload 5, 2) := by decide +kernel
theorem d_M_witnessOf_114 : decode u_M_witnessOf.2.1 114 = .ok (.dup2, 1) := by decide +kernel
theorem d_M_witnessOf_115 : decode u_M_witnessOf.2.1 115 = .ok (.iaload, 1) := by decide +kernel
theorem d_M_witnessOf_116 : decode u_M_witnessOf.2.1 116 = .ok (.iconst 2, 1) := by decide +kernel
theorem d_M_witnessOf_117 : decode u_M_witnessOf.2.1 117 = .ok (.idiv, 1) := by decide +kernel
theorem d_M_witnessOf_118 : decode u_M_witnessOf.2.1 118 = .ok (.iastore, 1) := by decide +kernel
theorem d_M_witnessOf_119 : decode u_M_witnessOf.2.1 119 = .ok (.iinc 4 1, 3) := by decide +kernel
theorem d_M_witnessOf_122 : decode u_M_witnessOf.2.1 122 = .ok (.goto (-73), 3) := by decide +kernel
theorem d_M_witness_0 : decode u_M_witness.2.1 0 = .ok (.aload_n 0, 1) := by decide +kernel
theorem d_M_witness_1 : decode u_M_witness.2.1 1 = .ok (.iload_n 1, 1) := by decide +kernel
theorem d_M_witness_2 : decode u_M_witness.2.1 2 = .ok (.invokevirtual 103, 3) := by decide +kernel
theorem d_M_witness_5 : decode u_M_witness.2.1 5 = .ok (.ifCond .eq 33, 3) := by decide +kernel
theorem d_M_witness_8 : decode u_M_witness.2.1 8 = .ok (.aload_n 0, 1) := by decide +kernel
theorem d_M_witness_9 : decode u_M_witness.2.1 9 = .ok (.iload_n 2, 1) := by decide +kernel
theorem d_M_witness_10 : decode u_M_witness.2.1 10 = .ok (.invokevirtual 114, 3) := by decide +kernel
theorem d_M_witness_13 : decode u_M_witness.2.1 13 = .ok (.ifCond .eq 25, 3) := by decide +kernel
theorem d_M_witness_16 : decode u_M_witness.2.1 16 = .ok (.iload_n 3, 1) := by decide +kernel
theorem d_M_witness_17 : decode u_M_witness.2.1 17 = .ok (.i2l, 1) := by decide +kernel
theorem d_M_witness_18 : decode u_M_witness.2.1 18 = .ok (.lconst 0, 1) := by decide +kernel
theorem d_M_witness_19 : decode u_M_witness.2.1 19 = .ok (.ldc2_w 109, 3) := by decide +kernel
theorem d_M_witness_22 : decode u_M_witness.2.1 22 = .ok (.invokestatic 69, 3) := by decide +kernel
theorem d_M_witness_25 : decode u_M_witness.2.1 25 = .ok (.ifCond .eq 13, 3) := by decide +kernel
theorem d_M_witness_28 : decode u_M_witness.2.1 28 = .ok (.aload_n 0, 1) := by decide +kernel
theorem d_M_witness_29 : decode u_M_witness.2.1 29 = .ok (.iload_n 1, 1) := by decide +kernel
theorem d_M_witness_30 : decode u_M_witness.2.1 30 = .ok (.iload_n 2, 1) := by decide +kernel
theorem d_M_witness_31 : decode u_M_witness.2.1 31 = .ok (.iload_n 3, 1) := by decide +kernel
theorem d_M_witness_32 : decode u_M_witness.2.1 32 = .ok (.invokevirtual 267, 3) := by decide +kernel
theorem d_M_witness_35 : decode u_M_witness.2.1 35 = .ok (.goto 5, 3) := by decide +kernel
theorem d_M_witness_38 : decode u_M_witness.2.1 38 = .ok (.bipush (-2), 2) := by decide +kernel
theorem d_M_witness_40 : decode u_M_witness.2.1 40 = .ok (.ireturn, 1) := by decide +kernel
theorem d_M_plainest_0 : decode u_M_plainest.2.1 0 = .ok (.aload_n 0, 1) := by decide +kernel
theorem d_M_plainest_1 : decode u_M_plainest.2.1 1 = .ok (.iload_n 1, 1) := by decide +kernel
theorem d_M_plainest_2 : decode u_M_plainest.2.1 2 = .ok (.invokevirtual 114, 3) := by decide +kernel
theorem d_M_plainest_5 : decode u_M_plainest.2.1 5 = .ok (.ifCond .ne 6, 3) := by decide +kernel
theorem d_M_plainest_8 : decode u_M_plainest.2.1 8 = .ok (.bipush (-2), 2) := by decide +kernel
theorem d_M_plainest_10 : decode u_M_plainest.2.1 10 = .ok (.ireturn, 1) := by decide +kernel
theorem d_M_plainest_11 : decode u_M_plainest.2.1 11 = .ok (.iconst (-1), 1) := by decide +kernel
theorem d_M_plainest_12 : decode u_M_plainest.2.1 12 = .ok (.istore_n 2, 1) := by decide +kernel
theorem d_M_plainest_13 : decode u_M_plainest.2.1 13 = .ok (.iconst 0, 1) := by decide +kernel
theorem d_M_plainest_14 : decode u_M_plainest.2.1 14 = .ok (.istore_n 3, 1) := by decide +kernel
theorem d_M_plainest_15 : decode u_M_plainest.2.1 15 = .ok (.iconst 0, 1) := by decide +kernel
theorem d_M_plainest_16 : decode u_M_plainest.2.1 16 = .ok (.istore 4, 2) := by decide +kernel
theorem d_M_plainest_18 : decode u_M_plainest.2.1 18 = .ok (.iload 4, 2) := by decide +kernel
theorem d_M_plainest_20 : decode u_M_plainest.2.1 20 = .ok (.aload_n 0, 1) := by decide +kernel
theorem d_M_plainest_21 : decode u_M_plainest.2.1 21 = .ok (.getfield 98, 3) := by decide +kernel
theorem d_M_plainest_24 : decode u_M_plainest.2.1 24 = .ok (.if_icmp .ge 84, 3) := by decide +kernel
theorem d_M_plainest_27 : decode u_M_plainest.2.1 27 = .ok (.iload_n 1, 1) := by decide +kernel
theorem d_M_plainest_28 : decode u_M_plainest.2.1 28 = .ok (.iload 4, 2) := by decide +kernel
theorem d_M_plainest_30 : decode u_M_plainest.2.1 30 = .ok (.ishr, 1) := by decide +kernel
theorem d_M_plainest_31 : decode u_M_plainest.2.1 31 = .ok (.iconst 1, 1) := by decide +kernel
theorem d_M_plainest_32 : decode u_M_plainest.2.1 32 = .ok (.iand, 1) := by decide +kernel
theorem d_M_plainest_33 : decode u_M_plainest.2.1 33 = .ok (.iconst 1, 1) := by decide +kernel
theorem d_M_plainest_34 : decode u_M_plainest.2.1 34 = .ok (.if_icmp .ne 68, 3) := by decide +kernel
theorem d_M_plainest_37 : decode u_M_plainest.2.1 37 = .ok (.iconst 0, 1) := by decide +kernel
theorem d_M_plainest_38 : decode u_M_plainest.2.1 38 = .ok (.istore 5, 2) := by decide +kernel
theorem d_M_plainest_40 : decode u_M_plainest.2.1 40 = .ok (.iconst 0, 1) := by decide +kernel
theorem d_M_plainest_41 : decode u_M_plainest.2.1 41 = .ok (.istore 6, 2) := by decide +kernel
theorem d_M_plainest_43 : decode u_M_plainest.2.1 43 = .ok (.iload 6, 2) := by decide +kernel
theorem d_M_plainest_45 : decode u_M_plainest.2.1 45 = .ok (.bipush 8, 2) := by decide +kernel
theorem d_M_plainest_47 : decode u_M_plainest.2.1 47 = .ok (.if_icmp .ge 38, 3) := by decide +kernel
theorem d_M_plainest_50 : decode u_M_plainest.2.1 50 = .ok (.iload 5, 2) := by decide +kernel
theorem d_M_plainest_52 : decode u_M_plainest.2.1 52 = .ok (.aload_n 0, 1) := by decide +kernel
theorem d_M_plainest_53 : decode u_M_plainest.2.1 53 = .ok (.getfield 22, 3) := by decide +kernel
theorem d_M_plainest_56 : decode u_M_plainest.2.1 56 = .ok (.bipush 8, 2) := by decide +kernel
theorem d_M_plainest_58 : decode u_M_plainest.2.1 58 = .ok (.iload 4, 2) := by decide +kernel
theorem d_M_plainest_60 : decode u_M_plainest.2.1 60 = .ok (.imul, 1) := by decide +kernel
theorem d_M_plainest_61 : decode u_M_plainest.2.1 61 = .ok (.iload 6, 2) := by decide +kernel
theorem d_M_plainest_63 : decode u_M_plainest.2.1 63 = .ok (.iadd, 1) := by decide +kernel
theorem d_M_plainest_64 : decode u_M_plainest.2.1 64 = .ok (.iaload, 1) := by decide +kernel
theorem d_M_plainest_65 : decode u_M_plainest.2.1 65 = .ok (.aload_n 0, 1) := by decide +kernel
theorem d_M_plainest_66 : decode u_M_plainest.2.1 66 = .ok (.iload_n 1, 1) := by decide +kernel
theorem d_M_plainest_67 : decode u_M_plainest.2.1 67 = .ok (.iload 6, 2) := by decide +kernel
theorem d_M_plainest_69 : decode u_M_plainest.2.1 69 = .ok (.invokevirtual 117, 3) := by decide +kernel
theorem d_M_plainest_72 : decode u_M_plainest.2.1 72 = .ok (.isub, 1) := by decide +kernel
theorem d_M_plainest_73 : decode u_M_plainest.2.1 73 = .ok (.invokestatic 166, 3) := by decide +kernel
theorem d_M_plainest_76 : decode u_M_plainest.2.1 76 = .ok (.iadd, 1) := by decide +kernel
theorem d_M_plainest_77 : decode u_M_plainest.2.1 77 = .ok (.istore 5, 2) := by decide +kernel
theorem d_M_plainest_79 : decode u_M_plainest.2.1 79 = .ok (.iinc 6 1, 3) := by decide +kernel
theorem d_M_plainest_82 : decode u_M_plainest.2.1 82 = .ok (.goto (-39), 3) := by decide +kernel
theorem d_M_plainest_85 : decode u_M_plainest.2.1 85 = .ok (.iload_n 2, 1) := by decide +kernel
theorem d_M_plainest_86 : decode u_M_plainest.2.1 86 = .ok (.iconst (-1), 1) := by decide +kernel
theorem d_M_plainest_87 : decode u_M_plainest.2.1 87 = .ok (.if_icmp .eq 9, 3) := by decide +kernel
theorem d_M_plainest_90 : decode u_M_plainest.2.1 90 = .ok (.iload 5, 2) := by decide +kernel
theorem d_M_plainest_92 : decode u_M_plainest.2.1 92 = .ok (.iload_n 3, 1) := by decide +kernel
theorem d_M_plainest_93 : decode u_M_plainest.2.1 93 = .ok (.if_icmp .ge 9, 3) := by decide +kernel
theorem d_M_plainest_96 : decode u_M_plainest.2.1 96 = .ok (.iload 4, 2) := by decide +kernel
theorem d_M_plainest_98 : decode u_M_plainest.2.1 98 = .ok (.istore_n 2, 1) := by decide +kernel
theorem d_M_plainest_99 : decode u_M_plainest.2.1 99 = .ok (.iload 5, 2) := by decide +kernel
theorem d_M_plainest_101 : decode u_M_plainest.2.1 101 = .ok (.istore_n 3, 1) := by decide +kernel
theorem d_M_plainest_102 : decode u_M_plainest.2.1 102 = .ok (.iinc 4 1, 3) := by decide +kernel
theorem d_M_plainest_105 : decode u_M_plainest.2.1 105 = .ok (.goto (-87), 3) := by decide +kernel
theorem d_M_plainest_108 : decode u_M_plainest.2.1 108 = .ok (.iload_n 2, 1) := by decide +kernel
theorem d_M_plainest_109 : decode u_M_plainest.2.1 109 = .ok (.ireturn, 1) := by decide +kernel
theorem d_M_write_0 : decode u_M_write.2.1 0 = .ok (.aload_n 0, 1) := by decide +kernel
theorem d_M_write_1 : decode u_M_write.2.1 1 = .ok (.iload_n 1, 1) := by decide +kernel
theorem d_M_write_2 : decode u_M_write.2.1 2 = .ok (.invokevirtual 163, 3) := by decide +kernel
theorem d_M_write_5 : decode u_M_write.2.1 5 = .ok (.ifCond .eq 10, 3) := by decide +kernel
theorem d_M_write_8 : decode u_M_write.2.1 8 = .ok (.iload_n 2, 1) := by decide +kernel
theorem d_M_write_9 : decode u_M_write.2.1 9 = .ok (.invokestatic 79, 3) := by decide +kernel
theorem d_M_write_12 : decode u_M_write.2.1 12 = .ok (.ifCond .ne 6, 3) := by decide +kernel
theorem d_M_write_15 : decode u_M_write.2.1 15 = .ok (.bipush (-2), 2) := by decide +kernel
theorem d_M_write_17 : decode u_M_write.2.1 17 = .ok (.ireturn, 1) := by decide +kernel
theorem d_M_write_18 : decode u_M_write.2.1 18 = .ok (.aload_n 0, 1) := by decide +kernel
theorem d_M_write_19 : decode u_M_write.2.1 19 = .ok (.getfield 7, 3) := by decide +kernel
theorem d_M_write_22 : decode u_M_write.2.1 22 = .ok (.iload_n 2, 1) := by decide +kernel
theorem d_M_write_23 : decode u_M_write.2.1 23 = .ok (.iaload, 1) := by decide +kernel
theorem d_M_write_24 : decode u_M_write.2.1 24 = .ok (.ifCond .ge 9, 3) := by decide +kernel
theorem d_M_write_27 : decode u_M_write.2.1 27 = .ok (.aload_n 0, 1) := by decide +kernel
theorem d_M_write_28 : decode u_M_write.2.1 28 = .ok (.iconst 1, 1) := by decide +kernel
theorem d_M_write_29 : decode u_M_write.2.1 29 = .ok (.invokevirtual 85, 3) := by decide +kernel
theorem d_M_write_32 : decode u_M_write.2.1 32 = .ok (.ireturn, 1) := by decide +kernel
theorem d_M_write_33 : decode u_M_write.2.1 33 = .ok (.aload_n 0, 1) := by decide +kernel
theorem d_M_write_34 : decode u_M_write.2.1 34 = .ok (.getfield 13, 3) := by decide +kernel
theorem d_M_write_37 : decode u_M_write.2.1 37 = .ok (.iload_n 2, 1) := by decide +kernel
theorem d_M_write_38 : decode u_M_write.2.1 38 = .ok (.iaload, 1) := by decide +kernel
theorem d_M_write_39 : decode u_M_write.2.1 39 = .ok (.bipush 8, 2) := by decide +kernel
theorem d_M_write_41 : decode u_M_write.2.1 41 = .ok (.if_icmp .ge 12, 3) := by decide +kernel
theorem d_M_write_44 : decode u_M_write.2.1 44 = .ok (.aload_n 0, 1) := by decide +kernel
theorem d_M_write_45 : decode u_M_write.2.1 45 = .ok (.getfield 13, 3) := by decide +kernel
theorem d_M_write_48 : decode u_M_write.2.1 48 = .ok (.iload_n 2, 1) := by decide +kernel
theorem d_M_write_49 : decode u_M_write.2.1 49 = .ok (.iaload, 1) := by decide +kernel
theorem d_M_write_50 : decode u_M_write.2.1 50 = .ok (.goto 5, 3) := by decide +kernel
theorem d_M_write_53 : decode u_M_write.2.1 53 = .ok (.bipush 8, 2) := by decide +kernel
theorem d_M_write_55 : decode u_M_write.2.1 55 = .ok (.istore_n 3, 1) := by decide +kernel
theorem d_M_write_56 : decode u_M_write.2.1 56 = .ok (.iconst 0, 1) := by decide +kernel
theorem d_M_write_57 : decode u_M_write.2.1 57 = .ok (.istore 4, 2) := by decide +kernel
theorem d_M_write_59 : decode u_M_write.2.1 59 = .ok (.iload 4, 2) := by decide +kernel
theorem d_M_write_61 : decode u_M_write.2.1 61 = .ok (.iload_n 3, 1) := by decide +kernel
theorem d_M_write_62 : decode u_M_write.2.1 62 = .ok (.if_icmp .ge 42, 3) := by decide +kernel
theorem d_M_write_65 : decode u_M_write.2.1 65 = .ok (.aload_n 0, 1) := by decide +kernel
theorem d_M_write_66 : decode u_M_write.2.1 66 = .ok (.getfield 16, 3) := by decide +kernel
theorem d_M_write_69 : decode u_M_write.2.1 69 = .ok (.bipush 60, 2) := by decide +kernel
theorem d_M_write_71 : decode u_M_write.2.1 71 = .ok (.iload_n 2, 1) := by decide +kernel
theorem d_M_write_72 : decode u_M_write.2.1 72 = .ok (.imul, 1) := by decide +kernel
theorem d_M_write_73 : decode u_M_write.2.1 73 = .ok (.iload 4, 2) := by decide +kernel
theorem d_M_write_75 : decode u_M_write.2.1 75 = .ok (.iadd, 1) := by decide +kernel
theorem d_M_write_76 : decode u_M_write.2.1 76 = .ok (.aload_n 0, 1) := by decide +kernel
theorem d_M_write_77 : decode u_M_write.2.1 77 = .ok (.getfield 7, 3) := by decide +kernel
theorem d_M_write_80 : decode u_M_write.2.1 80 = .ok (.iload_n 2, 1) := by decide +kernel
theorem d_M_write_81 : decode u_M_write.2.1 81 = .ok (.iaload, 1) := by decide +kernel
theorem d_M_write_82 : decode u_M_write.2.1 82 = .ok (.aload_n 0, 1) := by decide +kernel
theorem d_M_write_83 : decode u_M_write.2.1 83 = .ok (.getfield 49, 3) := by decide +kernel
theorem d_M_write_86 : decode u_M_write.2.1 86 = .ok (.bipush 8, 2) := by decide +kernel
theorem d_M_write_88 : decode u_M_write.2.1 88 = .ok (.iload_n 1, 1) := by decide +kernel
theorem d_M_write_89 : decode u_M_write.2.1 89 = .ok (.imul, 1) := by decide +kernel
theorem d_M_write_90 : decode u_M_write.2.1 90 = .ok (.iload 4, 2) := by decide +kernel
theorem d_M_write_92 : decode u_M_write.2.1 92 = .ok (.iadd, 1) := by decide +kernel
theorem d_M_write_93 : decode u_M_write.2.1 93 = .ok (.iaload, 1) := by decide +kernel
theorem d_M_write_94 : decode u_M_write.2.1 94 = .ok (.invokestatic 93, 3) := by decide +kernel
theorem d_M_write_97 : decode u_M_write.2.1 97 = .ok (.iastore, 1) := by decide +kernel
theorem d_M_write_98 : decode u_M_write.2.1 98 = .ok (.iinc 4 1, 3) := by decide +kernel
theorem d_M_write_101 : decode u_M_write.2.1 101 = .ok (.goto (-42), 3) := by decide +kernel
theorem d_M_write_104 : decode u_M_write.2.1 104 = .ok (.iload_n 3, 1) := by decide +kernel
theorem d_M_write_105 : decode u_M_write.2.1 105 = .ok (.ireturn, 1) := by decide +kernel
theorem d_M_count_0 : decode u_M_count.2.1 0 = .ok (.iconst 0, 1) := by decide +kernel
theorem d_M_count_1 : decode u_M_count.2.1 1 = .ok (.istore_n 2, 1) := by decide +kernel
theorem d_M_count_2 : decode u_M_count.2.1 2 = .ok (.iload_n 1, 1) := by decide +kernel
theorem d_M_count_3 : decode u_M_count.2.1 3 = .ok (.tableswitch 112 0 8 #[49, 54, 59, 64, 64, 64, 64, 73, 107], 49) := by decide +kernel
theorem d_M_count_52 : decode u_M_count.2.1 52 = .ok (.aload_n 0, 1) := by decide +kernel
theorem d_M_count_53 : decode u_M_count.2.1 53 = .ok (.getfield 98, 3) := by decide +kernel
theorem d_M_count_56 : decode u_M_count.2.1 56 = .ok (.ireturn, 1) := by decide +kernel
theorem d_M_count_57 : decode u_M_count.2.1 57 = .ok (.aload_n 0, 1) := by decide +kernel
theorem d_M_count_58 : decode u_M_count.2.1 58 = .ok (.getfield 157, 3) := by decide +kernel
theorem d_M_count_61 : decode u_M_count.2.1 61 = .ok (.ireturn, 1) := by decide +kernel
theorem d_M_count_62 : decode u_M_count.2.1 62 = .ok (.aload_n 0, 1) := by decide +kernel
theorem d_M_count_63 : decode u_M_count.2.1 63 = .ok (.getfield 190, 3) := by decide +kernel
theorem d_M_count_66 : decode u_M_count.2.1 66 = .ok (.ireturn, 1) := by decide +kernel
theorem d_M_count_67 : decode u_M_count.2.1 67 = .ok (.aload_n 0, 1) := by decide +kernel
theorem d_M_count_68 : decode u_M_count.2.1 68 = .ok (.getfield 28, 3) := by decide +kernel
theorem d_M_count_71 : decode u_M_count.2.1 71 = .ok (.iload_n 1, 1) := by decide +kernel
theorem d_M_count_72 : decode u_M_count.2.1 72 = .ok (.iconst 3, 1) := by decide +kernel
theorem d_M_count_73 : decode u_M_count.2.1 73 = .ok (.isub, 1) := by decide +kernel
theorem d_M_count_74 : decode u_M_count.2.1 74 = .ok (.iaload, 1) := by decide +kernel
theorem d_M_count_75 : decode u_M_count.2.1 75 = .ok (.ireturn, 1) := by decide +kernel
theorem d_M_count_76 : decode u_M_count.2.1 76 = .ok (.iconst 0, 1) := by decide +kernel
theorem d_M_count_77 : decode u_M_count.2.1 77 = .ok (.istore_n 3, 1) := by decide +kernel
theorem d_M_count_78 : decode u_M_count.2.1 78 = .ok (.iload_n 3, 1) := by decide +kernel
theorem d_M_count_79 : decode u_M_count.2.1 79 = .ok (.aload_n 0, 1) := by decide +kernel
theorem d_M_count_80 : decode u_M_count.2.1 80 = .ok (.getfield 157, 3) := by decide +kernel
theorem d_M_count_83 : decode u_M_count.2.1 83 = .ok (.if_icmp .ge 25, 3) := by decide +kernel
theorem d_M_count_86 : decode u_M_count.2.1 86 = .ok (.iload_n 2, 1) := by decide +kernel
theorem d_M_count_87 : decode u_M_count.2.1 87 = .ok (.aload_n 0, 1) := by decide +kernel
theorem d_M_count_88 : decode u_M_count.2.1 88 = .ok (.iload_n 3, 1) := by decide +kernel
theorem d_M_count_89 : decode u_M_count.2.1 89 = .ok (.invokevirtual 178, 3) := by decide +kernel
theorem d_M_count_92 : decode u_M_count.2.1 92 = .ok (.ifCond .eq 7, 3) := by decide +kernel
theorem d_M_count_95 : decode u_M_count.2.1 95 = .ok (.iconst 1, 1) := by decide +kernel
theorem d_M_count_96 : decode u_M_count.2.1 96 = .ok (.goto 4, 3) := by decide +kernel
theorem d_M_count_99 : decode u_M_count.2.1 99 = .ok (.iconst 0, 1) := by decide +kernel
theorem d_M_count_100 : decode u_M_count.2.1 100 = .ok (.iadd, 1) := by decide +kernel
theorem d_M_count_101 : decode u_M_count.2.1 101 = .ok (.istore_n 2, 1) := by decide +kernel
theorem d_M_count_102 : decode u_M_count.2.1 102 = .ok (.iinc 3 1, 3) := by decide +kernel
theorem d_M_count_105 : decode u_M_count.2.1 105 = .ok (.goto (-27), 3) := by decide +kernel
theorem d_M_count_108 : decode u_M_count.2.1 108 = .ok (.iload_n 2, 1) := by decide +kernel
theorem d_M_count_109 : decode u_M_count.2.1 109 = .ok (.ireturn, 1) := by decide +kernel
theorem d_M_count_110 : decode u_M_count.2.1 110 = .ok (.aload_n 0, 1) := by decide +kernel
theorem d_M_count_111 : decode u_M_count.2.1 111 = .ok (.getfield 73, 3) := by decide +kernel
theorem d_M_count_114 : decode u_M_count.2.1 114 = .ok (.ireturn, 1) := by decide +kernel
theorem d_M_count_115 : decode u_M_count.2.1 115 = .ok (.bipush (-2), 2) := by decide +kernel
theorem d_M_count_117 : decode u_M_count.2.1 117 = .ok (.ireturn, 1) := by decide +kernel
theorem d_M_digest_0 : decode u_M_digest.2.1 0 = .ok (.ldc2_w 270, 3) := by decide +kernel
theorem d_M_digest_3 : decode u_M_digest.2.1 3 = .ok (.lstore_n 1, 1) := by decide +kernel
theorem d_M_digest_4 : decode u_M_digest.2.1 4 = .ok (.iconst 0, 1) := by decide +kernel
theorem d_M_digest_5 : decode u_M_digest.2.1 5 = .ok (.istore_n 3, 1) := by decide +kernel
theorem d_M_digest_6 : decode u_M_digest.2.1 6 = .ok (.iload_n 3, 1) := by decide +kernel
theorem d_M_digest_7 : decode u_M_digest.2.1 7 = .ok (.bipush 8, 2) := by decide +kernel
theorem d_M_digest_9 : decode u_M_digest.2.1 9 = .ok (.if_icmp .ge 22, 3) := by decide +kernel
theorem d_M_digest_12 : decode u_M_digest.2.1 12 = .ok (.ldc2_w 272, 3) := by decide +kernel
theorem d_M_digest_15 : decode u_M_digest.2.1 15 = .ok (.lload_n 1, 1) := by decide +kernel
theorem d_M_digest_16 : decode u_M_digest.2.1 16 = .ok (.lmul, 1) := by decide +kernel
theorem d_M_digest_17 : decode u_M_digest.2.1 17 = .ok (.aload_n 0, 1) := by decide +kernel
theorem d_M_digest_18 : decode u_M_digest.2.1 18 = .ok (.iload_n 3, 1) := by decide +kernel
theorem d_M_digest_19 : decode u_M_digest.2.1 19 = .ok (.invokevirtual 274, 3) := by decide +kernel
theorem d_M_digest_22 : decode u_M_digest.2.1 22 = .ok (.i2l, 1) := by decide +kernel
theorem d_M_digest_23 : decode u_M_digest.2.1 23 = .ok (.ladd, 1) := by decide +kernel
theorem d_M_digest_24 : decode u_M_digest.2.1 24 = .ok (.lstore_n 1, 1) := by decide +kernel
theorem d_M_digest_25 : decode u_M_digest.2.1 25 = .ok (.iinc 3 1, 3) := by decide +kernel
theorem d_M_digest_28 : decode u_M_digest.2.1 28 = .ok (.goto (-22), 3) := by decide +kernel
theorem d_M_digest_31 : decode u_M_digest.2.1 31 = .ok (.iconst 0, 1) := by decide +kernel
theorem d_M_digest_32 : decode u_M_digest.2.1 32 = .ok (.istore_n 3, 1) := by decide +kernel
theorem d_M_digest_33 : decode u_M_digest.2.1 33 = .ok (.iload_n 3, 1) := by decide +kernel
theorem d_M_digest_34 : decode u_M_digest.2.1 34 = .ok (.iconst 4, 1) := by decide +kernel
theorem d_M_digest_35 : decode u_M_digest.2.1 35 = .ok (.if_icmp .ge 53, 3) := by decide +kernel
theorem d_M_digest_38 : decode u_M_digest.2.1 38 = .ok (.ldc2_w 272, 3) := by decide +kernel
theorem d_M_digest_41 : decode u_M_digest.2.1 41 = .ok (.lload_n 1, 1) := by decide +kernel
theorem d_M_digest_42 : decode u_M_digest.2.1 42 = .ok (.lmul, 1) := by decide +kernel
theorem d_M_digest_43 : decode u_M_digest.2.1 43 = .ok (.aload_n 0, 1) := by decide +kernel
theorem d_M_digest_44 : decode u_M_digest.2.1 44 = .ok (.iload_n 3, 1) := by decide +kernel
theorem d_M_digest_45 : decode u_M_digest.2.1 45 = .ok (.invokevirtual 146, 3) := by decide +kernel
theorem d_M_digest_48 : decode u_M_digest.2.1 48 = .ok (.i2l, 1) := by decide +kernel
theorem d_M_digest_49 : decode u_M_digest.2.1 49 = .ok (.ladd, 1) := by decide +kernel
theorem d_M_digest_50 : decode u_M_digest.2.1 50 = .ok (.lstore_n 1, 1) := by decide +kernel
theorem d_M_digest_51 : decode u_M_digest.2.1 51 = .ok (.iconst 0, 1) := by decide +kernel
theorem d_M_digest_52 : decode u_M_digest.2.1 52 = .ok (.istore 4, 2) := by decide +kernel
theorem d_M_digest_54 : decode u_M_digest.2.1 54 = .ok (.iload 4, 2) := by decide +kernel
theorem d_M_digest_56 : decode u_M_digest.2.1 56 = .ok (.bipush 8, 2) := by decide +kernel
theorem d_M_digest_58 : decode u_M_digest.2.1 58 = .ok (.if_icmp .ge 24, 3) := by decide +kernel
theorem d_M_digest_61 : decode u_M_digest.2.1 61 = .ok (.ldc2_w 272, 3) := by decide +kernel
theorem d_M_digest_64 : decode u_M_digest.2.1 64 = .ok (.lload_n 1, 1) := by decide +kernel
theorem d_M_digest_65 : decode u_M_digest.2.1 65 = .ok (.lmul, 1) := by decide +kernel
theorem d_M_digest_66 : decode u_M_digest.2.1 66 = .ok (.aload_n 0, 1) := by decide +kernel
theorem d_M_digest_67 : decode u_M_digest.2.1 67 = .ok (.getfield 31, 3) := by decide +kernel
theorem d_M_digest_70 : decode u_M_digest.2.1 70 = .ok (.iload 4, 2) := by decide +kernel
theorem d_M_digest_72 : decode u_M_digest.2.1 72 = .ok (.iaload, 1) := by decide +kernel
theorem d_M_digest_73 : decode u_M_digest.2.1 73 = .ok (.i2l, 1) := by decide +kernel
theorem d_M_digest_74 : decode u_M_digest.2.1 74 = .ok (.ladd, 1) := by decide +kernel
theorem d_M_digest_75 : decode u_M_digest.2.1 75 = .ok (.lstore_n 1, 1) := by decide +kernel
theorem d_M_digest_76 : decode u_M_digest.2.1 76 = .ok (.iinc 4 1, 3) := by decide +kernel
theorem d_M_digest_79 : decode u_M_digest.2.1 79 = .ok (.goto (-25), 3) := by decide +kernel
theorem d_M_digest_82 : decode u_M_digest.2.1 82 = .ok (.iinc 3 1, 3) := by decide +kernel
theorem d_M_digest_85 : decode u_M_digest.2.1 85 = .ok (.goto (-52), 3) := by decide +kernel
theorem d_M_digest_88 : decode u_M_digest.2.1 88 = .ok (.iconst 0, 1) := by decide +kernel
theorem d_M_digest_89 : decode u_M_digest.2.1 89 = .ok (.istore_n 3, 1) := by decide +kernel
theorem d_M_digest_90 : decode u_M_digest.2.1 90 = .ok (.iload_n 3, 1) := by decide +kernel
theorem d_M_digest_91 : decode u_M_digest.2.1 91 = .ok (.aload_n 0, 1) := by decide +kernel
theorem d_M_digest_92 : decode u_M_digest.2.1 92 = .ok (.getfield 98, 3) := by decide +kernel
theorem d_M_digest_95 : decode u_M_digest.2.1 95 = .ok (.if_icmp .ge 39, 3) := by decide +kernel
theorem d_M_digest_98 : decode u_M_digest.2.1 98 = .ok (.ldc2_w 272, 3) := by decide +kernel
theorem d_M_digest_101 : decode u_M_digest.2.1 101 = .ok (.lload_n 1, 1) := by decide +kernel
theorem d_M_digest_102 : decode u_M_digest.2.1 102 = .ok (.lmul, 1) := by decide +kernel
theorem d_M_digest_103 : decode u_M_digest.2.1 103 = .ok (.aload_n 0, 1) := by decide +kernel
theorem d_M_digest_104 : decode u_M_digest.2.1 104 = .ok (.iload_n 3, 1) := by decide +kernel
theorem d_M_digest_105 : decode u_M_digest.2.1 105 = .ok (.iconst 0, 1) := by decide +kernel
theorem d_M_digest_106 : decode u_M_digest.2.1 106 = .ok (.invokevirtual 264, 3) := by decide +kernel
theorem d_M_digest_109 : decode u_M_digest.2.1 109 = .ok (.i2l, 1) := by decide +kernel
theorem d_M_digest_110 : decode u_M_digest.2.1 110 = .ok (.ladd, 1) := by decide +kernel
theorem d_M_digest_111 : decode u_M_digest.2.1 111 = .ok (.lstore_n 1, 1) := by decide +kernel
theorem d_M_digest_112 : decode u_M_digest.2.1 112 = .ok (.ldc2_w 272, 3) := by decide +kernel
theorem d_M_digest_115 : decode u_M_digest.2.1 115 = .ok (.lload_n 1, 1) := by decide +kernel
theorem d_M_digest_116 : decode u_M_digest.2.1 116 = .ok (.lmul, 1) := by decide +kernel
theorem d_M_digest_117 : decode u_M_digest.2.1 117 = .ok (.aload_n 0, 1) := by decide +kernel
theorem d_M_digest_118 : decode u_M_digest.2.1 118 = .ok (.iload_n 3, 1) := by decide +kernel
theorem d_M_digest_119 : decode u_M_digest.2.1 119 = .ok (.iconst 1, 1) := by decide +kernel
theorem d_M_digest_120 : decode u_M_digest.2.1 120 = .ok (.bipush 9, 2) := by decide +kernel
theorem d_M_digest_122 : decode u_M_digest.2.1 122 = .ok (.invokevirtual 267, 3) := by decide +kernel
theorem d_M_digest_125 : decode u_M_digest.2.1 125 = .ok (.i2l, 1) := by decide +kernel
theorem d_M_digest_126 : decode u_M_digest.2.1 126 = .ok (.ladd, 1) := by decide +kernel
theorem d_M_digest_127 : decode u_M_digest.2.1 127 = .ok (.lstore_n 1, 1) := by decide +kernel
theorem d_M_digest_128 : decode u_M_digest.2.1 128 = .ok (.iinc 3 1, 3) := by decide +kernel
theorem d_M_digest_131 : decode u_M_digest.2.1 131 = .ok (.goto (-41), 3) := by decide +kernel
theorem d_M_digest_134 : decode u_M_digest.2.1 134 = .ok (.iconst 0, 1) := by decide +kernel
theorem d_M_digest_135 : decode u_M_digest.2.1 135 = .ok (.istore_n 3, 1) := by decide +kernel
theorem d_M_digest_136 : decode u_M_digest.2.1 136 = .ok (.iload_n 3, 1) := by decide +kernel
theorem d_M_digest_137 : decode u_M_digest.2.1 137 = .ok (.aload_n 0, 1) := by decide +kernel
theorem d_M_digest_138 : decode u_M_digest.2.1 138 = .ok (.getfield 157, 3) := by decide +kernel
theorem d_M_digest_141 : decode u_M_digest.2.1 141 = .ok (.if_icmp .ge 76, 3) := by decide +kernel
theorem d_M_digest_144 : decode u_M_digest.2.1 144 = .ok (.iconst 0, 1) := by decide +kernel
theorem d_M_digest_145 : decode u_M_digest.2.1 145 = .ok (.istore 4, 2) := by decide +kernel
theorem d_M_digest_147 : decode u_M_digest.2.1 147 = .ok (.iload 4, 2) := by decide +kernel
theorem d_M_digest_149 : decode u_M_digest.2.1 149 = .ok (.bipush 8, 2) := by decide +kernel
theorem d_M_digest_151 : decode u_M_digest.2.1 151 = .ok (.if_icmp .ge 24, 3) := by decide +kernel
theorem d_M_digest_154 : decode u_M_digest.2.1 154 = .ok (.ldc2_w 272, 3) := by decide +kernel
theorem d_M_digest_157 : decode u_M_digest.2.1 157 = .ok (.lload_n 1, 1) := by decide +kernel
theorem d_M_digest_158 : decode u_M_digest.2.1 158 = .ok (.lmul, 1) := by decide +kernel
theorem d_M_digest_159 : decode u_M_digest.2.1 159 = .ok (.aload_n 0, 1) := by decide +kernel
theorem d_M_digest_160 : decode u_M_digest.2.1 160 = .ok (.iload_n 3, 1) := by decide +kernel
theorem d_M_digest_161 : decode u_M_digest.2.1 161 = .ok (.iload 4, 2) := by decide +kernel
theorem d_M_digest_163 : decode u_M_digest.2.1 163 = .ok (.invokevirtual 187, 3) := by decide +kernel
theorem d_M_digest_166 : decode u_M_digest.2.1 166 = .ok (.i2l, 1) := by decide +kernel
theorem d_M_digest_167 : decode u_M_digest.2.1 167 = .ok (.ladd, 1) := by decide +kernel
theorem d_M_digest_168 : decode u_M_digest.2.1 168 = .ok (.lstore_n 1, 1) := by decide +kernel
theorem d_M_digest_169 : decode u_M_digest.2.1 169 = .ok (.iinc 4 1, 3) := by decide +kernel
theorem d_M_digest_172 : decode u_M_digest.2.1 172 = .ok (.goto (-25), 3) := by decide +kernel
theorem d_M_digest_175 : decode u_M_digest.2.1 175 = .ok (.iconst 0, 1) := by decide +kernel
theorem d_M_digest_176 : decode u_M_digest.2.1 176 = .ok (.istore 4, 2) := by decide +kernel
theorem d_M_digest_178 : decode u_M_digest.2.1 178 = .ok (.iload 4, 2) := by decide +kernel
theorem d_M_digest_180 : decode u_M_digest.2.1 180 = .ok (.bipush 8, 2) := by decide +kernel
theorem d_M_digest_182 : decode u_M_digest.2.1 182 = .ok (.if_icmp .ge 29, 3) := by decide +kernel
theorem d_M_digest_185 : decode u_M_digest.2.1 185 = .ok (.ldc2_w 272, 3) := by decide +kernel
theorem d_M_digest_188 : decode u_M_digest.2.1 188 = .ok (.lload_n 1, 1) := by decide +kernel
theorem d_M_digest_189 : decode u_M_digest.2.1 189 = .ok (.lmul, 1) := by decide +kernel
theorem d_M_digest_190 : decode u_M_digest.2.1 190 = .ok (.aload_n 0, 1) := by decide +kernel
theorem d_M_digest_191 : decode u_M_digest.2.1 191 = .ok (.getfield 49, 3) := by decide +kernel
theorem d_M_digest_194 : decode u_M_digest.2.1 194 = .ok (.bipush 8, 2) := by decide +kernel
theorem d_M_digest_196 : decode u_M_digest.2.1 196 = .ok (.iload_n 3, 1) := by decide +kernel
theorem d_M_digest_197 : decode u_M_digest.2.1 197 = .ok (.imul, 1) := by decide +kernel
theorem d_M_digest_198 : decode u_M_digest.2.1 198 = .ok (.iload 4, 2) := by decide +kernel
theorem d_M_digest_200 : decode u_M_digest.2.1 200 = .ok (.iadd, 1) := by decide +kernel
theorem d_M_digest_201 : decode u_M_digest.2.1 201 = .ok (.iaload, 1) := by decide +kernel
theorem d_M_digest_202 : decode u_M_digest.2.1 202 = .ok (.i2l, 1) := by decide +kernel
theorem d_M_digest_203 : decode u_M_digest.2.1 203 = .ok (.ladd, 1) := by decide +kernel
theorem d_M_digest_204 : decode u_M_digest.2.1 204 = .ok (.lstore_n 1, 1) := by decide +kernel
theorem d_M_digest_205 : decode u_M_digest.2.1 205 = .ok (.iinc 4 1, 3) := by decide +kernel
theorem d_M_digest_208 : decode u_M_digest.2.1 208 = .ok (.goto (-30), 3) := by decide +kernel
theorem d_M_digest_211 : decode u_M_digest.2.1 211 = .ok (.iinc 3 1, 3) := by decide +kernel
theorem d_M_digest_214 : decode u_M_digest.2.1 214 = .ok (.goto (-78), 3) := by decide +kernel
theorem d_M_digest_217 : decode u_M_digest.2.1 217 = .ok (.iconst 0, 1) := by decide +kernel
theorem d_M_digest_218 : decode u_M_digest.2.1 218 = .ok (.istore_n 3, 1) := by decide +kernel
theorem d_M_digest_219 : decode u_M_digest.2.1 219 = .ok (.iload_n 3, 1) := by decide +kernel
theorem d_M_digest_220 : decode u_M_digest.2.1 220 = .ok (.aload_n 0, 1) := by decide +kernel
theorem d_M_digest_221 : decode u_M_digest.2.1 221 = .ok (.getfield 190, 3) := by decide +kernel
theorem d_M_digest_224 : decode u_M_digest.2.1 224 = .ok (.if_icmp .ge 95, 3) := by decide +kernel
theorem d_M_digest_227 : decode u_M_digest.2.1 227 = .ok (.iconst 0, 1) := by decide +kernel
theorem d_M_digest_228 : decode u_M_digest.2.1 228 = .ok (.istore 4, 2) := by decide +kernel
theorem d_M_digest_230 : decode u_M_digest.2.1 230 = .ok (.iload 4, 2) := by decide +kernel
theorem d_M_digest_232 : decode u_M_digest.2.1 232 = .ok (.bipush 8, 2) := by decide +kernel
theorem d_M_digest_234 : decode u_M_digest.2.1 234 = .ok (.if_icmp .ge 29, 3) := by decide +kernel
theorem d_M_digest_237 : decode u_M_digest.2.1 237 = .ok (.ldc2_w 272, 3) := by decide +kernel
theorem d_M_digest_240 : decode u_M_digest.2.1 240 = .ok (.lload_n 1, 1) := by decide +kernel
theorem d_M_digest_241 : decode u_M_digest.2.1 241 = .ok (.lmul, 1) := by decide +kernel
theorem d_M_digest_242 : decode u_M_digest.2.1 242 = .ok (.aload_n 0, 1) := by decide +kernel
theorem d_M_digest_243 : decode u_M_digest.2.1 243 = .ok (.getfield 58, 3) := by decide +kernel
theorem d_M_digest_246 : decode u_M_digest.2.1 246 = .ok (.bipush 8, 2) := by decide +kernel
theorem d_M_digest_248 : decode u_M_digest.2.1 248 = .ok (.iload_n 3, 1) := by decide +kernel
theorem d_M_digest_249 : decode u_M_digest.2.1 249 = .ok (.imul, 1) := by decide +kernel
theorem d_M_digest_250 : decode u_M_digest.2.1 250 = .ok (.iload 4, 2) := by decide +kernel
theorem d_M_digest_252 : decode u_M_digest.2.1 252 = .ok (.iadd, 1) := by decide +kernel
theorem d_M_digest_253 : decode u_M_digest.2.1 253 = .ok (.iaload, 1) := by decide +kernel
theorem d_M_digest_254 : decode u_M_digest.2.1 254 = .ok (.i2l, 1) := by decide +kernel
theorem d_M_digest_255 : decode u_M_digest.2.1 255 = .ok (.ladd, 1) := by decide +kernel
theorem d_M_digest_256 : decode u_M_digest.2.1 256 = .ok (.lstore_n 1, 1) := by decide +kernel
theorem d_M_digest_257 : decode u_M_digest.2.1 257 = .ok (.iinc 4 1, 3) := by decide +kernel
theorem d_M_digest_260 : decode u_M_digest.2.1 260 = .ok (.goto (-30), 3) := by decide +kernel
theorem d_M_digest_263 : decode u_M_digest.2.1 263 = .ok (.iconst 0, 1) := by decide +kernel
theorem d_M_digest_264 : decode u_M_digest.2.1 264 = .ok (.istore 4, 2) := by decide +kernel
theorem d_M_digest_266 : decode u_M_digest.2.1 266 = .ok (.iload 4, 2) := by decide +kernel
theorem d_M_digest_268 : decode u_M_digest.2.1 268 = .ok (.aload_n 0, 1) := by decide +kernel
theorem d_M_digest_269 : decode u_M_digest.2.1 269 = .ok (.getfield 157, 3) := by decide +kernel
theorem d_M_digest_272 : decode u_M_digest.2.1 272 = .ok (.if_icmp .ge 41, 3) := by decide +kernel
theorem d_M_digest_275 : decode u_M_digest.2.1 275 = .ok (.ldc2_w 272, 3) := by decide +kernel
theorem d_M_digest_278 : decode u_M_digest.2.1 278 = .ok (.lload_n 1, 1) := by decide +kernel
theorem d_M_digest_279 : decode u_M_digest.2.1 279 = .ok (.lmul, 1) := by decide +kernel
theorem d_M_digest_280 : decode u_M_digest.2.1 280 = .ok (.aload_n 0, 1) := by decide +kernel
theorem d_M_digest_281 : decode u_M_digest.2.1 281 = .ok (.iload_n 3, 1) := by decide +kernel
theorem d_M_digest_282 : decode u_M_digest.2.1 282 = .ok (.iload 4, 2) := by decide +kernel
theorem d_M_digest_284 : decode u_M_digest.2.1 284 = .ok (.iconst 0, 1) := by decide +kernel
theorem d_M_digest_285 : decode u_M_digest.2.1 285 = .ok (.invokevirtual 244, 3) := by decide +kernel
theorem d_M_digest_288 : decode u_M_digest.2.1 288 = .ok (.i2l, 1) := by decide +kernel
theorem d_M_digest_289 : decode u_M_digest.2.1 289 = .ok (.ladd, 1) := by decide +kernel
theorem d_M_digest_290 : decode u_M_digest.2.1 290 = .ok (.lstore_n 1, 1) := by decide +kernel
theorem d_M_digest_291 : decode u_M_digest.2.1 291 = .ok (.ldc2_w 272, 3) := by decide +kernel
theorem d_M_digest_294 : decode u_M_digest.2.1 294 = .ok (.lload_n 1, 1) := by decide +kernel
theorem d_M_digest_295 : decode u_M_digest.2.1 295 = .ok (.lmul, 1) := by decide +kernel
theorem d_M_digest_296 : decode u_M_digest.2.1 296 = .ok (.aload_n 0, 1) := by decide +kernel
theorem d_M_digest_297 : decode u_M_digest.2.1 297 = .ok (.iload_n 3, 1) := by decide +kernel
theorem d_M_digest_298 : decode u_M_digest.2.1 298 = .ok (.iload 4, 2) := by decide +kernel
theorem d_M_digest_300 : decode u_M_digest.2.1 300 = .ok (.iconst 1, 1) := by decide +kernel
theorem d_M_digest_301 : decode u_M_digest.2.1 301 = .ok (.invokevirtual 244, 3) := by decide +kernel
theorem d_M_digest_304 : decode u_M_digest.2.1 304 = .ok (.i2l, 1) := by decide +kernel
theorem d_M_digest_305 : decode u_M_digest.2.1 305 = .ok (.ladd, 1) := by decide +kernel
theorem d_M_digest_306 : decode u_M_digest.2.1 306 = .ok (.lstore_n 1, 1) := by decide +kernel
theorem d_M_digest_307 : decode u_M_digest.2.1 307 = .ok (.iinc 4 1, 3) := by decide +kernel
theorem d_M_digest_310 : decode u_M_digest.2.1 310 = .ok (.goto (-44), 3) := by decide +kernel
theorem d_M_digest_313 : decode u_M_digest.2.1 313 = .ok (.iinc 3 1, 3) := by decide +kernel
theorem d_M_digest_316 : decode u_M_digest.2.1 316 = .ok (.goto (-97), 3) := by decide +kernel
theorem d_M_digest_319 : decode u_M_digest.2.1 319 = .ok (.lload_n 1, 1) := by decide +kernel
theorem d_M_digest_320 : decode u_M_digest.2.1 320 = .ok (.lreturn, 1) := by decide +kernel
theorem d_J_bitCount_0 : decode u_J_bitCount.2.1 0 = .ok (.iload_n 0, 1) := by decide +kernel
theorem d_J_bitCount_1 : decode u_J_bitCount.2.1 1 = .ok (.iload_n 0, 1) := by decide +kernel
theorem d_J_bitCount_2 : decode u_J_bitCount.2.1 2 = .ok (.iconst 1, 1) := by decide +kernel
theorem d_J_bitCount_3 : decode u_J_bitCount.2.1 3 = .ok (.iushr, 1) := by decide +kernel
theorem d_J_bitCount_4 : decode u_J_bitCount.2.1 4 = .ok (.ldc_w 265, 3) := by decide +kernel
theorem d_J_bitCount_7 : decode u_J_bitCount.2.1 7 = .ok (.iand, 1) := by decide +kernel
theorem d_J_bitCount_8 : decode u_J_bitCount.2.1 8 = .ok (.isub, 1) := by decide +kernel
theorem d_J_bitCount_9 : decode u_J_bitCount.2.1 9 = .ok (.istore_n 0, 1) := by decide +kernel
theorem d_J_bitCount_10 : decode u_J_bitCount.2.1 10 = .ok (.iload_n 0, 1) := by decide +kernel
theorem d_J_bitCount_11 : decode u_J_bitCount.2.1 11 = .ok (.ldc_w 266, 3) := by decide +kernel
theorem d_J_bitCount_14 : decode u_J_bitCount.2.1 14 = .ok (.iand, 1) := by decide +kernel
theorem d_J_bitCount_15 : decode u_J_bitCount.2.1 15 = .ok (.iload_n 0, 1) := by decide +kernel
theorem d_J_bitCount_16 : decode u_J_bitCount.2.1 16 = .ok (.iconst 2, 1) := by decide +kernel
theorem d_J_bitCount_17 : decode u_J_bitCount.2.1 17 = .ok (.iushr, 1) := by decide +kernel
theorem d_J_bitCount_18 : decode u_J_bitCount.2.1 18 = .ok (.ldc_w 266, 3) := by decide +kernel
theorem d_J_bitCount_21 : decode u_J_bitCount.2.1 21 = .ok (.iand, 1) := by decide +kernel
theorem d_J_bitCount_22 : decode u_J_bitCount.2.1 22 = .ok (.iadd, 1) := by decide +kernel
theorem d_J_bitCount_23 : decode u_J_bitCount.2.1 23 = .ok (.istore_n 0, 1) := by decide +kernel
theorem d_J_bitCount_24 : decode u_J_bitCount.2.1 24 = .ok (.iload_n 0, 1) := by decide +kernel
theorem d_J_bitCount_25 : decode u_J_bitCount.2.1 25 = .ok (.iload_n 0, 1) := by decide +kernel
theorem d_J_bitCount_26 : decode u_J_bitCount.2.1 26 = .ok (.iconst 4, 1) := by decide +kernel
theorem d_J_bitCount_27 : decode u_J_bitCount.2.1 27 = .ok (.iushr, 1) := by decide +kernel
theorem d_J_bitCount_28 : decode u_J_bitCount.2.1 28 = .ok (.iadd, 1) := by decide +kernel
theorem d_J_bitCount_29 : decode u_J_bitCount.2.1 29 = .ok (.ldc_w 267, 3) := by decide +kernel
theorem d_J_bitCount_32 : decode u_J_bitCount.2.1 32 = .ok (.iand, 1) := by decide +kernel
theorem d_J_bitCount_33 : decode u_J_bitCount.2.1 33 = .ok (.istore_n 0, 1) := by decide +kernel
theorem d_J_bitCount_34 : decode u_J_bitCount.2.1 34 = .ok (.iload_n 0, 1) := by decide +kernel
theorem d_J_bitCount_35 : decode u_J_bitCount.2.1 35 = .ok (.iload_n 0, 1) := by decide +kernel
theorem d_J_bitCount_36 : decode u_J_bitCount.2.1 36 = .ok (.bipush 8, 2) := by decide +kernel
theorem d_J_bitCount_38 : decode u_J_bitCount.2.1 38 = .ok (.iushr, 1) := by decide +kernel
theorem d_J_bitCount_39 : decode u_J_bitCount.2.1 39 = .ok (.iadd, 1) := by decide +kernel
theorem d_J_bitCount_40 : decode u_J_bitCount.2.1 40 = .ok (.istore_n 0, 1) := by decide +kernel
theorem d_J_bitCount_41 : decode u_J_bitCount.2.1 41 = .ok (.iload_n 0, 1) := by decide +kernel
theorem d_J_bitCount_42 : decode u_J_bitCount.2.1 42 = .ok (.iload_n 0, 1) := by decide +kernel
theorem d_J_bitCount_43 : decode u_J_bitCount.2.1 43 = .ok (.bipush 16, 2) := by decide +kernel
theorem d_J_bitCount_45 : decode u_J_bitCount.2.1 45 = .ok (.iushr, 1) := by decide +kernel
theorem d_J_bitCount_46 : decode u_J_bitCount.2.1 46 = .ok (.iadd, 1) := by decide +kernel
theorem d_J_bitCount_47 : decode u_J_bitCount.2.1 47 = .ok (.istore_n 0, 1) := by decide +kernel
theorem d_J_bitCount_48 : decode u_J_bitCount.2.1 48 = .ok (.iload_n 0, 1) := by decide +kernel
theorem d_J_bitCount_49 : decode u_J_bitCount.2.1 49 = .ok (.bipush 63, 2) := by decide +kernel
theorem d_J_bitCount_51 : decode u_J_bitCount.2.1 51 = .ok (.iand, 1) := by decide +kernel
theorem d_J_bitCount_52 : decode u_J_bitCount.2.1 52 = .ok (.ireturn, 1) := by decide +kernel
theorem d_J_abs_I_0 : decode u_J_abs_I.2.1 0 = .ok (.iload_n 0, 1) := by decide +kernel
theorem d_J_abs_I_1 : decode u_J_abs_I.2.1 1 = .ok (.ifCond .ge 8, 3) := by decide +kernel
theorem d_J_abs_I_4 : decode u_J_abs_I.2.1 4 = .ok (.iload_n 0, 1) := by decide +kernel
theorem d_J_abs_I_5 : decode u_J_abs_I.2.1 5 = .ok (.ineg, 1) := by decide +kernel
theorem d_J_abs_I_6 : decode u_J_abs_I.2.1 6 = .ok (.goto 4, 3) := by decide +kernel
theorem d_J_abs_I_9 : decode u_J_abs_I.2.1 9 = .ok (.iload_n 0, 1) := by decide +kernel
theorem d_J_abs_I_10 : decode u_J_abs_I.2.1 10 = .ok (.ireturn, 1) := by decide +kernel
theorem d_J_abs_J_0 : decode u_J_abs_J.2.1 0 = .ok (.lload_n 0, 1) := by decide +kernel
theorem d_J_abs_J_1 : decode u_J_abs_J.2.1 1 = .ok (.lconst 0, 1) := by decide +kernel
theorem d_J_abs_J_2 : decode u_J_abs_J.2.1 2 = .ok (.lcmp, 1) := by decide +kernel
theorem d_J_abs_J_3 : decode u_J_abs_J.2.1 3 = .ok (.ifCond .ge 8, 3) := by decide +kernel
theorem d_J_abs_J_6 : decode u_J_abs_J.2.1 6 = .ok (.lload_n 0, 1) := by decide +kernel
theorem d_J_abs_J_7 : decode u_J_abs_J.2.1 7 = .ok (.lneg, 1) := by decide +kernel
theorem d_J_abs_J_8 : decode u_J_abs_J.2.1 8 = .ok (.goto 4, 3) := by decide +kernel
theorem d_J_abs_J_11 : decode u_J_abs_J.2.1 11 = .ok (.lload_n 0, 1) := by decide +kernel
theorem d_J_abs_J_12 : decode u_J_abs_J.2.1 12 = .ok (.lreturn, 1) := by decide +kernel
theorem d_J_max_II_0 : decode u_J_max_II.2.1 0 = .ok (.iload_n 0, 1) := by decide +kernel
theorem d_J_max_II_1 : decode u_J_max_II.2.1 1 = .ok (.iload_n 1, 1) := by decide +kernel
theorem d_J_max_II_2 : decode u_J_max_II.2.1 2 = .ok (.if_icmp .lt 7, 3) := by decide +kernel
theorem d_J_max_II_5 : decode u_J_max_II.2.1 5 = .ok (.iload_n 0, 1) := by decide +kernel
theorem d_J_max_II_6 : decode u_J_max_II.2.1 6 = .ok (.goto 4, 3) := by decide +kernel
theorem d_J_max_II_9 : decode u_J_max_II.2.1 9 = .ok (.iload_n 1, 1) := by decide +kernel
theorem d_J_max_II_10 : decode u_J_max_II.2.1 10 = .ok (.ireturn, 1) := by decide +kernel
theorem d_J_max_JJ_0 : decode u_J_max_JJ.2.1 0 = .ok (.lload_n 0, 1) := by decide +kernel
theorem d_J_max_JJ_1 : decode u_J_max_JJ.2.1 1 = .ok (.lload_n 2, 1) := by decide +kernel
theorem d_J_max_JJ_2 : decode u_J_max_JJ.2.1 2 = .ok (.lcmp, 1) := by decide +kernel
theorem d_J_max_JJ_3 : decode u_J_max_JJ.2.1 3 = .ok (.ifCond .lt 7, 3) := by decide +kernel
theorem d_J_max_JJ_6 : decode u_J_max_JJ.2.1 6 = .ok (.lload_n 0, 1) := by decide +kernel
theorem d_J_max_JJ_7 : decode u_J_max_JJ.2.1 7 = .ok (.goto 4, 3) := by decide +kernel
theorem d_J_max_JJ_10 : decode u_J_max_JJ.2.1 10 = .ok (.lload_n 2, 1) := by decide +kernel
theorem d_J_max_JJ_11 : decode u_J_max_JJ.2.1 11 = .ok (.lreturn, 1) := by decide +kernel
theorem d_J_min_0 : decode u_J_min.2.1 0 = .ok (.iload_n 0, 1) := by decide +kernel
theorem d_J_min_1 : decode u_J_min.2.1 1 = .ok (.iload_n 1, 1) := by decide +kernel
theorem d_J_min_2 : decode u_J_min.2.1 2 = .ok (.if_icmp .gt 7, 3) := by decide +kernel
theorem d_J_min_5 : decode u_J_min.2.1 5 = .ok (.iload_n 0, 1) := by decide +kernel
theorem d_J_min_6 : decode u_J_min.2.1 6 = .ok (.goto 4, 3) := by decide +kernel
theorem d_J_min_9 : decode u_J_min.2.1 9 = .ok (.iload_n 1, 1) := by decide +kernel
theorem d_J_min_10 : decode u_J_min.2.1 10 = .ok (.ireturn, 1) := by decide +kernel
theorem d_J_fill_0 : decode u_J_fill.2.1 0 = .ok (.iconst 0, 1) := by decide +kernel
theorem d_J_fill_1 : decode u_J_fill.2.1 1 = .ok (.istore_n 2, 1) := by decide +kernel
theorem d_J_fill_2 : decode u_J_fill.2.1 2 = .ok (.aload_n 0, 1) := by decide +kernel
theorem d_J_fill_3 : decode u_J_fill.2.1 3 = .ok (.arraylength, 1) := by decide +kernel
theorem d_J_fill_4 : decode u_J_fill.2.1 4 = .ok (.istore_n 3, 1) := by decide +kernel
theorem d_J_fill_5 : decode u_J_fill.2.1 5 = .ok (.iload_n 2, 1) := by decide +kernel
theorem d_J_fill_6 : decode u_J_fill.2.1 6 = .ok (.iload_n 3, 1) := by decide +kernel
theorem d_J_fill_7 : decode u_J_fill.2.1 7 = .ok (.if_icmp .ge 13, 3) := by decide +kernel
theorem d_J_fill_10 : decode u_J_fill.2.1 10 = .ok (.aload_n 0, 1) := by decide +kernel
theorem d_J_fill_11 : decode u_J_fill.2.1 11 = .ok (.iload_n 2, 1) := by decide +kernel
theorem d_J_fill_12 : decode u_J_fill.2.1 12 = .ok (.iload_n 1, 1) := by decide +kernel
theorem d_J_fill_13 : decode u_J_fill.2.1 13 = .ok (.iastore, 1) := by decide +kernel
theorem d_J_fill_14 : decode u_J_fill.2.1 14 = .ok (.iinc 2 1, 3) := by decide +kernel
theorem d_J_fill_17 : decode u_J_fill.2.1 17 = .ok (.goto (-12), 3) := by decide +kernel
theorem d_J_fill_20 : decode u_J_fill.2.1 20 = .ok (.return_, 1) := by decide +kernel
