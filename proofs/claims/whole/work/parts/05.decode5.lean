theorem d_M_knower_28 : decode u_M_knower.2.1 28 = .ok (.ireturn, 1) := by decide +kernel
theorem d_M_knower_29 : decode u_M_knower.2.1 29 = .ok (.aload_n 0, 1) := by decide +kernel
theorem d_M_knower_30 : decode u_M_knower.2.1 30 = .ok (.getfield 190, 3) := by decide +kernel
theorem d_M_knower_33 : decode u_M_knower.2.1 33 = .ok (.iconst 4, 1) := by decide +kernel
theorem d_M_knower_34 : decode u_M_knower.2.1 34 = .ok (.if_icmp .ne 6, 3) := by decide +kernel
theorem d_M_knower_37 : decode u_M_knower.2.1 37 = .ok (.bipush (-4), 2) := by decide +kernel
theorem d_M_knower_39 : decode u_M_knower.2.1 39 = .ok (.ireturn, 1) := by decide +kernel
theorem d_M_knower_40 : decode u_M_knower.2.1 40 = .ok (.iconst 0, 1) := by decide +kernel
theorem d_M_knower_41 : decode u_M_knower.2.1 41 = .ok (.istore_n 3, 1) := by decide +kernel
theorem d_M_knower_42 : decode u_M_knower.2.1 42 = .ok (.iload_n 3, 1) := by decide +kernel
theorem d_M_knower_43 : decode u_M_knower.2.1 43 = .ok (.bipush 8, 2) := by decide +kernel
theorem d_M_knower_45 : decode u_M_knower.2.1 45 = .ok (.if_icmp .ge 29, 3) := by decide +kernel
theorem d_M_knower_48 : decode u_M_knower.2.1 48 = .ok (.aload_n 0, 1) := by decide +kernel
theorem d_M_knower_49 : decode u_M_knower.2.1 49 = .ok (.getfield 58, 3) := by decide +kernel
theorem d_M_knower_52 : decode u_M_knower.2.1 52 = .ok (.bipush 8, 2) := by decide +kernel
theorem d_M_knower_54 : decode u_M_knower.2.1 54 = .ok (.aload_n 0, 1) := by decide +kernel
theorem d_M_knower_55 : decode u_M_knower.2.1 55 = .ok (.getfield 190, 3) := by decide +kernel
theorem d_M_knower_58 : decode u_M_knower.2.1 58 = .ok (.imul, 1) := by decide +kernel
theorem d_M_knower_59 : decode u_M_knower.2.1 59 = .ok (.iload_n 3, 1) := by decide +kernel
theorem d_M_knower_60 : decode u_M_knower.2.1 60 = .ok (.iadd, 1) := by decide +kernel
theorem d_M_knower_61 : decode u_M_knower.2.1 61 = .ok (.aload_n 0, 1) := by decide +kernel
theorem d_M_knower_62 : decode u_M_knower.2.1 62 = .ok (.iload_n 1, 1) := by decide +kernel
theorem d_M_knower_63 : decode u_M_knower.2.1 63 = .ok (.iload_n 3, 1) := by decide +kernel
theorem d_M_knower_64 : decode u_M_knower.2.1 64 = .ok (.invokevirtual 117, 3) := by decide +kernel
theorem d_M_knower_67 : decode u_M_knower.2.1 67 = .ok (.iastore, 1) := by decide +kernel
theorem d_M_knower_68 : decode u_M_knower.2.1 68 = .ok (.iinc 3 1, 3) := by decide +kernel
theorem d_M_knower_71 : decode u_M_knower.2.1 71 = .ok (.goto (-29), 3) := by decide +kernel
theorem d_M_knower_74 : decode u_M_knower.2.1 74 = .ok (.aload_n 0, 1) := by decide +kernel
theorem d_M_knower_75 : decode u_M_knower.2.1 75 = .ok (.getfield 55, 3) := by decide +kernel
theorem d_M_knower_78 : decode u_M_knower.2.1 78 = .ok (.aload_n 0, 1) := by decide +kernel
theorem d_M_knower_79 : decode u_M_knower.2.1 79 = .ok (.getfield 190, 3) := by decide +kernel
theorem d_M_knower_82 : decode u_M_knower.2.1 82 = .ok (.iload_n 2, 1) := by decide +kernel
theorem d_M_knower_83 : decode u_M_knower.2.1 83 = .ok (.iastore, 1) := by decide +kernel
theorem d_M_knower_84 : decode u_M_knower.2.1 84 = .ok (.aload_n 0, 1) := by decide +kernel
theorem d_M_knower_85 : decode u_M_knower.2.1 85 = .ok (.dup, 1) := by decide +kernel
theorem d_M_knower_86 : decode u_M_knower.2.1 86 = .ok (.getfield 190, 3) := by decide +kernel
theorem d_M_knower_89 : decode u_M_knower.2.1 89 = .ok (.iconst 1, 1) := by decide +kernel
theorem d_M_knower_90 : decode u_M_knower.2.1 90 = .ok (.iadd, 1) := by decide +kernel
theorem d_M_knower_91 : decode u_M_knower.2.1 91 = .ok (.putfield 190, 3) := by decide +kernel
theorem d_M_knower_94 : decode u_M_knower.2.1 94 = .ok (.aload_n 0, 1) := by decide +kernel
theorem d_M_knower_95 : decode u_M_knower.2.1 95 = .ok (.getfield 190, 3) := by decide +kernel
theorem d_M_knower_98 : decode u_M_knower.2.1 98 = .ok (.iconst 1, 1) := by decide +kernel
theorem d_M_knower_99 : decode u_M_knower.2.1 99 = .ok (.isub, 1) := by decide +kernel
theorem d_M_knower_100 : decode u_M_knower.2.1 100 = .ok (.ireturn, 1) := by decide +kernel
theorem d_M_look_0 : decode u_M_look.2.1 0 = .ok (.aload_n 0, 1) := by decide +kernel
theorem d_M_look_1 : decode u_M_look.2.1 1 = .ok (.iload_n 1, 1) := by decide +kernel
theorem d_M_look_2 : decode u_M_look.2.1 2 = .ok (.invokevirtual 193, 3) := by decide +kernel
theorem d_M_look_5 : decode u_M_look.2.1 5 = .ok (.ifCond .eq 23, 3) := by decide +kernel
theorem d_M_look_8 : decode u_M_look.2.1 8 = .ok (.aload_n 0, 1) := by decide +kernel
theorem d_M_look_9 : decode u_M_look.2.1 9 = .ok (.iload_n 2, 1) := by decide +kernel
theorem d_M_look_10 : decode u_M_look.2.1 10 = .ok (.invokevirtual 163, 3) := by decide +kernel
theorem d_M_look_13 : decode u_M_look.2.1 13 = .ok (.ifCond .eq 15, 3) := by decide +kernel
theorem d_M_look_16 : decode u_M_look.2.1 16 = .ok (.iload_n 3, 1) := by decide +kernel
theorem d_M_look_17 : decode u_M_look.2.1 17 = .ok (.i2l, 1) := by decide +kernel
theorem d_M_look_18 : decode u_M_look.2.1 18 = .ok (.lconst 0, 1) := by decide +kernel
theorem d_M_look_19 : decode u_M_look.2.1 19 = .ok (.ldc2_w 155, 3) := by decide +kernel
theorem d_M_look_22 : decode u_M_look.2.1 22 = .ok (.invokestatic 69, 3) := by decide +kernel
theorem d_M_look_25 : decode u_M_look.2.1 25 = .ok (.ifCond .ne 6, 3) := by decide +kernel
theorem d_M_look_28 : decode u_M_look.2.1 28 = .ok (.bipush (-2), 2) := by decide +kernel
theorem d_M_look_30 : decode u_M_look.2.1 30 = .ok (.ireturn, 1) := by decide +kernel
theorem d_M_look_31 : decode u_M_look.2.1 31 = .ok (.iconst 0, 1) := by decide +kernel
theorem d_M_look_32 : decode u_M_look.2.1 32 = .ok (.istore 4, 2) := by decide +kernel
theorem d_M_look_34 : decode u_M_look.2.1 34 = .ok (.iload 4, 2) := by decide +kernel
theorem d_M_look_36 : decode u_M_look.2.1 36 = .ok (.bipush 8, 2) := by decide +kernel
theorem d_M_look_38 : decode u_M_look.2.1 38 = .ok (.if_icmp .ge 80, 3) := by decide +kernel
theorem d_M_look_41 : decode u_M_look.2.1 41 = .ok (.aload_n 0, 1) := by decide +kernel
theorem d_M_look_42 : decode u_M_look.2.1 42 = .ok (.getfield 49, 3) := by decide +kernel
theorem d_M_look_45 : decode u_M_look.2.1 45 = .ok (.bipush 8, 2) := by decide +kernel
theorem d_M_look_47 : decode u_M_look.2.1 47 = .ok (.iload_n 2, 1) := by decide +kernel
theorem d_M_look_48 : decode u_M_look.2.1 48 = .ok (.imul, 1) := by decide +kernel
theorem d_M_look_49 : decode u_M_look.2.1 49 = .ok (.iload 4, 2) := by decide +kernel
theorem d_M_look_51 : decode u_M_look.2.1 51 = .ok (.iadd, 1) := by decide +kernel
theorem d_M_look_52 : decode u_M_look.2.1 52 = .ok (.iaload, 1) := by decide +kernel
theorem d_M_look_53 : decode u_M_look.2.1 53 = .ok (.istore 5, 2) := by decide +kernel
theorem d_M_look_55 : decode u_M_look.2.1 55 = .ok (.iload 5, 2) := by decide +kernel
theorem d_M_look_57 : decode u_M_look.2.1 57 = .ok (.aload_n 0, 1) := by decide +kernel
theorem d_M_look_58 : decode u_M_look.2.1 58 = .ok (.getfield 58, 3) := by decide +kernel
theorem d_M_look_61 : decode u_M_look.2.1 61 = .ok (.bipush 8, 2) := by decide +kernel
theorem d_M_look_63 : decode u_M_look.2.1 63 = .ok (.iload_n 1, 1) := by decide +kernel
theorem d_M_look_64 : decode u_M_look.2.1 64 = .ok (.imul, 1) := by decide +kernel
theorem d_M_look_65 : decode u_M_look.2.1 65 = .ok (.iload 4, 2) := by decide +kernel
theorem d_M_look_67 : decode u_M_look.2.1 67 = .ok (.iadd, 1) := by decide +kernel
theorem d_M_look_68 : decode u_M_look.2.1 68 = .ok (.iaload, 1) := by decide +kernel
theorem d_M_look_69 : decode u_M_look.2.1 69 = .ok (.isub, 1) := by decide +kernel
theorem d_M_look_70 : decode u_M_look.2.1 70 = .ok (.istore 6, 2) := by decide +kernel
theorem d_M_look_72 : decode u_M_look.2.1 72 = .ok (.aload_n 0, 1) := by decide +kernel
theorem d_M_look_73 : decode u_M_look.2.1 73 = .ok (.getfield 58, 3) := by decide +kernel
theorem d_M_look_76 : decode u_M_look.2.1 76 = .ok (.bipush 8, 2) := by decide +kernel
theorem d_M_look_78 : decode u_M_look.2.1 78 = .ok (.iload_n 1, 1) := by decide +kernel
theorem d_M_look_79 : decode u_M_look.2.1 79 = .ok (.imul, 1) := by decide +kernel
theorem d_M_look_80 : decode u_M_look.2.1 80 = .ok (.iload 4, 2) := by decide +kernel
theorem d_M_look_82 : decode u_M_look.2.1 82 = .ok (.iadd, 1) := by decide +kernel
theorem d_M_look_83 : decode u_M_look.2.1 83 = .ok (.dup2, 1) := by decide +kernel
theorem d_M_look_84 : decode u_M_look.2.1 84 = .ok (.iaload, 1) := by decide +kernel
theorem d_M_look_85 : decode u_M_look.2.1 85 = .ok (.iload 5, 2) := by decide +kernel
theorem d_M_look_87 : decode u_M_look.2.1 87 = .ok (.sipush (-9999), 3) := by decide +kernel
theorem d_M_look_90 : decode u_M_look.2.1 90 = .ok (.if_icmp .ne 7, 3) := by decide +kernel
theorem d_M_look_93 : decode u_M_look.2.1 93 = .ok (.iconst 0, 1) := by decide +kernel
theorem d_M_look_94 : decode u_M_look.2.1 94 = .ok (.goto 16, 3) := by decide +kernel
theorem d_M_look_97 : decode u_M_look.2.1 97 = .ok (.iload 6, 2) := by decide +kernel
theorem d_M_look_99 : decode u_M_look.2.1 99 = .ok (.iload_n 3, 1) := by decide +kernel
theorem d_M_look_100 : decode u_M_look.2.1 100 = .ok (.imul, 1) := by decide +kernel
theorem d_M_look_101 : decode u_M_look.2.1 101 = .ok (.iload_n 3, 1) := by decide +kernel
theorem d_M_look_102 : decode u_M_look.2.1 102 = .ok (.aload_n 0, 1) := by decide +kernel
theorem d_M_look_103 : decode u_M_look.2.1 103 = .ok (.getfield 34, 3) := by decide +kernel
theorem d_M_look_106 : decode u_M_look.2.1 106 = .ok (.iconst 1, 1) := by decide +kernel
theorem d_M_look_107 : decode u_M_look.2.1 107 = .ok (.iaload, 1) := by decide +kernel
theorem d_M_look_108 : decode u_M_look.2.1 108 = .ok (.iadd, 1) := by decide +kernel
theorem d_M_look_109 : decode u_M_look.2.1 109 = .ok (.idiv, 1) := by decide +kernel
theorem d_M_look_110 : decode u_M_look.2.1 110 = .ok (.iadd, 1) := by decide +kernel
theorem d_M_look_111 : decode u_M_look.2.1 111 = .ok (.iastore, 1) := by decide +kernel
theorem d_M_look_112 : decode u_M_look.2.1 112 = .ok (.iinc 4 1, 3) := by decide +kernel
theorem d_M_look_115 : decode u_M_look.2.1 115 = .ok (.goto (-81), 3) := by decide +kernel
theorem d_M_look_118 : decode u_M_look.2.1 118 = .ok (.iconst 1, 1) := by decide +kernel
theorem d_M_look_119 : decode u_M_look.2.1 119 = .ok (.ireturn, 1) := by decide +kernel
theorem d_M_leans_0 : decode u_M_leans.2.1 0 = .ok (.aload_n 0, 1) := by decide +kernel
theorem d_M_leans_1 : decode u_M_leans.2.1 1 = .ok (.iload_n 1, 1) := by decide +kernel
theorem d_M_leans_2 : decode u_M_leans.2.1 2 = .ok (.invokevirtual 193, 3) := by decide +kernel
theorem d_M_leans_5 : decode u_M_leans.2.1 5 = .ok (.ifCond .eq 24, 3) := by decide +kernel
theorem d_M_leans_8 : decode u_M_leans.2.1 8 = .ok (.iload_n 2, 1) := by decide +kernel
theorem d_M_leans_9 : decode u_M_leans.2.1 9 = .ok (.invokestatic 106, 3) := by decide +kernel
theorem d_M_leans_12 : decode u_M_leans.2.1 12 = .ok (.ifCond .eq 17, 3) := by decide +kernel
theorem d_M_leans_15 : decode u_M_leans.2.1 15 = .ok (.aload_n 0, 1) := by decide +kernel
theorem d_M_leans_16 : decode u_M_leans.2.1 16 = .ok (.getfield 58, 3) := by decide +kernel
theorem d_M_leans_19 : decode u_M_leans.2.1 19 = .ok (.bipush 8, 2) := by decide +kernel
theorem d_M_leans_21 : decode u_M_leans.2.1 21 = .ok (.iload_n 1, 1) := by decide +kernel
theorem d_M_leans_22 : decode u_M_leans.2.1 22 = .ok (.imul, 1) := by decide +kernel
theorem d_M_leans_23 : decode u_M_leans.2.1 23 = .ok (.iload_n 2, 1) := by decide +kernel
theorem d_M_leans_24 : decode u_M_leans.2.1 24 = .ok (.iadd, 1) := by decide +kernel
theorem d_M_leans_25 : decode u_M_leans.2.1 25 = .ok (.iaload, 1) := by decide +kernel
theorem d_M_leans_26 : decode u_M_leans.2.1 26 = .ok (.goto 8, 3) := by decide +kernel
theorem d_M_leans_29 : decode u_M_leans.2.1 29 = .ok (.bipush (-2), 2) := by decide +kernel
theorem d_M_leans_31 : decode u_M_leans.2.1 31 = .ok (.invokestatic 149, 3) := by decide +kernel
theorem d_M_leans_34 : decode u_M_leans.2.1 34 = .ok (.ireturn, 1) := by decide +kernel
theorem d_M_sees_I_0 : decode u_M_sees_I.2.1 0 = .ok (.iconst 0, 1) := by decide +kernel
theorem d_M_sees_I_1 : decode u_M_sees_I.2.1 1 = .ok (.istore_n 2, 1) := by decide +kernel
theorem d_M_sees_I_2 : decode u_M_sees_I.2.1 2 = .ok (.iload_n 2, 1) := by decide +kernel
theorem d_M_sees_I_3 : decode u_M_sees_I.2.1 3 = .ok (.bipush 8, 2) := by decide +kernel
theorem d_M_sees_I_5 : decode u_M_sees_I.2.1 5 = .ok (.if_icmp .ge 26, 3) := by decide +kernel
theorem d_M_sees_I_8 : decode u_M_sees_I.2.1 8 = .ok (.aload_n 0, 1) := by decide +kernel
theorem d_M_sees_I_9 : decode u_M_sees_I.2.1 9 = .ok (.getfield 61, 3) := by decide +kernel
theorem d_M_sees_I_12 : decode u_M_sees_I.2.1 12 = .ok (.iload_n 2, 1) := by decide +kernel
theorem d_M_sees_I_13 : decode u_M_sees_I.2.1 13 = .ok (.aload_n 0, 1) := by decide +kernel
theorem d_M_sees_I_14 : decode u_M_sees_I.2.1 14 = .ok (.getfield 49, 3) := by decide +kernel
theorem d_M_sees_I_17 : decode u_M_sees_I.2.1 17 = .ok (.bipush 8, 2) := by decide +kernel
theorem d_M_sees_I_19 : decode u_M_sees_I.2.1 19 = .ok (.iload_n 1, 1) := by decide +kernel
theorem d_M_sees_I_20 : decode u_M_sees_I.2.1 20 = .ok (.imul, 1) := by decide +kernel
theorem d_M_sees_I_21 : decode u_M_sees_I.2.1 21 = .ok (.iload_n 2, 1) := by decide +kernel
theorem d_M_sees_I_22 : decode u_M_sees_I.2.1 22 = .ok (.iadd, 1) := by decide +kernel
theorem d_M_sees_I_23 : decode u_M_sees_I.2.1 23 = .ok (.iaload, 1) := by decide +kernel
theorem d_M_sees_I_24 : decode u_M_sees_I.2.1 24 = .ok (.iastore, 1) := by decide +kernel
theorem d_M_sees_I_25 : decode u_M_sees_I.2.1 25 = .ok (.iinc 2 1, 3) := by decide +kernel
theorem d_M_sees_I_28 : decode u_M_sees_I.2.1 28 = .ok (.goto (-26), 3) := by decide +kernel
theorem d_M_sees_I_31 : decode u_M_sees_I.2.1 31 = .ok (.aload_n 0, 1) := by decide +kernel
theorem d_M_sees_I_32 : decode u_M_sees_I.2.1 32 = .ok (.aload_n 0, 1) := by decide +kernel
theorem d_M_sees_I_33 : decode u_M_sees_I.2.1 33 = .ok (.iload_n 1, 1) := by decide +kernel
theorem d_M_sees_I_34 : decode u_M_sees_I.2.1 34 = .ok (.invokevirtual 178, 3) := by decide +kernel
theorem d_M_sees_I_37 : decode u_M_sees_I.2.1 37 = .ok (.putfield 196, 3) := by decide +kernel
theorem d_M_sees_I_40 : decode u_M_sees_I.2.1 40 = .ok (.return_, 1) := by decide +kernel
theorem d_M_sees_IIII_0 : decode u_M_sees_IIII.2.1 0 = .ok (.aload_n 0, 1) := by decide +kernel
theorem d_M_sees_IIII_1 : decode u_M_sees_IIII.2.1 1 = .ok (.iconst 0, 1) := by decide +kernel
theorem d_M_sees_IIII_2 : decode u_M_sees_IIII.2.1 2 = .ok (.putfield 196, 3) := by decide +kernel
theorem d_M_sees_IIII_5 : decode u_M_sees_IIII.2.1 5 = .ok (.iconst 0, 1) := by decide +kernel
theorem d_M_sees_IIII_6 : decode u_M_sees_IIII.2.1 6 = .ok (.istore 5, 2) := by decide +kernel
theorem d_M_sees_IIII_8 : decode u_M_sees_IIII.2.1 8 = .ok (.iload 5, 2) := by decide +kernel
theorem d_M_sees_IIII_10 : decode u_M_sees_IIII.2.1 10 = .ok (.bipush 8, 2) := by decide +kernel
theorem d_M_sees_IIII_12 : decode u_M_sees_IIII.2.1 12 = .ok (.if_icmp .ge 111, 3) := by decide +kernel
theorem d_M_sees_IIII_15 : decode u_M_sees_IIII.2.1 15 = .ok (.aload_n 0, 1) := by decide +kernel
theorem d_M_sees_IIII_16 : decode u_M_sees_IIII.2.1 16 = .ok (.iload_n 2, 1) := by decide +kernel
theorem d_M_sees_IIII_17 : decode u_M_sees_IIII.2.1 17 = .ok (.iload 5, 2) := by decide +kernel
theorem d_M_sees_IIII_19 : decode u_M_sees_IIII.2.1 19 = .ok (.invokevirtual 117, 3) := by decide +kernel
theorem d_M_sees_IIII_22 : decode u_M_sees_IIII.2.1 22 = .ok (.istore 6, 2) := by decide +kernel
theorem d_M_sees_IIII_24 : decode u_M_sees_IIII.2.1 24 = .ok (.aload_n 0, 1) := by decide +kernel
theorem d_M_sees_IIII_25 : decode u_M_sees_IIII.2.1 25 = .ok (.getfield 61, 3) := by decide +kernel
theorem d_M_sees_IIII_28 : decode u_M_sees_IIII.2.1 28 = .ok (.iload 5, 2) := by decide +kernel
theorem d_M_sees_IIII_30 : decode u_M_sees_IIII.2.1 30 = .ok (.iload 4, 2) := by decide +kernel
theorem d_M_sees_IIII_32 : decode u_M_sees_IIII.2.1 32 = .ok (.iload 5, 2) := by decide +kernel
theorem d_M_sees_IIII_34 : decode u_M_sees_IIII.2.1 34 = .ok (.ishr, 1) := by decide +kernel
theorem d_M_sees_IIII_35 : decode u_M_sees_IIII.2.1 35 = .ok (.iconst 1, 1) := by decide +kernel
theorem d_M_sees_IIII_36 : decode u_M_sees_IIII.2.1 36 = .ok (.iand, 1) := by decide +kernel
theorem d_M_sees_IIII_37 : decode u_M_sees_IIII.2.1 37 = .ok (.iconst 1, 1) := by decide +kernel
theorem d_M_sees_IIII_38 : decode u_M_sees_IIII.2.1 38 = .ok (.if_icmp .ne 24, 3) := by decide +kernel
theorem d_M_sees_IIII_41 : decode u_M_sees_IIII.2.1 41 = .ok (.aload_n 0, 1) := by decide +kernel
theorem d_M_sees_IIII_42 : decode u_M_sees_IIII.2.1 42 = .ok (.getfield 22, 3) := by decide +kernel
theorem d_M_sees_IIII_45 : decode u_M_sees_IIII.2.1 45 = .ok (.bipush 8, 2) := by decide +kernel
theorem d_M_sees_IIII_47 : decode u_M_sees_IIII.2.1 47 = .ok (.iload_n 1, 1) := by decide +kernel
theorem d_M_sees_IIII_48 : decode u_M_sees_IIII.2.1 48 = .ok (.imul, 1) := by decide +kernel
theorem d_M_sees_IIII_49 : decode u_M_sees_IIII.2.1 49 = .ok (.iload 5, 2) := by decide +kernel
theorem d_M_sees_IIII_51 : decode u_M_sees_IIII.2.1 51 = .ok (.iadd, 1) := by decide +kernel
theorem d_M_sees_IIII_52 : decode u_M_sees_IIII.2.1 52 = .ok (.iaload, 1) := by decide +kernel
theorem d_M_sees_IIII_53 : decode u_M_sees_IIII.2.1 53 = .ok (.iload 6, 2) := by decide +kernel
theorem d_M_sees_IIII_55 : decode u_M_sees_IIII.2.1 55 = .ok (.iload_n 3, 1) := by decide +kernel
theorem d_M_sees_IIII_56 : decode u_M_sees_IIII.2.1 56 = .ok (.invokestatic 152, 3) := by decide +kernel
theorem d_M_sees_IIII_59 : decode u_M_sees_IIII.2.1 59 = .ok (.goto 6, 3) := by decide +kernel
theorem d_M_sees_IIII_62 : decode u_M_sees_IIII.2.1 62 = .ok (.sipush (-9999), 3) := by decide +kernel
theorem d_M_sees_IIII_65 : decode u_M_sees_IIII.2.1 65 = .ok (.iastore, 1) := by decide +kernel
theorem d_M_sees_IIII_66 : decode u_M_sees_IIII.2.1 66 = .ok (.aload_n 0, 1) := by decide +kernel
theorem d_M_sees_IIII_67 : decode u_M_sees_IIII.2.1 67 = .ok (.aload_n 0, 1) := by decide +kernel
theorem d_M_sees_IIII_68 : decode u_M_sees_IIII.2.1 68 = .ok (.getfield 196, 3) := by decide +kernel
theorem d_M_sees_IIII_71 : decode u_M_sees_IIII.2.1 71 = .ok (.ifCond .ne 38, 3) := by decide +kernel
theorem d_M_sees_IIII_74 : decode u_M_sees_IIII.2.1 74 = .ok (.aload_n 0, 1) := by decide +kernel
theorem d_M_sees_IIII_75 : decode u_M_sees_IIII.2.1 75 = .ok (.getfield 61, 3) := by decide +kernel
theorem d_M_sees_IIII_78 : decode u_M_sees_IIII.2.1 78 = .ok (.iload 5, 2) := by decide +kernel
theorem d_M_sees_IIII_80 : decode u_M_sees_IIII.2.1 80 = .ok (.iaload, 1) := by decide +kernel
theorem d_M_sees_IIII_81 : decode u_M_sees_IIII.2.1 81 = .ok (.sipush (-9999), 3) := by decide +kernel
theorem d_M_sees_IIII_84 : decode u_M_sees_IIII.2.1 84 = .ok (.if_icmp .eq 29, 3) := by decide +kernel
theorem d_M_sees_IIII_87 : decode u_M_sees_IIII.2.1 87 = .ok (.aload_n 0, 1) := by decide +kernel
theorem d_M_sees_IIII_88 : decode u_M_sees_IIII.2.1 88 = .ok (.getfield 61, 3) := by decide +kernel
theorem d_M_sees_IIII_91 : decode u_M_sees_IIII.2.1 91 = .ok (.iload 5, 2) := by decide +kernel
theorem d_M_sees_IIII_93 : decode u_M_sees_IIII.2.1 93 = .ok (.iaload, 1) := by decide +kernel
theorem d_M_sees_IIII_94 : decode u_M_sees_IIII.2.1 94 = .ok (.iload 6, 2) := by decide +kernel
theorem d_M_sees_IIII_96 : decode u_M_sees_IIII.2.1 96 = .ok (.isub, 1) := by decide +kernel
theorem d_M_sees_IIII_97 : decode u_M_sees_IIII.2.1 97 = .ok (.invokestatic 166, 3) := by decide +kernel
theorem d_M_sees_IIII_100 : decode u_M_sees_IIII.2.1 100 = .ok (.aload_n 0, 1) := by decide +kernel
theorem d_M_sees_IIII_101 : decode u_M_sees_IIII.2.1 101 = .ok (.getfield 34, 3) := by decide +kernel
theorem d_M_sees_IIII_104 : decode u_M_sees_IIII.2.1 104 = .ok (.iconst 0, 1) := by decide +kernel
theorem d_M_sees_IIII_105 : decode u_M_sees_IIII.2.1 105 = .ok (.iaload, 1) := by decide +kernel
theorem d_M_sees_IIII_106 : decode u_M_sees_IIII.2.1 106 = .ok (.if_icmp .le 7, 3) := by decide +kernel
theorem d_M_sees_IIII_109 : decode u_M_sees_IIII.2.1 109 = .ok (.iconst 1, 1) := by decide +kernel
theorem d_M_sees_IIII_110 : decode u_M_sees_IIII.2.1 110 = .ok (.goto 4, 3) := by decide +kernel
theorem d_M_sees_IIII_113 : decode u_M_sees_IIII.2.1 113 = .ok (.iconst 0, 1) := by decide +kernel
theorem d_M_sees_IIII_114 : decode u_M_sees_IIII.2.1 114 = .ok (.putfield 196, 3) := by decide +kernel
theorem d_M_sees_IIII_117 : decode u_M_sees_IIII.2.1 117 = .ok (.iinc 5 1, 3) := by decide +kernel
theorem d_M_sees_IIII_120 : decode u_M_sees_IIII.2.1 120 = .ok (.goto (-112), 3) := by decide +kernel
theorem d_M_sees_IIII_123 : decode u_M_sees_IIII.2.1 123 = .ok (.return_, 1) := by decide +kernel
theorem d_M_findScore_0 : decode u_M_findScore.2.1 0 = .ok (.lconst 0, 1) := by decide +kernel
theorem d_M_findScore_1 : decode u_M_findScore.2.1 1 = .ok (.lstore_n 3, 1) := by decide +kernel
theorem d_M_findScore_2 : decode u_M_findScore.2.1 2 = .ok (.lconst 0, 1) := by decide +kernel
theorem d_M_findScore_3 : decode u_M_findScore.2.1 3 = .ok (.lstore 5, 2) := by decide +kernel
theorem d_M_findScore_5 : decode u_M_findScore.2.1 5 = .ok (.iconst 0, 1) := by decide +kernel
theorem d_M_findScore_6 : decode u_M_findScore.2.1 6 = .ok (.istore 7, 2) := by decide +kernel
theorem d_M_findScore_8 : decode u_M_findScore.2.1 8 = .ok (.iload 7, 2) := by decide +kernel
theorem d_M_findScore_10 : decode u_M_findScore.2.1 10 = .ok (.bipush 8, 2) := by decide +kernel
theorem d_M_findScore_12 : decode u_M_findScore.2.1 12 = .ok (.if_icmp .ge 103, 3) := by decide +kernel
theorem d_M_findScore_15 : decode u_M_findScore.2.1 15 = .ok (.aload_n 0, 1) := by decide +kernel
theorem d_M_findScore_16 : decode u_M_findScore.2.1 16 = .ok (.getfield 58, 3) := by decide +kernel
theorem d_M_findScore_19 : decode u_M_findScore.2.1 19 = .ok (.bipush 8, 2) := by decide +kernel
theorem d_M_findScore_21 : decode u_M_findScore.2.1 21 = .ok (.iload_n 1, 1) := by decide +kernel
theorem d_M_findScore_22 : decode u_M_findScore.2.1 22 = .ok (.imul, 1) := by decide +kernel
theorem d_M_findScore_23 : decode u_M_findScore.2.1 23 = .ok (.iload 7, 2) := by decide +kernel
theorem d_M_findScore_25 : decode u_M_findScore.2.1 25 = .ok (.iadd, 1) := by decide +kernel
theorem d_M_findScore_26 : decode u_M_findScore.2.1 26 = .ok (.iaload, 1) := by decide +kernel
theorem d_M_findScore_27 : decode u_M_findScore.2.1 27 = .ok (.i2l, 1) := by decide +kernel
theorem d_M_findScore_28 : decode u_M_findScore.2.1 28 = .ok (.lstore 8, 2) := by decide +kernel
theorem d_M_findScore_30 : decode u_M_findScore.2.1 30 = .ok (.aload_n 0, 1) := by decide +kernel
theorem d_M_findScore_31 : decode u_M_findScore.2.1 31 = .ok (.getfield 22, 3) := by decide +kernel
theorem d_M_findScore_34 : decode u_M_findScore.2.1 34 = .ok (.bipush 8, 2) := by decide +kernel
theorem d_M_findScore_36 : decode u_M_findScore.2.1 36 = .ok (.iload_n 2, 1) := by decide +kernel
theorem d_M_findScore_37 : decode u_M_findScore.2.1 37 = .ok (.imul, 1) := by decide +kernel
theorem d_M_findScore_38 : decode u_M_findScore.2.1 38 = .ok (.iload 7, 2) := by decide +kernel
theorem d_M_findScore_40 : decode u_M_findScore.2.1 40 = .ok (.iadd, 1) := by decide +kernel
theorem d_M_findScore_41 : decode u_M_findScore.2.1 41 = .ok (.iaload, 1) := by decide +kernel
theorem d_M_findScore_42 : decode u_M_findScore.2.1 42 = .ok (.i2l, 1) := by decide +kernel
theorem d_M_findScore_43 : decode u_M_findScore.2.1 43 = .ok (.lload 8, 2) := by decide +kernel
theorem d_M_findScore_45 : decode u_M_findScore.2.1 45 = .ok (.lsub, 1) := by decide +kernel
theorem d_M_findScore_46 : decode u_M_findScore.2.1 46 = .ok (.lstore 10, 2) := by decide +kernel
theorem d_M_findScore_48 : decode u_M_findScore.2.1 48 = .ok (.lload_n 3, 1) := by decide +kernel
theorem d_M_findScore_49 : decode u_M_findScore.2.1 49 = .ok (.aload_n 0, 1) := by decide +kernel
theorem d_M_findScore_50 : decode u_M_findScore.2.1 50 = .ok (.getfield 61, 3) := by decide +kernel
theorem d_M_findScore_53 : decode u_M_findScore.2.1 53 = .ok (.iload 7, 2) := by decide +kernel
theorem d_M_findScore_55 : decode u_M_findScore.2.1 55 = .ok (.iaload, 1) := by decide +kernel
theorem d_M_findScore_56 : decode u_M_findScore.2.1 56 = .ok (.sipush (-9999), 3) := by decide +kernel
theorem d_M_findScore_59 : decode u_M_findScore.2.1 59 = .ok (.if_icmp .ne 7, 3) := by decide +kernel
theorem d_M_findScore_62 : decode u_M_findScore.2.1 62 = .ok (.lconst 0, 1) := by decide +kernel
theorem d_M_findScore_63 : decode u_M_findScore.2.1 63 = .ok (.goto 17, 3) := by decide +kernel
theorem d_M_findScore_66 : decode u_M_findScore.2.1 66 = .ok (.aload_n 0, 1) := by decide +kernel
theorem d_M_findScore_67 : decode u_M_findScore.2.1 67 = .ok (.getfield 61, 3) := by decide +kernel
theorem d_M_findScore_70 : decode u_M_findScore.2.1 70 = .ok (.iload 7, 2) := by decide +kernel
theorem d_M_findScore_72 : decode u_M_findScore.2.1 72 = .ok (.iaload, 1) := by decide +kernel
theorem d_M_findScore_73 : decode u_M_findScore.2.1 73 = .ok (.i2l, 1) := by decide +kernel
theorem d_M_findScore_74 : decode u_M_findScore.2.1 74 = .ok (.lload 8, 2) := by decide +kernel
theorem d_M_findScore_76 : decode u_M_findScore.2.1 76 = .ok (.lsub, 1) := by decide +kernel
theorem d_M_findScore_77 : decode u_M_findScore.2.1 77 = .ok (.lload 10, 2) := by decide +kernel
theorem d_M_findScore_79 : decode u_M_findScore.2.1 79 = .ok (.lmul, 1) := by decide +kernel
theorem d_M_findScore_80 : decode u_M_findScore.2.1 80 = .ok (.ladd, 1) := by decide +kernel
theorem d_M_findScore_81 : decode u_M_findScore.2.1 81 = .ok (.lstore_n 3, 1) := by decide +kernel
theorem d_M_findScore_82 : decode u_M_findScore.2.1 82 = .ok (.lload 5, 2) := by decide +kernel
theorem d_M_findScore_84 : decode u_M_findScore.2.1 84 = .ok (.aload_n 0, 1) := by decide +kernel
theorem d_M_findScore_85 : decode u_M_findScore.2.1 85 = .ok (.getfield 61, 3) := by decide +kernel
theorem d_M_findScore_88 : decode u_M_findScore.2.1 88 = .ok (.iload 7, 2) := by decide +kernel
theorem d_M_findScore_90 : decode u_M_findScore.2.1 90 = .ok (.iaload, 1) := by decide +kernel
theorem d_M_findScore_91 : decode u_M_findScore.2.1 91 = .ok (.sipush (-9999), 3) := by decide +kernel
theorem d_M_findScore_94 : decode u_M_findScore.2.1 94 = .ok (.if_icmp .ne 7, 3) := by decide +kernel
theorem d_M_findScore_97 : decode u_M_findScore.2.1 97 = .ok (.lconst 0, 1) := by decide +kernel
theorem d_M_findScore_98 : decode u_M_findScore.2.1 98 = .ok (.goto 8, 3) := by decide +kernel
theorem d_M_findScore_101 : decode u_M_findScore.2.1 101 = .ok (.lload 10, 2) := by decide +kernel
theorem d_M_findScore_103 : decode u_M_findScore.2.1 103 = .ok (.lload 10, 2) := by decide +kernel
theorem d_M_findScore_105 : decode u_M_findScore.2.1 105 = .ok (.lmul, 1) := by decide +kernel
theorem d_M_findScore_106 : decode u_M_findScore.2.1 106 = .ok (.ladd, 1) := by decide +kernel
theorem d_M_findScore_107 : decode u_M_findScore.2.1 107 = .ok (.lstore 5, 2) := by decide +kernel
theorem d_M_findScore_109 : decode u_M_findScore.2.1 109 = .ok (.iinc 7 1, 3) := by decide +kernel
theorem d_M_findScore_112 : decode u_M_findScore.2.1 112 = .ok (.goto (-104), 3) := by decide +kernel
theorem d_M_findScore_115 : decode u_M_findScore.2.1 115 = .ok (.aload_n 0, 1) := by decide +kernel
theorem d_M_findScore_116 : decode u_M_findScore.2.1 116 = .ok (.lload_n 3, 1) := by decide +kernel
theorem d_M_findScore_117 : decode u_M_findScore.2.1 117 = .ok (.lconst 0, 1) := by decide +kernel
theorem d_M_findScore_118 : decode u_M_findScore.2.1 118 = .ok (.lcmp, 1) := by decide +kernel
theorem d_M_findScore_119 : decode u_M_findScore.2.1 119 = .ok (.ifCond .lt 10, 3) := by decide +kernel
theorem d_M_findScore_122 : decode u_M_findScore.2.1 122 = .ok (.lload 5, 2) := by decide +kernel
theorem d_M_findScore_124 : decode u_M_findScore.2.1 124 = .ok (.lconst 0, 1) := by decide +kernel
theorem d_M_findScore_125 : decode u_M_findScore.2.1 125 = .ok (.lcmp, 1) := by decide +kernel
theorem d_M_findScore_126 : decode u_M_findScore.2.1 126 = .ok (.ifCond .ne 7, 3) := by decide +kernel
theorem d_M_findScore_129 : decode u_M_findScore.2.1 129 = .ok (.lconst 0, 1) := by decide +kernel
theorem d_M_findScore_130 : decode u_M_findScore.2.1 130 = .ok (.goto 6, 3) := by decide +kernel
theorem d_M_findScore_133 : decode u_M_findScore.2.1 133 = .ok (.lload_n 3, 1) := by decide +kernel
theorem d_M_findScore_134 : decode u_M_findScore.2.1 134 = .ok (.lload_n 3, 1) := by decide +kernel
theorem d_M_findScore_135 : decode u_M_findScore.2.1 135 = .ok (.lmul, 1) := by decide +kernel
theorem d_M_findScore_136 : decode u_M_findScore.2.1 136 = .ok (.putfield 200, 3) := by decide +kernel
theorem d_M_findScore_139 : decode u_M_findScore.2.1 139 = .ok (.aload_n 0, 1) := by decide +kernel
theorem d_M_findScore_140 : decode u_M_findScore.2.1 140 = .ok (.lload 5, 2) := by decide +kernel
theorem d_M_findScore_142 : decode u_M_findScore.2.1 142 = .ok (.lconst 0, 1) := by decide +kernel
theorem d_M_findScore_143 : decode u_M_findScore.2.1 143 = .ok (.lcmp, 1) := by decide +kernel
theorem d_M_findScore_144 : decode u_M_findScore.2.1 144 = .ok (.ifCond .ne 7, 3) := by decide +kernel
theorem d_M_findScore_147 : decode u_M_findScore.2.1 147 = .ok (.lconst 1, 1) := by decide +kernel
theorem d_M_findScore_148 : decode u_M_findScore.2.1 148 = .ok (.goto 5, 3) := by decide +kernel
theorem d_M_findScore_151 : decode u_M_findScore.2.1 151 = .ok (.lload 5, 2) := by decide +kernel
theorem d_M_findScore_153 : decode u_M_findScore.2.1 153 = .ok (.putfield 204, 3) := by decide +kernel
theorem d_M_findScore_156 : decode u_M_findScore.2.1 156 = .ok (.return_, 1) := by decide +kernel
theorem d_M_divisor_0 : decode u_M_divisor.2.1 0 = .ok (.lload_n 0, 1) := by decide +kernel
theorem d_M_divisor_1 : decode u_M_divisor.2.1 1 = .ok (.lconst 0, 1) := by decide +kernel
theorem d_M_divisor_2 : decode u_M_divisor.2.1 2 = .ok (.lcmp, 1) := by decide +kernel
theorem d_M_divisor_3 : decode u_M_divisor.2.1 3 = .ok (.ifCond .ge 8, 3) := by decide +kernel
theorem d_M_divisor_6 : decode u_M_divisor.2.1 6 = .ok (.lload_n 0, 1) := by decide +kernel
theorem d_M_divisor_7 : decode u_M_divisor.2.1 7 = .ok (.lneg, 1) := by decide +kernel
theorem d_M_divisor_8 : decode u_M_divisor.2.1 8 = .ok (.goto 4, 3) := by decide +kernel
theorem d_M_divisor_11 : decode u_M_divisor.2.1 11 = .ok (.lload_n 0, 1) := by decide +kernel
theorem d_M_divisor_12 : decode u_M_divisor.2.1 12 = .ok (.lstore 4, 2) := by decide +kernel
theorem d_M_divisor_14 : decode u_M_divisor.2.1 14 = .ok (.lload_n 2, 1) := by decide +kernel
theorem d_M_divisor_15 : decode u_M_divisor.2.1 15 = .ok (.lstore 6, 2) := by decide +kernel
theorem d_M_divisor_17 : decode u_M_divisor.2.1 17 = .ok (.lload 6, 2) := by decide +kernel
theorem d_M_divisor_19 : decode u_M_divisor.2.1 19 = .ok (.lconst 0, 1) := by decide +kernel
theorem d_M_divisor_20 : decode u_M_divisor.2.1 20 = .ok (.lcmp, 1) := by decide +kernel
theorem d_M_divisor_21 : decode u_M_divisor.2.1 21 = .ok (.ifCond .eq 21, 3) := by decide +kernel
theorem d_M_divisor_24 : decode u_M_divisor.2.1 24 = .ok (.lload 4, 2) := by decide +kernel
theorem d_M_divisor_26 : decode u_M_divisor.2.1 26 = .ok (.lload 6, 2) := by decide +kernel
theorem d_M_divisor_28 : decode u_M_divisor.2.1 28 = .ok (.lrem, 1) := by decide +kernel
theorem d_M_divisor_29 : decode u_M_divisor.2.1 29 = .ok (.lstore 8, 2) := by decide +kernel
theorem d_M_divisor_31 : decode u_M_divisor.2.1 31 = .ok (.lload 6, 2) := by decide +kernel
theorem d_M_divisor_33 : decode u_M_divisor.2.1 33 = .ok (.lstore 4, 2) := by decide +kernel
theorem d_M_divisor_35 : decode u_M_divisor.2.1 35 = .ok (.lload 8, 2) := by decide +kernel
theorem d_M_divisor_37 : decode u_M_divisor.2.1 37 = .ok (.lstore 6, 2) := by decide +kernel
theorem d_M_divisor_39 : decode u_M_divisor.2.1 39 = .ok (.goto (-22), 3) := by decide +kernel
theorem d_M_divisor_42 : decode u_M_divisor.2.1 42 = .ok (.lload 4, 2) := by decide +kernel
theorem d_M_divisor_44 : decode u_M_divisor.2.1 44 = .ok (.lreturn, 1) := by decide +kernel
theorem d_M_part_0 : decode u_M_part.2.1 0 = .ok (.iload 4, 2) := by decide +kernel
theorem d_M_part_2 : decode u_M_part.2.1 2 = .ok (.ifCond .ne 7, 3) := by decide +kernel
theorem d_M_part_5 : decode u_M_part.2.1 5 = .ok (.lload_n 0, 1) := by decide +kernel
theorem d_M_part_6 : decode u_M_part.2.1 6 = .ok (.goto 4, 3) := by decide +kernel
theorem d_M_part_9 : decode u_M_part.2.1 9 = .ok (.lload_n 2, 1) := by decide +kernel
theorem d_M_part_10 : decode u_M_part.2.1 10 = .ok (.lload_n 0, 1) := by decide +kernel
theorem d_M_part_11 : decode u_M_part.2.1 11 = .ok (.lload_n 2, 1) := by decide +kernel
theorem d_M_part_12 : decode u_M_part.2.1 12 = .ok (.invokestatic 207, 3) := by decide +kernel
theorem d_M_part_15 : decode u_M_part.2.1 15 = .ok (.ldiv, 1) := by decide +kernel
theorem d_M_part_16 : decode u_M_part.2.1 16 = .ok (.lreturn, 1) := by decide +kernel
theorem d_M_isMore_0 : decode u_M_isMore.2.1 0 = .ok (.lload_n 0, 1) := by decide +kernel
theorem d_M_isMore_1 : decode u_M_isMore.2.1 1 = .ok (.lstore 8, 2) := by decide +kernel
theorem d_M_isMore_3 : decode u_M_isMore.2.1 3 = .ok (.lload_n 2, 1) := by decide +kernel
theorem d_M_isMore_4 : decode u_M_isMore.2.1 4 = .ok (.lstore 10, 2) := by decide +kernel
theorem d_M_isMore_6 : decode u_M_isMore.2.1 6 = .ok (.lload 4, 2) := by decide +kernel
theorem d_M_isMore_8 : decode u_M_isMore.2.1 8 = .ok (.lstore 12, 2) := by decide +kernel
theorem d_M_isMore_10 : decode u_M_isMore.2.1 10 = .ok (.lload 6, 2) := by decide +kernel
theorem d_M_isMore_12 : decode u_M_isMore.2.1 12 = .ok (.lstore 14, 2) := by decide +kernel
theorem d_M_isMore_14 : decode u_M_isMore.2.1 14 = .ok (.iconst 0, 1) := by decide +kernel
theorem d_M_isMore_15 : decode u_M_isMore.2.1 15 = .ok (.istore 16, 2) := by decide +kernel
theorem d_M_isMore_17 : decode u_M_isMore.2.1 17 = .ok (.lload 8, 2) := by decide +kernel
theorem d_M_isMore_19 : decode u_M_isMore.2.1 19 = .ok (.lload 10, 2) := by decide +kernel
theorem d_M_isMore_21 : decode u_M_isMore.2.1 21 = .ok (.ldiv, 1) := by decide +kernel
theorem d_M_isMore_22 : decode u_M_isMore.2.1 22 = .ok (.lstore 17, 2) := by decide +kernel
theorem d_M_isMore_24 : decode u_M_isMore.2.1 24 = .ok (.lload 12, 2) := by decide +kernel
theorem d_M_isMore_26 : decode u_M_isMore.2.1 26 = .ok (.lload 14, 2) := by decide +kernel
theorem d_M_isMore_28 : decode u_M_isMore.2.1 28 = .ok (.ldiv, 1) := by decide +kernel
theorem d_M_isMore_29 : decode u_M_isMore.2.1 29 = .ok (.lstore 19, 2) := by decide +kernel
theorem d_M_isMore_31 : decode u_M_isMore.2.1 31 = .ok (.lload 17, 2) := by decide +kernel
theorem d_M_isMore_33 : decode u_M_isMore.2.1 33 = .ok (.lload 19, 2) := by decide +kernel
theorem d_M_isMore_35 : decode u_M_isMore.2.1 35 = .ok (.lcmp, 1) := by decide +kernel
theorem d_M_isMore_36 : decode u_M_isMore.2.1 36 = .ok (.ifCond .eq 27, 3) := by decide +kernel
theorem d_M_isMore_39 : decode u_M_isMore.2.1 39 = .ok (.lload 17, 2) := by decide +kernel
theorem d_M_isMore_41 : decode u_M_isMore.2.1 41 = .ok (.lload 19, 2) := by decide +kernel
theorem d_M_isMore_43 : decode u_M_isMore.2.1 43 = .ok (.lcmp, 1) := by decide +kernel
theorem d_M_isMore_44 : decode u_M_isMore.2.1 44 = .ok (.ifCond .le 7, 3) := by decide +kernel
theorem d_M_isMore_47 : decode u_M_isMore.2.1 47 = .ok (.iconst 1, 1) := by decide +kernel
theorem d_M_isMore_48 : decode u_M_isMore.2.1 48 = .ok (.goto 4, 3) := by decide +kernel
theorem d_M_isMore_51 : decode u_M_isMore.2.1 51 = .ok (.iconst 0, 1) := by decide +kernel
theorem d_M_isMore_52 : decode u_M_isMore.2.1 52 = .ok (.iload 16, 2) := by decide +kernel
theorem d_M_isMore_54 : decode u_M_isMore.2.1 54 = .ok (.if_icmp .eq 7, 3) := by decide +kernel
theorem d_M_isMore_57 : decode u_M_isMore.2.1 57 = .ok (.iconst 1, 1) := by decide +kernel
theorem d_M_isMore_58 : decode u_M_isMore.2.1 58 = .ok (.goto 4, 3) := by decide +kernel
theorem d_M_isMore_61 : decode u_M_isMore.2.1 61 = .ok (.iconst 0, 1) := by decide +kernel
theorem d_M_isMore_62 : decode u_M_isMore.2.1 62 = .ok (.ireturn, 1) := by decide +kernel
theorem d_M_isMore_63 : decode u_M_isMore.2.1 63 = .ok (.lload 8, 2) := by decide +kernel
theorem d_M_isMore_65 : decode u_M_isMore.2.1 65 = .ok (.lload 10, 2) := by decide +kernel
theorem d_M_isMore_67 : decode u_M_isMore.2.1 67 = .ok (.lrem, 1) := by decide +kernel
theorem d_M_isMore_68 : decode u_M_isMore.2.1 68 = .ok (.lstore 8, 2) := by decide +kernel
theorem d_M_isMore_70 : decode u_M_isMore.2.1 70 = .ok (.lload 12, 2) := by decide +kernel
theorem d_M_isMore_72 : decode u_M_isMore.2.1 72 = .ok (.lload 14, 2) := by decide +kernel
theorem d_M_isMore_74 : decode u_M_isMore.2.1 74 = .ok (.lrem, 1) := by decide +kernel
theorem d_M_isMore_75 : decode u_M_isMore.2.1 75 = .ok (.lstore 12, 2) := by decide +kernel
theorem d_M_isMore_77 : decode u_M_isMore.2.1 77 = .ok (.lload 8, 2) := by decide +kernel
theorem d_M_isMore_79 : decode u_M_isMore.2.1 79 = .ok (.lconst 0, 1) := by decide +kernel
theorem d_M_isMore_80 : decode u_M_isMore.2.1 80 = .ok (.lcmp, 1) := by decide +kernel
theorem d_M_isMore_81 : decode u_M_isMore.2.1 81 = .ok (.ifCond .eq 10, 3) := by decide +kernel
theorem d_M_isMore_84 : decode u_M_isMore.2.1 84 = .ok (.lload 12, 2) := by decide +kernel
theorem d_M_isMore_86 : decode u_M_isMore.2.1 86 = .ok (.lconst 0, 1) := by decide +kernel
theorem d_M_isMore_87 : decode u_M_isMore.2.1 87 = .ok (.lcmp, 1) := by decide +kernel
theorem d_M_isMore_88 : decode u_M_isMore.2.1 88 = .ok (.ifCond .ne 50, 3) := by decide +kernel
theorem d_M_isMore_91 : decode u_M_isMore.2.1 91 = .ok (.iload 16, 2) := by decide +kernel
theorem d_M_isMore_93 : decode u_M_isMore.2.1 93 = .ok (.ifCond .eq 25, 3) := by decide +kernel
theorem d_M_isMore_96 : decode u_M_isMore.2.1 96 = .ok (.lload 8, 2) := by decide +kernel
theorem d_M_isMore_98 : decode u_M_isMore.2.1 98 = .ok (.lconst 0, 1) := by decide +kernel
theorem d_M_isMore_99 : decode u_M_isMore.2.1 99 = .ok (.lcmp, 1) := by decide +kernel
theorem d_M_isMore_100 : decode u_M_isMore.2.1 100 = .ok (.ifCond .ne 14, 3) := by decide +kernel
theorem d_M_isMore_103 : decode u_M_isMore.2.1 103 = .ok (.lload 12, 2) := by decide +kernel
theorem d_M_isMore_105 : decode u_M_isMore.2.1 105 = .ok (.lconst 0, 1) := by decide +kernel
theorem d_M_isMore_106 : decode u_M_isMore.2.1 106 = .ok (.lcmp, 1) := by decide +kernel
theorem d_M_isMore_107 : decode u_M_isMore.2.1 107 = .ok (.ifCond .eq 7, 3) := by decide +kernel
theorem d_M_isMore_110 : decode u_M_isMore.2.1 110 = .ok (.iconst 1, 1) := by decide +kernel
theorem d_M_isMore_111 : decode u_M_isMore.2.1 111 = .ok (.goto 26, 3) := by decide +kernel
theorem d_M_isMore_114 : decode u_M_isMore.2.1 114 = .ok (.iconst 0, 1) := by decide +kernel
theorem d_M_isMore_115 : decode u_M_isMore.2.1 115 = .ok (.goto 22, 3) := by decide +kernel
theorem d_M_isMore_118 : decode u_M_isMore.2.1 118 = .ok (.lload 8, 2) := by decide +kernel
theorem d_M_isMore_120 : decode u_M_isMore.2.1 120 = .ok (.lconst 0, 1) := by decide +kernel
theorem d_M_isMore_121 : decode u_M_isMore.2.1 121 = .ok (.lcmp, 1) := by decide +kernel
theorem d_M_isMore_122 : decode u_M_isMore.2.1 122 = .ok (.ifCond .eq 14, 3) := by decide +kernel
theorem d_M_isMore_125 : decode u_M_isMore.2.1 125 = .ok (.lload 12, 2) := by decide +kernel
theorem d_M_isMore_127 : decode u_M_isMore.2.1 127 = .ok (.lconst 0, 1) := by decide +kernel
theorem d_M_isMore_128 : decode u_M_isMore.2.1 128 = .ok (.lcmp, 1) := by decide +kernel
theorem d_M_isMore_129 : decode u_M_isMore.2.1 129 = .ok (.ifCond .ne 7, 3) := by decide +kernel
theorem d_M_isMore_132 : decode u_M_isMore.2.1 132 = .ok (.iconst 1, 1) := by decide +kernel
theorem d_M_isMore_133 : decode u_M_isMore.2.1 133 = .ok (.goto 4, 3) := by decide +kernel
theorem d_M_isMore_136 : decode u_M_isMore.2.1 136 = .ok (.iconst 0, 1) := by decide +kernel
theorem d_M_isMore_137 : decode u_M_isMore.2.1 137 = .ok (.ireturn, 1) := by decide +kernel
theorem d_M_isMore_138 : decode u_M_isMore.2.1 138 = .ok (.lload 8, 2) := by decide +kernel
theorem d_M_isMore_140 : decode u_M_isMore.2.1 140 = .ok (.lstore 21, 2) := by decide +kernel
theorem d_M_isMore_142 : decode u_M_isMore.2.1 142 = .ok (.lload 10, 2) := by decide +kernel
theorem d_M_isMore_144 : decode u_M_isMore.2.1 144 = .ok (.lstore 8, 2) := by decide +kernel
theorem d_M_isMore_146 : decode u_M_isMore.2.1 146 = .ok (.lload 21, 2) := by decide +kernel
theorem d_M_isMore_148 : decode u_M_isMore.2.1 148 = .ok (.lstore 10, 2) := by decide +kernel
theorem d_M_isMore_150 : decode u_M_isMore.2.1 150 = .ok (.lload 12, 2) := by decide +kernel
theorem d_M_isMore_152 : decode u_M_isMore.2.1 152 = .ok (.lstore 21, 2) := by decide +kernel
theorem d_M_isMore_154 : decode u_M_isMore.2.1 154 = .ok (.lload 14, 2) := by decide +kernel
theorem d_M_isMore_156 : decode u_M_isMore.2.1 156 = .ok (.lstore 12, 2) := by decide +kernel
theorem d_M_isMore_158 : decode u_M_isMore.2.1 158 = .ok (.lload 21, 2) := by decide +kernel
theorem d_M_isMore_160 : decode u_M_isMore.2.1 160 = .ok (.lstore 14, 2) := by decide +kernel
theorem d_M_isMore_162 : decode u_M_isMore.2.1 162 = .ok (.iload 16, 2) := by decide +kernel
theorem d_M_isMore_164 : decode u_M_isMore.2.1 164 = .ok (.ifCond .ne 7, 3) := by decide +kernel
theorem d_M_isMore_167 : decode u_M_isMore.2.1 167 = .ok (.iconst 1, 1) := by decide +kernel
theorem d_M_isMore_168 : decode u_M_isMore.2.1 168 = .ok (.goto 4, 3) := by decide +kernel
theorem d_M_isMore_171 : decode u_M_isMore.2.1 171 = .ok (.iconst 0, 1) := by decide +kernel
theorem d_M_isMore_172 : decode u_M_isMore.2.1 172 = .ok (.istore 16, 2) := by decide +kernel
theorem d_M_isMore_174 : decode u_M_isMore.2.1 174 = .ok (.goto (-157), 3) := by decide +kernel
theorem d_M_score_0 : decode u_M_score.2.1 0 = .ok (.aload_n 0, 1) := by decide +kernel
theorem d_M_score_1 : decode u_M_score.2.1 1 = .ok (.iload_n 1, 1) := by decide +kernel
theorem d_M_score_2 : decode u_M_score.2.1 2 = .ok (.invokevirtual 193, 3) := by decide +kernel
theorem d_M_score_5 : decode u_M_score.2.1 5 = .ok (.ifCond .eq 27, 3) := by decide +kernel
theorem d_M_score_8 : decode u_M_score.2.1 8 = .ok (.aload_n 0, 1) := by decide +kernel
theorem d_M_score_9 : decode u_M_score.2.1 9 = .ok (.iload_n 2, 1) := by decide +kernel
theorem d_M_score_10 : decode u_M_score.2.1 10 = .ok (.invokevirtual 163, 3) := by decide +kernel
theorem d_M_score_13 : decode u_M_score.2.1 13 = .ok (.ifCond .eq 19, 3) := by decide +kernel
theorem d_M_score_16 : decode u_M_score.2.1 16 = .ok (.aload_n 0, 1) := by decide +kernel
theorem d_M_score_17 : decode u_M_score.2.1 17 = .ok (.iload_n 3, 1) := by decide +kernel
theorem d_M_score_18 : decode u_M_score.2.1 18 = .ok (.invokevirtual 103, 3) := by decide +kernel
theorem d_M_score_21 : decode u_M_score.2.1 21 = .ok (.ifCond .eq 11, 3) := by decide +kernel
theorem d_M_score_24 : decode u_M_score.2.1 24 = .ok (.iload 4, 2) := by decide +kernel
theorem d_M_score_26 : decode u_M_score.2.1 26 = .ok (.invokestatic 211, 3) := by decide +kernel
theorem d_M_score_29 : decode u_M_score.2.1 29 = .ok (.ifCond .ne 9, 3) := by decide +kernel
theorem d_M_score_32 : decode u_M_score.2.1 32 = .ok (.bipush (-2), 2) := by decide +kernel
theorem d_M_score_34 : decode u_M_score.2.1 34 = .ok (.invokestatic 214, 3) := by decide +kernel
theorem d_M_score_37 : decode u_M_score.2.1 37 = .ok (.lreturn, 1) := by decide +kernel
theorem d_M_score_38 : decode u_M_score.2.1 38 = .ok (.aload_n 0, 1) := by decide +kernel
theorem d_M_score_39 : decode u_M_score.2.1 39 = .ok (.iload_n 1, 1) := by decide +kernel
theorem d_M_score_40 : decode u_M_score.2.1 40 = .ok (.iload_n 3, 1) := by decide +kernel
theorem d_M_score_41 : decode u_M_score.2.1 41 = .ok (.invokevirtual 218, 3) := by decide +kernel
theorem d_M_score_44 : decode u_M_score.2.1 44 = .ok (.ifCond .ne 9, 3) := by decide +kernel
theorem d_M_score_47 : decode u_M_score.2.1 47 = .ok (.bipush (-3), 2) := by decide +kernel
theorem d_M_score_49 : decode u_M_score.2.1 49 = .ok (.invokestatic 214, 3) := by decide +kernel
theorem d_M_score_52 : decode u_M_score.2.1 52 = .ok (.lreturn, 1) := by decide +kernel
theorem d_M_score_53 : decode u_M_score.2.1 53 = .ok (.aload_n 0, 1) := by decide +kernel
theorem d_M_score_54 : decode u_M_score.2.1 54 = .ok (.iload_n 2, 1) := by decide +kernel
theorem d_M_score_55 : decode u_M_score.2.1 55 = .ok (.invokevirtual 222, 3) := by decide +kernel
theorem d_M_score_58 : decode u_M_score.2.1 58 = .ok (.aload_n 0, 1) := by decide +kernel
theorem d_M_score_59 : decode u_M_score.2.1 59 = .ok (.iload_n 1, 1) := by decide +kernel
theorem d_M_score_60 : decode u_M_score.2.1 60 = .ok (.iload_n 3, 1) := by decide +kernel
theorem d_M_score_61 : decode u_M_score.2.1 61 = .ok (.invokevirtual 226, 3) := by decide +kernel
theorem d_M_score_64 : decode u_M_score.2.1 64 = .ok (.aload_n 0, 1) := by decide +kernel
theorem d_M_score_65 : decode u_M_score.2.1 65 = .ok (.getfield 200, 3) := by decide +kernel
theorem d_M_score_68 : decode u_M_score.2.1 68 = .ok (.aload_n 0, 1) := by decide +kernel
theorem d_M_score_69 : decode u_M_score.2.1 69 = .ok (.getfield 204, 3) := by decide +kernel
theorem d_M_score_72 : decode u_M_score.2.1 72 = .ok (.iload 4, 2) := by decide +kernel
theorem d_M_score_74 : decode u_M_score.2.1 74 = .ok (.invokestatic 230, 3) := by decide +kernel
theorem d_M_score_77 : decode u_M_score.2.1 77 = .ok (.lreturn, 1) := by decide +kernel
theorem d_M_namedBy_0 : decode u_M_namedBy.2.1 0 = .ok (.iconst (-1), 1) := by decide +kernel
theorem d_M_namedBy_1 : decode u_M_namedBy.2.1 1 = .ok (.istore_n 2, 1) := by decide +kernel
theorem d_M_namedBy_2 : decode u_M_namedBy.2.1 2 = .ok (.lconst 0, 1) := by decide +kernel
theorem d_M_namedBy_3 : decode u_M_namedBy.2.1 3 = .ok (.lstore_n 3, 1) := by decide +kernel
theorem d_M_namedBy_4 : decode u_M_namedBy.2.1 4 = .ok (.lconst 1, 1) := by decide +kernel
theorem d_M_namedBy_5 : decode u_M_namedBy.2.1 5 = .ok (.lstore 5, 2) := by decide +kernel
theorem d_M_namedBy_7 : decode u_M_namedBy.2.1 7 = .ok (.iconst 0, 1) := by decide +kernel
theorem d_M_namedBy_8 : decode u_M_namedBy.2.1 8 = .ok (.istore 7, 2) := by decide +kernel
theorem d_M_namedBy_10 : decode u_M_namedBy.2.1 10 = .ok (.iload 7, 2) := by decide +kernel
theorem d_M_namedBy_12 : decode u_M_namedBy.2.1 12 = .ok (.aload_n 0, 1) := by decide +kernel
theorem d_M_namedBy_13 : decode u_M_namedBy.2.1 13 = .ok (.getfield 98, 3) := by decide +kernel
theorem d_M_namedBy_16 : decode u_M_namedBy.2.1 16 = .ok (.if_icmp .ge 64, 3) := by decide +kernel
theorem d_M_namedBy_19 : decode u_M_namedBy.2.1 19 = .ok (.aload_n 0, 1) := by decide +kernel
theorem d_M_namedBy_20 : decode u_M_namedBy.2.1 20 = .ok (.getfield 196, 3) := by decide +kernel
theorem d_M_namedBy_23 : decode u_M_namedBy.2.1 23 = .ok (.ifCond .ne 57, 3) := by decide +kernel
theorem d_M_namedBy_26 : decode u_M_namedBy.2.1 26 = .ok (.aload_n 0, 1) := by decide +kernel
theorem d_M_namedBy_27 : decode u_M_namedBy.2.1 27 = .ok (.iload_n 1, 1) := by decide +kernel
theorem d_M_namedBy_28 : decode u_M_namedBy.2.1 28 = .ok (.iload 7, 2) := by decide +kernel
theorem d_M_namedBy_30 : decode u_M_namedBy.2.1 30 = .ok (.invokevirtual 218, 3) := by decide +kernel
theorem d_M_namedBy_33 : decode u_M_namedBy.2.1 33 = .ok (.ifCond .eq 41, 3) := by decide +kernel
theorem d_M_namedBy_36 : decode u_M_namedBy.2.1 36 = .ok (.aload_n 0, 1) := by decide +kernel
theorem d_M_namedBy_37 : decode u_M_namedBy.2.1 37 = .ok (.iload_n 1, 1) := by decide +kernel
theorem d_M_namedBy_38 : decode u_M_namedBy.2.1 38 = .ok (.iload 7, 2) := by decide +kernel
theorem d_M_namedBy_40 : decode u_M_namedBy.2.1 40 = .ok (.invokevirtual 226, 3) := by decide +kernel
theorem d_M_namedBy_43 : decode u_M_namedBy.2.1 43 = .ok (.aload_n 0, 1) := by decide +kernel
theorem d_M_namedBy_44 : decode u_M_namedBy.2.1 44 = .ok (.getfield 200, 3) := by decide +kernel
theorem d_M_namedBy_47 : decode u_M_namedBy.2.1 47 = .ok (.aload_n 0, 1) := by decide +kernel
theorem d_M_namedBy_48 : decode u_M_namedBy.2.1 48 = .ok (.getfield 204, 3) := by decide +kernel
theorem d_M_namedBy_51 : decode u_M_namedBy.2.1 51 = .ok (.lload_n 3, 1) := by decide +kernel
theorem d_M_namedBy_52 : decode u_M_namedBy.2.1 52 = .ok (.lload 5, 2) := by decide +kernel
theorem d_M_namedBy_54 : decode u_M_namedBy.2.1 54 = .ok (.invokestatic 234, 3) := by decide +kernel
theorem d_M_namedBy_57 : decode u_M_namedBy.2.1 57 = .ok (.ifCond .eq 17, 3) := by decide +kernel
theorem d_M_namedBy_60 : decode u_M_namedBy.2.1 60 = .ok (.iload 7, 2) := by decide +kernel
theorem d_M_namedBy_62 : decode u_M_namedBy.2.1 62 = .ok (.istore_n 2, 1) := by decide +kernel
theorem d_M_namedBy_63 : decode u_M_namedBy.2.1 63 = .ok (.aload_n 0, 1) := by decide +kernel
theorem d_M_namedBy_64 : decode u_M_namedBy.2.1 64 = .ok (.getfield 200, 3) := by decide +kernel
theorem d_M_namedBy_67 : decode u_M_namedBy.2.1 67 = .ok (.lstore_n 3, 1) := by decide +kernel
theorem d_M_namedBy_68 : decode u_M_namedBy.2.1 68 = .ok (.aload_n 0, 1) := by decide +kernel
theorem d_M_namedBy_69 : decode u_M_namedBy.2.1 69 = .ok (.getfield 204, 3) := by decide +kernel
theorem d_M_namedBy_72 : decode u_M_namedBy.2.1 72 = .ok (.lstore 5, 2) := by decide +kernel
theorem d_M_namedBy_74 : decode u_M_namedBy.2.1 74 = .ok (.iinc 7 1, 3) := by decide +kernel
theorem d_M_namedBy_77 : decode u_M_namedBy.2.1 77 = .ok (.goto (-67), 3) := by decide +kernel
theorem d_M_namedBy_80 : decode u_M_namedBy.2.1 80 = .ok (.iload_n 2, 1) := by decide +kernel
theorem d_M_namedBy_81 : decode u_M_namedBy.2.1 81 = .ok (.ireturn, 1) := by decide +kernel
theorem d_M_marginOf_0 : decode u_M_marginOf.2.1 0 = .ok (.lconst 0, 1) := by decide +kernel
theorem d_M_marginOf_1 : decode u_M_marginOf.2.1 1 = .ok (.lstore_n 3, 1) := by decide +kernel
theorem d_M_marginOf_2 : decode u_M_marginOf.2.1 2 = .ok (.iconst 0, 1) := by decide +kernel
theorem d_M_marginOf_3 : decode u_M_marginOf.2.1 3 = .ok (.istore 5, 2) := by decide +kernel
theorem d_M_marginOf_5 : decode u_M_marginOf.2.1 5 = .ok (.iload 5, 2) := by decide +kernel
theorem d_M_marginOf_7 : decode u_M_marginOf.2.1 7 = .ok (.aload_n 0, 1) := by decide +kernel
theorem d_M_marginOf_8 : decode u_M_marginOf.2.1 8 = .ok (.getfield 98, 3) := by decide +kernel
theorem d_M_marginOf_11 : decode u_M_marginOf.2.1 11 = .ok (.if_icmp .ge 57, 3) := by decide +kernel
theorem d_M_marginOf_14 : decode u_M_marginOf.2.1 14 = .ok (.iload 5, 2) := by decide +kernel
theorem d_M_marginOf_16 : decode u_M_marginOf.2.1 16 = .ok (.iload_n 2, 1) := by decide +kernel
theorem d_M_marginOf_17 : decode u_M_marginOf.2.1 17 = .ok (.if_icmp .eq 45, 3) := by decide +kernel
theorem d_M_marginOf_20 : decode u_M_marginOf.2.1 20 = .ok (.aload_n 0, 1) := by decide +kernel
theorem d_M_marginOf_21 : decode u_M_marginOf.2.1 21 = .ok (.iload_n 1, 1) := by decide +kernel
theorem d_M_marginOf_22 : decode u_M_marginOf.2.1 22 = .ok (.iload 5, 2) := by decide +kernel
theorem d_M_marginOf_24 : decode u_M_marginOf.2.1 24 = .ok (.invokevirtual 218, 3) := by decide +kernel
theorem d_M_marginOf_27 : decode u_M_marginOf.2.1 27 = .ok (.ifCond .eq 35, 3) := by decide +kernel
theorem d_M_marginOf_30 : decode u_M_marginOf.2.1 30 = .ok (.aload_n 0, 1) := by decide +kernel
theorem d_M_marginOf_31 : decode u_M_marginOf.2.1 31 = .ok (.iload_n 1, 1) := by decide +kernel
theorem d_M_marginOf_32 : decode u_M_marginOf.2.1 32 = .ok (.iload 5, 2) := by decide +kernel
theorem d_M_marginOf_34 : decode u_M_marginOf.2.1 34 = .ok (.invokevirtual 226, 3) := by decide +kernel
theorem d_M_marginOf_37 : decode u_M_marginOf.2.1 37 = .ok (.aload_n 0, 1) := by decide +kernel
theorem d_M_marginOf_38 : decode u_M_marginOf.2.1 38 = .ok (.getfield 200, 3) := by decide +kernel
theorem d_M_marginOf_41 : decode u_M_marginOf.2.1 41 = .ok (.aload_n 0, 1) := by decide +kernel
theorem d_M_marginOf_42 : decode u_M_marginOf.2.1 42 = .ok (.getfield 204, 3) := by decide +kernel
theorem d_M_marginOf_45 : decode u_M_marginOf.2.1 45 = .ok (.ldiv, 1) := by decide +kernel
theorem d_M_marginOf_46 : decode u_M_marginOf.2.1 46 = .ok (.lstore 6, 2) := by decide +kernel
theorem d_M_marginOf_48 : decode u_M_marginOf.2.1 48 = .ok (.lload 6, 2) := by decide +kernel
theorem d_M_marginOf_50 : decode u_M_marginOf.2.1 50 = .ok (.lload_n 3, 1) := by decide +kernel
theorem d_M_marginOf_51 : decode u_M_marginOf.2.1 51 = .ok (.lcmp, 1) := by decide +kernel
theorem d_M_marginOf_52 : decode u_M_marginOf.2.1 52 = .ok (.ifCond .le 8, 3) := by decide +kernel
theorem d_M_marginOf_55 : decode u_M_marginOf.2.1 55 = .ok (.lload 6, 2) := by decide +kernel
theorem d_M_marginOf_57 : decode u_M_marginOf.2.1 57 = .ok (.goto 4, 3) := by decide +kernel
theorem d_M_marginOf_60 : decode u_M_marginOf.2.1 60 = .ok (.lload_n 3, 1) := by decide +kernel
theorem d_M_marginOf_61 : decode u_M_marginOf.2.1 61 = .ok (.lstore_n 3, 1) := by decide +kernel
theorem d_M_marginOf_62 : decode u_M_marginOf.2.1 62 = .ok (.iinc 5 1, 3) := by decide +kernel
theorem d_M_marginOf_65 : decode u_M_marginOf.2.1 65 = .ok (.goto (-60), 3) := by decide +kernel
theorem d_M_marginOf_68 : decode u_M_marginOf.2.1 68 = .ok (.aload_n 0, 1) := by decide +kernel
theorem d_M_marginOf_69 : decode u_M_marginOf.2.1 69 = .ok (.iload_n 1, 1) := by decide +kernel
theorem d_M_marginOf_70 : decode u_M_marginOf.2.1 70 = .ok (.iload_n 2, 1) := by decide +kernel
theorem d_M_marginOf_71 : decode u_M_marginOf.2.1 71 = .ok (.invokevirtual 226, 3) := by decide +kernel
theorem d_M_marginOf_74 : decode u_M_marginOf.2.1 74 = .ok (.aload_n 0, 1) := by decide +kernel
theorem d_M_marginOf_75 : decode u_M_marginOf.2.1 75 = .ok (.getfield 200, 3) := by decide +kernel
theorem d_M_marginOf_78 : decode u_M_marginOf.2.1 78 = .ok (.aload_n 0, 1) := by decide +kernel
theorem d_M_marginOf_79 : decode u_M_marginOf.2.1 79 = .ok (.getfield 204, 3) := by decide +kernel
theorem d_M_marginOf_82 : decode u_M_marginOf.2.1 82 = .ok (.ldiv, 1) := by decide +kernel
theorem d_M_marginOf_83 : decode u_M_marginOf.2.1 83 = .ok (.lload_n 3, 1) := by decide +kernel
theorem d_M_marginOf_84 : decode u_M_marginOf.2.1 84 = .ok (.lsub, 1) := by decide +kernel
theorem d_M_marginOf_85 : decode u_M_marginOf.2.1 85 = .ok (.l2i, 1) := by decide +kernel
theorem d_M_marginOf_86 : decode u_M_marginOf.2.1 86 = .ok (.ireturn, 1) := by decide +kernel
theorem d_M_namedOf_0 : decode u_M_namedOf.2.1 0 = .ok (.aload_n 0, 1) := by decide +kernel
theorem d_M_namedOf_1 : decode u_M_namedOf.2.1 1 = .ok (.iload_n 2, 1) := by decide +kernel
theorem d_M_namedOf_2 : decode u_M_namedOf.2.1 2 = .ok (.invokevirtual 222, 3) := by decide +kernel
theorem d_M_namedOf_5 : decode u_M_namedOf.2.1 5 = .ok (.aload_n 0, 1) := by decide +kernel
theorem d_M_namedOf_6 : decode u_M_namedOf.2.1 6 = .ok (.iload_n 1, 1) := by decide +kernel
theorem d_M_namedOf_7 : decode u_M_namedOf.2.1 7 = .ok (.invokevirtual 238, 3) := by decide +kernel
theorem d_M_namedOf_10 : decode u_M_namedOf.2.1 10 = .ok (.istore 4, 2) := by decide +kernel
theorem d_M_namedOf_12 : decode u_M_namedOf.2.1 12 = .ok (.iload_n 3, 1) := by decide +kernel
theorem d_M_namedOf_13 : decode u_M_namedOf.2.1 13 = .ok (.ifCond .ne 8, 3) := by decide +kernel
theorem d_M_namedOf_16 : decode u_M_namedOf.2.1 16 = .ok (.iload 4, 2) := by decide +kernel
theorem d_M_namedOf_18 : decode u_M_namedOf.2.1 18 = .ok (.goto 21, 3) := by decide +kernel
theorem d_M_namedOf_21 : decode u_M_namedOf.2.1 21 = .ok (.iload 4, 2) := by decide +kernel
theorem d_M_namedOf_23 : decode u_M_namedOf.2.1 23 = .ok (.iconst (-1), 1) := by decide +kernel
theorem d_M_namedOf_24 : decode u_M_namedOf.2.1 24 = .ok (.if_icmp .ne 8, 3) := by decide +kernel
theorem d_M_namedOf_27 : decode u_M_namedOf.2.1 27 = .ok (.bipush (-3), 2) := by decide +kernel
theorem d_M_namedOf_29 : decode u_M_namedOf.2.1 29 = .ok (.goto 10, 3) := by decide +kernel
theorem d_M_namedOf_32 : decode u_M_namedOf.2.1 32 = .ok (.aload_n 0, 1) := by decide +kernel
theorem d_M_namedOf_33 : decode u_M_namedOf.2.1 33 = .ok (.iload_n 1, 1) := by decide +kernel
theorem d_M_namedOf_34 : decode u_M_namedOf.2.1 34 = .ok (.iload 4, 2) := by decide +kernel
theorem d_M_namedOf_36 : decode u_M_namedOf.2.1 36 = .ok (.invokevirtual 241, 3) := by decide +kernel
theorem d_M_namedOf_39 : decode u_M_namedOf.2.1 39 = .ok (.ireturn, 1) := by decide +kernel
theorem d_M_named_0 : decode u_M_named.2.1 0 = .ok (.aload_n 0, 1) := by decide +kernel
theorem d_M_named_1 : decode u_M_named.2.1 1 = .ok (.iload_n 1, 1) := by decide +kernel
theorem d_M_named_2 : decode u_M_named.2.1 2 = .ok (.invokevirtual 193, 3) := by decide +kernel
theorem d_M_named_5 : decode u_M_named.2.1 5 = .ok (.ifCond .eq 28, 3) := by decide +kernel
theorem d_M_named_8 : decode u_M_named.2.1 8 = .ok (.aload_n 0, 1) := by decide +kernel
theorem d_M_named_9 : decode u_M_named.2.1 9 = .ok (.iload_n 2, 1) := by decide +kernel
theorem d_M_named_10 : decode u_M_named.2.1 10 = .ok (.invokevirtual 163, 3) := by decide +kernel
theorem d_M_named_13 : decode u_M_named.2.1 13 = .ok (.ifCond .eq 20, 3) := by decide +kernel
theorem d_M_named_16 : decode u_M_named.2.1 16 = .ok (.iload_n 3, 1) := by decide +kernel
theorem d_M_named_17 : decode u_M_named.2.1 17 = .ok (.invokestatic 211, 3) := by decide +kernel
theorem d_M_named_20 : decode u_M_named.2.1 20 = .ok (.ifCond .eq 13, 3) := by decide +kernel
theorem d_M_named_23 : decode u_M_named.2.1 23 = .ok (.aload_n 0, 1) := by decide +kernel
theorem d_M_named_24 : decode u_M_named.2.1 24 = .ok (.iload_n 1, 1) := by decide +kernel
theorem d_M_named_25 : decode u_M_named.2.1 25 = .ok (.iload_n 2, 1) := by decide +kernel
theorem d_M_named_26 : decode u_M_named.2.1 26 = .ok (.iload_n 3, 1) := by decide +kernel
theorem d_M_named_27 : decode u_M_named.2.1 27 = .ok (.invokevirtual 244, 3) := by decide +kernel
theorem d_M_named_30 : decode u_M_named.2.1 30 = .ok (.goto 5, 3) := by decide +kernel
theorem d_M_named_33 : decode u_M_named.2.1 33 = .ok (.bipush (-2), 2) := by decide +kernel
theorem d_M_named_35 : decode u_M_named.2.1 35 = .ok (.ireturn, 1) := by decide +kernel
theorem d_M_much_0 : decode u_M_much.2.1 0 = .ok (.aload_n 0, 1) := by decide +kernel
theorem d_M_much_1 : decode u_M_much.2.1 1 = .ok (.iload_n 1, 1) := by decide +kernel
theorem d_M_much_2 : decode u_M_much.2.1 2 = .ok (.invokevirtual 193, 3) := by decide +kernel
theorem d_M_much_5 : decode u_M_much.2.1 5 = .ok (.ifCond .eq 32, 3) := by decide +kernel
theorem d_M_much_8 : decode u_M_much.2.1 8 = .ok (.aload_n 0, 1) := by decide +kernel
theorem d_M_much_9 : decode u_M_much.2.1 9 = .ok (.iload_n 2, 1) := by decide +kernel
theorem d_M_much_10 : decode u_M_much.2.1 10 = .ok (.invokevirtual 103, 3) := by decide +kernel
theorem d_M_much_13 : decode u_M_much.2.1 13 = .ok (.ifCond .eq 24, 3) := by decide +kernel
theorem d_M_much_16 : decode u_M_much.2.1 16 = .ok (.aload_n 0, 1) := by decide +kernel
theorem d_M_much_17 : decode u_M_much.2.1 17 = .ok (.iload_n 3, 1) := by decide +kernel
theorem d_M_much_18 : decode u_M_much.2.1 18 = .ok (.invokevirtual 114, 3) := by decide +kernel
theorem d_M_much_21 : decode u_M_much.2.1 21 = .ok (.ifCond .eq 16, 3) := by decide +kernel
theorem d_M_much_24 : decode u_M_much.2.1 24 = .ok (.iload 4, 2) := by decide +kernel
theorem d_M_much_26 : decode u_M_much.2.1 26 = .ok (.i2l, 1) := by decide +kernel
theorem d_M_much_27 : decode u_M_much.2.1 27 = .ok (.lconst 0, 1) := by decide +kernel
theorem d_M_much_28 : decode u_M_much.2.1 28 = .ok (.ldc2_w 83, 3) := by decide +kernel
theorem d_M_much_31 : decode u_M_much.2.1 31 = .ok (.invokestatic 69, 3) := by decide +kernel
theorem d_M_much_34 : decode u_M_much.2.1 34 = .ok (.ifCond .ne 6, 3) := by decide +kernel
theorem d_M_much_37 : decode u_M_much.2.1 37 = .ok (.bipush (-2), 2) := by decide +kernel
theorem d_M_much_39 : decode u_M_much.2.1 39 = .ok (.ireturn, 1) := by decide +kernel
theorem d_M_much_40 : decode u_M_much.2.1 40 = .ok (.iload 4, 2) := by decide +kernel
theorem d_M_much_42 : decode u_M_much.2.1 42 = .ok (.iconst 2, 1) := by decide +kernel
theorem d_M_much_43 : decode u_M_much.2.1 43 = .ok (.if_icmp .ge 15, 3) := by decide +kernel
theorem d_M_much_46 : decode u_M_much.2.1 46 = .ok (.aload_n 0, 1) := by decide +kernel
theorem d_M_much_47 : decode u_M_much.2.1 47 = .ok (.iload_n 1, 1) := by decide +kernel
theorem d_M_much_48 : decode u_M_much.2.1 48 = .ok (.iload_n 2, 1) := by decide +kernel
theorem d_M_much_49 : decode u_M_much.2.1 49 = .ok (.invokevirtual 218, 3) := by decide +kernel
theorem d_M_much_52 : decode u_M_much.2.1 52 = .ok (.ifCond .ne 6, 3) := by decide +kernel
theorem d_M_much_55 : decode u_M_much.2.1 55 = .ok (.bipush (-3), 2) := by decide +kernel
theorem d_M_much_57 : decode u_M_much.2.1 57 = .ok (.ireturn, 1) := by decide +kernel
theorem d_M_much_58 : decode u_M_much.2.1 58 = .ok (.iconst (-1), 1) := by decide +kernel
theorem d_M_much_59 : decode u_M_much.2.1 59 = .ok (.istore 5, 2) := by decide +kernel
theorem d_M_much_61 : decode u_M_much.2.1 61 = .ok (.iconst 0, 1) := by decide +kernel
theorem d_M_much_62 : decode u_M_much.2.1 62 = .ok (.istore 6, 2) := by decide +kernel
theorem d_M_much_64 : decode u_M_much.2.1 64 = .ok (.iconst 0, 1) := by decide +kernel
theorem d_M_much_65 : decode u_M_much.2.1 65 = .ok (.istore 7, 2) := by decide +kernel
theorem d_M_much_67 : decode u_M_much.2.1 67 = .ok (.iload 7, 2) := by decide +kernel
theorem d_M_much_69 : decode u_M_much.2.1 69 = .ok (.bipush 60, 2) := by decide +kernel
theorem d_M_much_71 : decode u_M_much.2.1 71 = .ok (.if_icmp .gt 86, 3) := by decide +kernel
theorem d_M_much_74 : decode u_M_much.2.1 74 = .ok (.aload_n 0, 1) := by decide +kernel
theorem d_M_much_75 : decode u_M_much.2.1 75 = .ok (.iload_n 2, 1) := by decide +kernel
theorem d_M_much_76 : decode u_M_much.2.1 76 = .ok (.iload_n 3, 1) := by decide +kernel
theorem d_M_much_77 : decode u_M_much.2.1 77 = .ok (.iload 7, 2) := by decide +kernel
theorem d_M_much_79 : decode u_M_much.2.1 79 = .ok (.sipush 255, 3) := by decide +kernel
theorem d_M_much_82 : decode u_M_much.2.1 82 = .ok (.invokevirtual 247, 3) := by decide +kernel
theorem d_M_much_85 : decode u_M_much.2.1 85 = .ok (.iload 4, 2) := by decide +kernel
theorem d_M_much_87 : decode u_M_much.2.1 87 = .ok (.iconst 2, 1) := by decide +kernel
theorem d_M_much_88 : decode u_M_much.2.1 88 = .ok (.if_icmp .ne 13, 3) := by decide +kernel
theorem d_M_much_91 : decode u_M_much.2.1 91 = .ok (.aload_n 0, 1) := by decide +kernel
theorem d_M_much_92 : decode u_M_much.2.1 92 = .ok (.getfield 196, 3) := by decide +kernel
theorem d_M_much_95 : decode u_M_much.2.1 95 = .ok (.ifCond .eq 6, 3) := by decide +kernel
theorem d_M_much_98 : decode u_M_much.2.1 98 = .ok (.iload 7, 2) := by decide +kernel
theorem d_M_much_100 : decode u_M_much.2.1 100 = .ok (.ireturn, 1) := by decide +kernel
theorem d_M_much_101 : decode u_M_much.2.1 101 = .ok (.iload 4, 2) := by decide +kernel
theorem d_M_much_103 : decode u_M_much.2.1 103 = .ok (.iconst 2, 1) := by decide +kernel
theorem d_M_much_104 : decode u_M_much.2.1 104 = .ok (.if_icmp .ge 47, 3) := by decide +kernel
theorem d_M_much_107 : decode u_M_much.2.1 107 = .ok (.aload_n 0, 1) := by decide +kernel
theorem d_M_much_108 : decode u_M_much.2.1 108 = .ok (.iload_n 1, 1) := by decide +kernel
theorem d_M_much_109 : decode u_M_much.2.1 109 = .ok (.invokevirtual 238, 3) := by decide +kernel
theorem d_M_much_112 : decode u_M_much.2.1 112 = .ok (.iload_n 2, 1) := by decide +kernel
theorem d_M_much_113 : decode u_M_much.2.1 113 = .ok (.if_icmp .ne 38, 3) := by decide +kernel
theorem d_M_much_116 : decode u_M_much.2.1 116 = .ok (.aload_n 0, 1) := by decide +kernel
theorem d_M_much_117 : decode u_M_much.2.1 117 = .ok (.iload_n 1, 1) := by decide +kernel
theorem d_M_much_118 : decode u_M_much.2.1 118 = .ok (.iload_n 2, 1) := by decide +kernel
theorem d_M_much_119 : decode u_M_much.2.1 119 = .ok (.invokevirtual 241, 3) := by decide +kernel
theorem d_M_much_122 : decode u_M_much.2.1 122 = .ok (.istore 8, 2) := by decide +kernel
theorem d_M_much_124 : decode u_M_much.2.1 124 = .ok (.iload 5, 2) := by decide +kernel
theorem d_M_much_126 : decode u_M_much.2.1 126 = .ok (.iconst (-1), 1) := by decide +kernel
theorem d_M_much_127 : decode u_M_much.2.1 127 = .ok (.if_icmp .eq 16, 3) := by decide +kernel
theorem d_M_much_130 : decode u_M_much.2.1 130 = .ok (.iload 4, 2) := by decide +kernel
theorem d_M_much_132 : decode u_M_much.2.1 132 = .ok (.iconst 1, 1) := by decide +kernel
theorem d_M_much_133 : decode u_M_much.2.1 133 = .ok (.if_icmp .ne 18, 3) := by decide +kernel
theorem d_M_much_136 : decode u_M_much.2.1 136 = .ok (.iload 8, 2) := by decide +kernel
theorem d_M_much_138 : decode u_M_much.2.1 138 = .ok (.iload 6, 2) := by decide +kernel
theorem d_M_much_140 : decode u_M_much.2.1 140 = .ok (.if_icmp .le 11, 3) := by decide +kernel
theorem d_M_much_143 : decode u_M_much.2.1 143 = .ok (.iload 7, 2) := by decide +kernel
theorem d_M_much_145 : decode u_M_much.2.1 145 = .ok (.istore 5, 2) := by decide +kernel
theorem d_M_much_147 : decode u_M_much.2.1 147 = .ok (.iload 8, 2) := by decide +kernel
theorem d_M_much_149 : decode u_M_much.2.1 149 = .ok (.istore 6, 2) := by decide +kernel
theorem d_M_much_151 : decode u_M_much.2.1 151 = .ok (.iinc 7 1, 3) := by decide +kernel
theorem d_M_much_154 : decode u_M_much.2.1 154 = .ok (.goto (-87), 3) := by decide +kernel
theorem d_M_much_157 : decode u_M_much.2.1 157 = .ok (.iload 5, 2) := by decide +kernel
theorem d_M_much_159 : decode u_M_much.2.1 159 = .ok (.ireturn, 1) := by decide +kernel
theorem d_M_ones_0 : decode u_M_ones.2.1 0 = .ok (.iconst 0, 1) := by decide +kernel
theorem d_M_ones_1 : decode u_M_ones.2.1 1 = .ok (.istore_n 1, 1) := by decide +kernel
theorem d_M_ones_2 : decode u_M_ones.2.1 2 = .ok (.iload_n 0, 1) := by decide +kernel
theorem d_M_ones_3 : decode u_M_ones.2.1 3 = .ok (.istore_n 2, 1) := by decide +kernel
theorem d_M_ones_4 : decode u_M_ones.2.1 4 = .ok (.iload_n 2, 1) := by decide +kernel
theorem d_M_ones_5 : decode u_M_ones.2.1 5 = .ok (.ifCond .eq 15, 3) := by decide +kernel
theorem d_M_ones_8 : decode u_M_ones.2.1 8 = .ok (.iinc 1 1, 3) := by decide +kernel
theorem d_M_ones_11 : decode u_M_ones.2.1 11 = .ok (.iload_n 2, 1) := by decide +kernel
theorem d_M_ones_12 : decode u_M_ones.2.1 12 = .ok (.iload_n 2, 1) := by decide +kernel
theorem d_M_ones_13 : decode u_M_ones.2.1 13 = .ok (.iconst 1, 1) := by decide +kernel
theorem d_M_ones_14 : decode u_M_ones.2.1 14 = .ok (.isub, 1) := by decide +kernel
theorem d_M_ones_15 : decode u_M_ones.2.1 15 = .ok (.iand, 1) := by decide +kernel
theorem d_M_ones_16 : decode u_M_ones.2.1 16 = .ok (.istore_n 2, 1) := by decide +kernel
theorem d_M_ones_17 : decode u_M_ones.2.1 17 = .ok (.goto (-13), 3) := by decide +kernel
theorem d_M_ones_20 : decode u_M_ones.2.1 20 = .ok (.iload_n 1, 1) := by decide +kernel
theorem d_M_ones_21 : decode u_M_ones.2.1 21 = .ok (.ireturn, 1) := by decide +kernel
theorem d_M_isEnough_0 : decode u_M_isEnough.2.1 0 = .ok (.aload_n 0, 1) := by decide +kernel
theorem d_M_isEnough_1 : decode u_M_isEnough.2.1 1 = .ok (.iload_n 2, 1) := by decide +kernel
theorem d_M_isEnough_2 : decode u_M_isEnough.2.1 2 = .ok (.iload_n 3, 1) := by decide +kernel
theorem d_M_isEnough_3 : decode u_M_isEnough.2.1 3 = .ok (.iload 4, 2) := by decide +kernel
theorem d_M_isEnough_5 : decode u_M_isEnough.2.1 5 = .ok (.iload 5, 2) := by decide +kernel
theorem d_M_isEnough_7 : decode u_M_isEnough.2.1 7 = .ok (.invokevirtual 247, 3) := by decide +kernel
theorem d_M_isEnough_10 : decode u_M_isEnough.2.1 10 = .ok (.aload_n 0, 1) := by decide +kernel
theorem d_M_isEnough_11 : decode u_M_isEnough.2.1 11 = .ok (.iload_n 1, 1) := by decide +kernel
theorem d_M_isEnough_12 : decode u_M_isEnough.2.1 12 = .ok (.invokevirtual 238, 3) := by decide +kernel
theorem d_M_isEnough_15 : decode u_M_isEnough.2.1 15 = .ok (.iload_n 2, 1) := by decide +kernel
theorem d_M_isEnough_16 : decode u_M_isEnough.2.1 16 = .ok (.if_icmp .ne 7, 3) := by decide +kernel
theorem d_M_isEnough_19 : decode u_M_isEnough.2.1 19 = .ok (.iconst 1, 1) := by decide +kernel
theorem d_M_isEnough_20 : decode u_M_isEnough.2.1 20 = .ok (.goto 4, 3) := by decide +kernel
theorem d_M_isEnough_23 : decode u_M_isEnough.2.1 23 = .ok (.iconst 0, 1) := by decide +kernel
theorem d_M_isEnough_24 : decode u_M_isEnough.2.1 24 = .ok (.ireturn, 1) := by decide +kernel
theorem d_M_isAsked_0 : decode u_M_isAsked.2.1 0 = .ok (.aload_n 0, 1) := by decide +kernel
theorem d_M_isAsked_1 : decode u_M_isAsked.2.1 1 = .ok (.iload_n 1, 1) := by decide +kernel
theorem d_M_isAsked_2 : decode u_M_isAsked.2.1 2 = .ok (.invokevirtual 193, 3) := by decide +kernel
theorem d_M_isAsked_5 : decode u_M_isAsked.2.1 5 = .ok (.ifCond .eq 36, 3) := by decide +kernel
theorem d_M_isAsked_8 : decode u_M_isAsked.2.1 8 = .ok (.aload_n 0, 1) := by decide +kernel
theorem d_M_isAsked_9 : decode u_M_isAsked.2.1 9 = .ok (.iload_n 2, 1) := by decide +kernel
theorem d_M_isAsked_10 : decode u_M_isAsked.2.1 10 = .ok (.invokevirtual 103, 3) := by decide +kernel
theorem d_M_isAsked_13 : decode u_M_isAsked.2.1 13 = .ok (.ifCond .eq 28, 3) := by decide +kernel
theorem d_M_isAsked_16 : decode u_M_isAsked.2.1 16 = .ok (.aload_n 0, 1) := by decide +kernel
theorem d_M_isAsked_17 : decode u_M_isAsked.2.1 17 = .ok (.iload_n 3, 1) := by decide +kernel
theorem d_M_isAsked_18 : decode u_M_isAsked.2.1 18 = .ok (.invokevirtual 114, 3) := by decide +kernel
theorem d_M_isAsked_21 : decode u_M_isAsked.2.1 21 = .ok (.ifCond .eq 20, 3) := by decide +kernel
theorem d_M_isAsked_24 : decode u_M_isAsked.2.1 24 = .ok (.iload 4, 2) := by decide +kernel
theorem d_M_isAsked_26 : decode u_M_isAsked.2.1 26 = .ok (.i2l, 1) := by decide +kernel
theorem d_M_isAsked_27 : decode u_M_isAsked.2.1 27 = .ok (.lconst 0, 1) := by decide +kernel
theorem d_M_isAsked_28 : decode u_M_isAsked.2.1 28 = .ok (.ldc2_w 155, 3) := by decide +kernel
theorem d_M_isAsked_31 : decode u_M_isAsked.2.1 31 = .ok (.invokestatic 69, 3) := by decide +kernel
theorem d_M_isAsked_34 : decode u_M_isAsked.2.1 34 = .ok (.ifCond .eq 7, 3) := by decide +kernel
theorem d_M_isAsked_37 : decode u_M_isAsked.2.1 37 = .ok (.iconst 1, 1) := by decide +kernel
theorem d_M_isAsked_38 : decode u_M_isAsked.2.1 38 = .ok (.goto 4, 3) := by decide +kernel
theorem d_M_isAsked_41 : decode u_M_isAsked.2.1 41 = .ok (.iconst 0, 1) := by decide +kernel
theorem d_M_isAsked_42 : decode u_M_isAsked.2.1 42 = .ok (.ireturn, 1) := by decide +kernel
theorem d_M_few_0 : decode u_M_few.2.1 0 = .ok (.aload_n 0, 1) := by decide +kernel
theorem d_M_few_1 : decode u_M_few.2.1 1 = .ok (.iload_n 1, 1) := by decide +kernel
theorem d_M_few_2 : decode u_M_few.2.1 2 = .ok (.iload_n 2, 1) := by decide +kernel
theorem d_M_few_3 : decode u_M_few.2.1 3 = .ok (.iload_n 3, 1) := by decide +kernel
theorem d_M_few_4 : decode u_M_few.2.1 4 = .ok (.iload 4, 2) := by decide +kernel
theorem d_M_few_6 : decode u_M_few.2.1 6 = .ok (.invokevirtual 250, 3) := by decide +kernel
theorem d_M_few_9 : decode u_M_few.2.1 9 = .ok (.ifCond .ne 6, 3) := by decide +kernel
theorem d_M_few_12 : decode u_M_few.2.1 12 = .ok (.bipush (-2), 2) := by decide +kernel
theorem d_M_few_14 : decode u_M_few.2.1 14 = .ok (.ireturn, 1) := by decide +kernel
theorem d_M_few_15 : decode u_M_few.2.1 15 = .ok (.aload_n 0, 1) := by decide +kernel
theorem d_M_few_16 : decode u_M_few.2.1 16 = .ok (.iload_n 1, 1) := by decide +kernel
theorem d_M_few_17 : decode u_M_few.2.1 17 = .ok (.iload_n 2, 1) := by decide +kernel
theorem d_M_few_18 : decode u_M_few.2.1 18 = .ok (.invokevirtual 218, 3) := by decide +kernel
theorem d_M_few_21 : decode u_M_few.2.1 21 = .ok (.ifCond .ne 6, 3) := by decide +kernel
theorem d_M_few_24 : decode u_M_few.2.1 24 = .ok (.bipush (-3), 2) := by decide +kernel
theorem d_M_few_26 : decode u_M_few.2.1 26 = .ok (.ireturn, 1) := by decide +kernel
theorem d_M_few_27 : decode u_M_few.2.1 27 = .ok (.iconst (-1), 1) := by decide +kernel
theorem d_M_few_28 : decode u_M_few.2.1 28 = .ok (.istore 5, 2) := by decide +kernel
theorem d_M_few_30 : decode u_M_few.2.1 30 = .ok (.iconst 1, 1) := by decide +kernel
theorem d_M_few_31 : decode u_M_few.2.1 31 = .ok (.istore 6, 2) := by decide +kernel
theorem d_M_few_33 : decode u_M_few.2.1 33 = .ok (.iload 6, 2) := by decide +kernel
theorem d_M_few_35 : decode u_M_few.2.1 35 = .ok (.sipush 256, 3) := by decide +kernel
theorem d_M_few_38 : decode u_M_few.2.1 38 = .ok (.if_icmp .ge 63, 3) := by decide +kernel
theorem d_M_few_41 : decode u_M_few.2.1 41 = .ok (.iload 5, 2) := by decide +kernel
theorem d_M_few_43 : decode u_M_few.2.1 43 = .ok (.iconst (-1), 1) := by decide +kernel
theorem d_M_few_44 : decode u_M_few.2.1 44 = .ok (.if_icmp .eq 16, 3) := by decide +kernel
theorem d_M_few_47 : decode u_M_few.2.1 47 = .ok (.iload 6, 2) := by decide +kernel
theorem d_M_few_49 : decode u_M_few.2.1 49 = .ok (.invokestatic 254, 3) := by decide +kernel
theorem d_M_few_52 : decode u_M_few.2.1 52 = .ok (.iload 5, 2) := by decide +kernel
theorem d_M_few_54 : decode u_M_few.2.1 54 = .ok (.invokestatic 254, 3) := by decide +kernel
theorem d_M_few_57 : decode u_M_few.2.1 57 = .ok (.if_icmp .ge 7, 3) := by decide +kernel
theorem d_M_few_60 : decode u_M_few.2.1 60 = .ok (.iconst 1, 1) := by decide +kernel
theorem d_M_few_61 : decode u_M_few.2.1 61 = .ok (.goto 4, 3) := by decide +kernel
theorem d_M_few_64 : decode u_M_few.2.1 64 = .ok (.iconst 0, 1) := by decide +kernel
theorem d_M_few_65 : decode u_M_few.2.1 65 = .ok (.istore 7, 2) := by decide +kernel
theorem d_M_few_67 : decode u_M_few.2.1 67 = .ok (.iload 7, 2) := by decide +kernel
theorem d_M_few_69 : decode u_M_few.2.1 69 = .ok (.ifCond .eq 22, 3) := by decide +kernel
theorem d_M_few_72 : decode u_M_few.2.1 72 = .ok (.aload_n 0, 1) := by decide +kernel
theorem d_M_few_73 : decode u_M_few.2.1 73 = .ok (.iload_n 1, 1) := by decide +kernel
theorem d_M_few_74 : decode u_M_few.2.1 74 = .ok (.iload_n 2, 1) := by decide +kernel
theorem d_M_few_75 : decode u_M_few.2.1 75 = .ok (.iload_n 3, 1) := by decide +kernel
theorem d_M_few_76 : decode u_M_few.2.1 76 = .ok (.iload 4, 2) := by decide +kernel
theorem d_M_few_78 : decode u_M_few.2.1 78 = .ok (.iload 6, 2) := by decide +kernel
theorem d_M_few_80 : decode u_M_few.2.1 80 = .ok (.invokevirtual 257, 3) := by decide +kernel
theorem d_M_few_83 : decode u_M_few.2.1 83 = .ok (.ifCond .eq 8, 3) := by decide +kernel
theorem d_M_few_86 : decode u_M_few.2.1 86 = .ok (.iload 6, 2) := by decide +kernel
theorem d_M_few_88 : decode u_M_few.2.1 88 = .ok (.goto 5, 3) := by decide +kernel
theorem d_M_few_91 : decode u_M_few.2.1 91 = .ok (.iload 5, 2) := by decide +kernel
theorem d_M_few_93 : decode u_M_few.2.1 93 = .ok (.istore 5, 2) := by decide +kernel
theorem d_M_few_95 : decode u_M_few.2.1 95 = .ok (.iinc 6 1, 3) := by decide +kernel
theorem d_M_few_98 : decode u_M_few.2.1 98 = .ok (.goto (-65), 3) := by decide +kernel
theorem d_M_few_101 : decode u_M_few.2.1 101 = .ok (.iload 5, 2) := by decide +kernel
theorem d_M_few_103 : decode u_M_few.2.1 103 = .ok (.ireturn, 1) := by decide +kernel
theorem d_M_stands_0 : decode u_M_stands.2.1 0 = .ok (.aload_n 0, 1) := by decide +kernel
theorem d_M_stands_1 : decode u_M_stands.2.1 1 = .ok (.iload_n 1, 1) := by decide +kernel
theorem d_M_stands_2 : decode u_M_stands.2.1 2 = .ok (.iload_n 2, 1) := by decide +kernel
theorem d_M_stands_3 : decode u_M_stands.2.1 3 = .ok (.iload_n 3, 1) := by decide +kernel
theorem d_M_stands_4 : decode u_M_stands.2.1 4 = .ok (.iload 4, 2) := by decide +kernel
theorem d_M_stands_6 : decode u_M_stands.2.1 6 = .ok (.invokevirtual 250, 3) := by decide +kernel
theorem d_M_stands_9 : decode u_M_stands.2.1 9 = .ok (.ifCond .ne 6, 3) := by decide +kernel
theorem d_M_stands_12 : decode u_M_stands.2.1 12 = .ok (.bipush (-2), 2) := by decide +kernel
theorem d_M_stands_14 : decode u_M_stands.2.1 14 = .ok (.ireturn, 1) := by decide +kernel
theorem d_M_stands_15 : decode u_M_stands.2.1 15 = .ok (.aload_n 0, 1) := by decide +kernel
theorem d_M_stands_16 : decode u_M_stands.2.1 16 = .ok (.iload_n 1, 1) := by decide +kernel
theorem d_M_stands_17 : decode u_M_stands.2.1 17 = .ok (.iload_n 2, 1) := by decide +kernel
theorem d_M_stands_18 : decode u_M_stands.2.1 18 = .ok (.invokevirtual 218, 3) := by decide +kernel
theorem d_M_stands_21 : decode u_M_stands.2.1 21 = .ok (.ifCond .ne 6, 3) := by decide +kernel
theorem d_M_stands_24 : decode u_M_stands.2.1 24 = .ok (.bipush (-3), 2) := by decide +kernel
theorem d_M_stands_26 : decode u_M_stands.2.1 26 = .ok (.ireturn, 1) := by decide +kernel
theorem d_M_stands_27 : decode u_M_stands.2.1 27 = .ok (.iconst 0, 1) := by decide +kernel
theorem d_M_stands_28 : decode u_M_stands.2.1 28 = .ok (.istore 5, 2) := by decide +kernel
theorem d_M_stands_30 : decode u_M_stands.2.1 30 = .ok (.iconst 0, 1) := by decide +kernel
theorem d_M_stands_31 : decode u_M_stands.2.1 31 = .ok (.istore 6, 2) := by decide +kernel
theorem d_M_stands_33 : decode u_M_stands.2.1 33 = .ok (.iload 6, 2) := by decide +kernel
theorem d_M_stands_35 : decode u_M_stands.2.1 35 = .ok (.bipush 8, 2) := by decide +kernel
theorem d_M_stands_37 : decode u_M_stands.2.1 37 = .ok (.if_icmp .ge 38, 3) := by decide +kernel
theorem d_M_stands_40 : decode u_M_stands.2.1 40 = .ok (.iload 5, 2) := by decide +kernel
theorem d_M_stands_42 : decode u_M_stands.2.1 42 = .ok (.aload_n 0, 1) := by decide +kernel
theorem d_M_stands_43 : decode u_M_stands.2.1 43 = .ok (.iload_n 1, 1) := by decide +kernel
theorem d_M_stands_44 : decode u_M_stands.2.1 44 = .ok (.iload_n 2, 1) := by decide +kernel
theorem d_M_stands_45 : decode u_M_stands.2.1 45 = .ok (.iload_n 3, 1) := by decide +kernel
theorem d_M_stands_46 : decode u_M_stands.2.1 46 = .ok (.iload 4, 2) := by decide +kernel
theorem d_M_stands_48 : decode u_M_stands.2.1 48 = .ok (.iconst 1, 1) := by decide +kernel
theorem d_M_stands_49 : decode u_M_stands.2.1 49 = .ok (.iload 6, 2) := by decide +kernel
theorem d_M_stands_51 : decode u_M_stands.2.1 51 = .ok (.ishl, 1) := by decide +kernel
theorem d_M_stands_52 : decode u_M_stands.2.1 52 = .ok (.invokevirtual 257, 3) := by decide +kernel
theorem d_M_stands_55 : decode u_M_stands.2.1 55 = .ok (.ifCond .eq 10, 3) := by decide +kernel
theorem d_M_stands_58 : decode u_M_stands.2.1 58 = .ok (.iconst 1, 1) := by decide +kernel
theorem d_M_stands_59 : decode u_M_stands.2.1 59 = .ok (.iload 6, 2) := by decide +kernel
theorem d_M_stands_61 : decode u_M_stands.2.1 61 = .ok (.ishl, 1) := by decide +kernel
theorem d_M_stands_62 : decode u_M_stands.2.1 62 = .ok (.goto 4, 3) := by decide +kernel
theorem d_M_stands_65 : decode u_M_stands.2.1 65 = .ok (.iconst 0, 1) := by decide +kernel
theorem d_M_stands_66 : decode u_M_stands.2.1 66 = .ok (.ior, 1) := by decide +kernel
theorem d_M_stands_67 : decode u_M_stands.2.1 67 = .ok (.istore 5, 2) := by decide +kernel
theorem d_M_stands_69 : decode u_M_stands.2.1 69 = .ok (.iinc 6 1, 3) := by decide +kernel
theorem d_M_stands_72 : decode u_M_stands.2.1 72 = .ok (.goto (-39), 3) := by decide +kernel
theorem d_M_stands_75 : decode u_M_stands.2.1 75 = .ok (.iload 5, 2) := by decide +kernel
theorem d_M_stands_77 : decode u_M_stands.2.1 77 = .ok (.ireturn, 1) := by decide +kernel
theorem d_M_grows_0 : decode u_M_grows.2.1 0 = .ok (.aload_n 0, 1) := by decide +kernel
theorem d_M_grows_1 : decode u_M_grows.2.1 1 = .ok (.iload_n 1, 1) := by decide +kernel
theorem d_M_grows_2 : decode u_M_grows.2.1 2 = .ok (.invokevirtual 103, 3) := by decide +kernel
theorem d_M_grows_5 : decode u_M_grows.2.1 5 = .ok (.ifCond .eq 17, 3) := by decide +kernel
theorem d_M_grows_8 : decode u_M_grows.2.1 8 = .ok (.iload_n 2, 1) := by decide +kernel
theorem d_M_grows_9 : decode u_M_grows.2.1 9 = .ok (.invokestatic 106, 3) := by decide +kernel
theorem d_M_grows_12 : decode u_M_grows.2.1 12 = .ok (.ifCond .eq 10, 3) := by decide +kernel
theorem d_M_grows_15 : decode u_M_grows.2.1 15 = .ok (.iload_n 3, 1) := by decide +kernel
theorem d_M_grows_16 : decode u_M_grows.2.1 16 = .ok (.invokestatic 211, 3) := by decide +kernel
theorem d_M_grows_19 : decode u_M_grows.2.1 19 = .ok (.ifCond .ne 9, 3) := by decide +kernel
theorem d_M_grows_22 : decode u_M_grows.2.1 22 = .ok (.bipush (-2), 2) := by decide +kernel
theorem d_M_grows_24 : decode u_M_grows.2.1 24 = .ok (.invokestatic 214, 3) := by decide +kernel
theorem d_M_grows_27 : decode u_M_grows.2.1 27 = .ok (.lreturn, 1) := by decide +kernel
theorem d_M_grows_28 : decode u_M_grows.2.1 28 = .ok (.lconst 0, 1) := by decide +kernel
theorem d_M_grows_29 : decode u_M_grows.2.1 29 = .ok (.lstore 4, 2) := by decide +kernel
theorem d_M_grows_31 : decode u_M_grows.2.1 31 = .ok (.lconst 0, 1) := by decide +kernel
theorem d_M_grows_32 : decode u_M_grows.2.1 32 = .ok (.lstore 6, 2) := by decide +kernel
theorem d_M_grows_34 : decode u_M_grows.2.1 34 = .ok (.lconst 0, 1) := by decide +kernel
theorem d_M_grows_35 : decode u_M_grows.2.1 35 = .ok (.lstore 8, 2) := by decide +kernel
theorem d_M_grows_37 : decode u_M_grows.2.1 37 = .ok (.lconst 0, 1) := by decide +kernel
theorem d_M_grows_38 : decode u_M_grows.2.1 38 = .ok (.lstore 10, 2) := by decide +kernel
theorem d_M_grows_40 : decode u_M_grows.2.1 40 = .ok (.lconst 0, 1) := by decide +kernel
theorem d_M_grows_41 : decode u_M_grows.2.1 41 = .ok (.lstore 12, 2) := by decide +kernel
theorem d_M_grows_43 : decode u_M_grows.2.1 43 = .ok (.iconst 0, 1) := by decide +kernel
theorem d_M_grows_44 : decode u_M_grows.2.1 44 = .ok (.istore 14, 2) := by decide +kernel
theorem d_M_grows_46 : decode u_M_grows.2.1 46 = .ok (.iload 14, 2) := by decide +kernel
theorem d_M_grows_48 : decode u_M_grows.2.1 48 = .ok (.aload_n 0, 1) := by decide +kernel
theorem d_M_grows_49 : decode u_M_grows.2.1 49 = .ok (.getfield 157, 3) := by decide +kernel
theorem d_M_grows_52 : decode u_M_grows.2.1 52 = .ok (.if_icmp .ge 94, 3) := by decide +kernel
theorem d_M_grows_55 : decode u_M_grows.2.1 55 = .ok (.aload_n 0, 1) := by decide +kernel
theorem d_M_grows_56 : decode u_M_grows.2.1 56 = .ok (.getfield 49, 3) := by decide +kernel
theorem d_M_grows_59 : decode u_M_grows.2.1 59 = .ok (.bipush 8, 2) := by decide +kernel
theorem d_M_grows_61 : decode u_M_grows.2.1 61 = .ok (.iload 14, 2) := by decide +kernel
theorem d_M_grows_63 : decode u_M_grows.2.1 63 = .ok (.imul, 1) := by decide +kernel
theorem d_M_grows_64 : decode u_M_grows.2.1 64 = .ok (.iload_n 2, 1) := by decide +kernel
theorem d_M_grows_65 : decode u_M_grows.2.1 65 = .ok (.iadd, 1) := by decide +kernel
theorem d_M_grows_66 : decode u_M_grows.2.1 66 = .ok (.iaload, 1) := by decide +kernel
theorem d_M_grows_67 : decode u_M_grows.2.1 67 = .ok (.istore 15, 2) := by decide +kernel
theorem d_M_grows_69 : decode u_M_grows.2.1 69 = .ok (.aload_n 0, 1) := by decide +kernel
theorem d_M_grows_70 : decode u_M_grows.2.1 70 = .ok (.getfield 37, 3) := by decide +kernel
theorem d_M_grows_73 : decode u_M_grows.2.1 73 = .ok (.iload 14, 2) := by decide +kernel
theorem d_M_grows_75 : decode u_M_grows.2.1 75 = .ok (.iaload, 1) := by decide +kernel
theorem d_M_grows_76 : decode u_M_grows.2.1 76 = .ok (.iload_n 1, 1) := by decide +kernel
theorem d_M_grows_77 : decode u_M_grows.2.1 77 = .ok (.if_icmp .ne 63, 3) := by decide +kernel
theorem d_M_grows_80 : decode u_M_grows.2.1 80 = .ok (.iload 15, 2) := by decide +kernel
theorem d_M_grows_82 : decode u_M_grows.2.1 82 = .ok (.sipush (-9999), 3) := by decide +kernel
theorem d_M_grows_85 : decode u_M_grows.2.1 85 = .ok (.if_icmp .eq 55, 3) := by decide +kernel
theorem d_M_grows_88 : decode u_M_grows.2.1 88 = .ok (.aload_n 0, 1) := by decide +kernel
theorem d_M_grows_89 : decode u_M_grows.2.1 89 = .ok (.getfield 40, 3) := by decide +kernel
theorem d_M_grows_92 : decode u_M_grows.2.1 92 = .ok (.iload 14, 2) := by decide +kernel
theorem d_M_grows_94 : decode u_M_grows.2.1 94 = .ok (.iaload, 1) := by decide +kernel
theorem d_M_grows_95 : decode u_M_grows.2.1 95 = .ok (.i2l, 1) := by decide +kernel
theorem d_M_grows_96 : decode u_M_grows.2.1 96 = .ok (.lstore 16, 2) := by decide +kernel
theorem d_M_grows_98 : decode u_M_grows.2.1 98 = .ok (.lload 4, 2) := by decide +kernel
theorem d_M_grows_100 : decode u_M_grows.2.1 100 = .ok (.lconst 1, 1) := by decide +kernel
theorem d_M_grows_101 : decode u_M_grows.2.1 101 = .ok (.ladd, 1) := by decide +kernel
theorem d_M_grows_102 : decode u_M_grows.2.1 102 = .ok (.lstore 4, 2) := by decide +kernel
theorem d_M_grows_104 : decode u_M_grows.2.1 104 = .ok (.lload 6, 2) := by decide +kernel
theorem d_M_grows_106 : decode u_M_grows.2.1 106 = .ok (.lload 16, 2) := by decide +kernel
theorem d_M_grows_108 : decode u_M_grows.2.1 108 = .ok (.ladd, 1) := by decide +kernel
theorem d_M_grows_109 : decode u_M_grows.2.1 109 = .ok (.lstore 6, 2) := by decide +kernel
theorem d_M_grows_111 : decode u_M_grows.2.1 111 = .ok (.lload 8, 2) := by decide +kernel
theorem d_M_grows_113 : decode u_M_grows.2.1 113 = .ok (.iload 15, 2) := by decide +kernel
theorem d_M_grows_115 : decode u_M_grows.2.1 115 = .ok (.i2l, 1) := by decide +kernel
theorem d_M_grows_116 : decode u_M_grows.2.1 116 = .ok (.ladd, 1) := by decide +kernel
theorem d_M_grows_117 : decode u_M_grows.2.1 117 = .ok (.lstore 8, 2) := by decide +kernel
theorem d_M_grows_119 : decode u_M_grows.2.1 119 = .ok (.lload 10, 2) := by decide +kernel
theorem d_M_grows_121 : decode u_M_grows.2.1 121 = .ok (.lload 16, 2) := by decide +kernel
theorem d_M_grows_123 : decode u_M_grows.2.1 123 = .ok (.iload 15, 2) := by decide +kernel
theorem d_M_grows_125 : decode u_M_grows.2.1 125 = .ok (.i2l, 1) := by decide +kernel
theorem d_M_grows_126 : decode u_M_grows.2.1 126 = .ok (.lmul, 1) := by decide +kernel
theorem d_M_grows_127 : decode u_M_grows.2.1 127 = .ok (.ladd, 1) := by decide +kernel
theorem d_M_grows_128 : decode u_M_grows.2.1 128 = .ok (.lstore 10, 2) := by decide +kernel
theorem d_M_grows_130 : decode u_M_grows.2.1 130 = .ok (.lload 12, 2) := by decide +kernel
theorem d_M_grows_132 : decode u_M_grows.2.1 132 = .ok (.lload 16, 2) := by decide +kernel
theorem d_M_grows_134 : decode u_M_grows.2.1 134 = .ok (.lload 16, 2) := by decide +kernel
theorem d_M_grows_136 : decode u_M_grows.2.1 136 = .ok (.lmul, 1) := by decide +kernel
theorem d_M_grows_137 : decode u_M_grows.2.1 137 = .ok (.ladd, 1) := by decide +kernel
theorem d_M_grows_138 : decode u_M_grows.2.1 138 = .ok (.lstore 12, 2) := by decide +kernel
theorem d_M_grows_140 : decode u_M_grows.2.1 140 = .ok (.iinc 14 1, 3) := by decide +kernel
theorem d_M_grows_143 : decode u_M_grows.2.1 143 = .ok (.goto (-97), 3) := by decide +kernel
theorem d_M_grows_146 : decode u_M_grows.2.1 146 = .ok (.lload 4, 2) := by decide +kernel
theorem d_M_grows_148 : decode u_M_grows.2.1 148 = .ok (.lload 12, 2) := by decide +kernel
theorem d_M_grows_150 : decode u_M_grows.2.1 150 = .ok (.lmul, 1) := by decide +kernel
theorem d_M_grows_151 : decode u_M_grows.2.1 151 = .ok (.lload 6, 2) := by decide +kernel
theorem d_M_grows_153 : decode u_M_grows.2.1 153 = .ok (.lload 6, 2) := by decide +kernel
theorem d_M_grows_155 : decode u_M_grows.2.1 155 = .ok (.lmul, 1) := by decide +kernel
theorem d_M_grows_156 : decode u_M_grows.2.1 156 = .ok (.lsub, 1) := by decide +kernel
theorem d_M_grows_157 : decode u_M_grows.2.1 157 = .ok (.lstore 14, 2) := by decide +kernel
theorem d_M_grows_159 : decode u_M_grows.2.1 159 = .ok (.lload 14, 2) := by decide +kernel
theorem d_M_grows_161 : decode u_M_grows.2.1 161 = .ok (.lconst 0, 1) := by decide +kernel
theorem d_M_grows_162 : decode u_M_grows.2.1 162 = .ok (.lcmp, 1) := by decide +kernel
theorem d_M_grows_163 : decode u_M_grows.2.1 163 = .ok (.ifCond .ne 11, 3) := by decide +kernel
theorem d_M_grows_166 : decode u_M_grows.2.1 166 = .ok (.bipush (-3), 2) := by decide +kernel
theorem d_M_grows_168 : decode u_M_grows.2.1 168 = .ok (.invokestatic 214, 3) := by decide +kernel
theorem d_M_grows_171 : decode u_M_grows.2.1 171 = .ok (.goto 20, 3) := by decide +kernel
theorem d_M_grows_174 : decode u_M_grows.2.1 174 = .ok (.lload 4, 2) := by decide +kernel
theorem d_M_grows_176 : decode u_M_grows.2.1 176 = .ok (.lload 10, 2) := by decide +kernel
theorem d_M_grows_178 : decode u_M_grows.2.1 178 = .ok (.lmul, 1) := by decide +kernel
theorem d_M_grows_179 : decode u_M_grows.2.1 179 = .ok (.lload 6, 2) := by decide +kernel
theorem d_M_grows_181 : decode u_M_grows.2.1 181 = .ok (.lload 8, 2) := by decide +kernel
theorem d_M_grows_183 : decode u_M_grows.2.1 183 = .ok (.lmul, 1) := by decide +kernel
theorem d_M_grows_184 : decode u_M_grows.2.1 184 = .ok (.lsub, 1) := by decide +kernel
theorem d_M_grows_185 : decode u_M_grows.2.1 185 = .ok (.lload 14, 2) := by decide +kernel
theorem d_M_grows_187 : decode u_M_grows.2.1 187 = .ok (.iload_n 3, 1) := by decide +kernel
theorem d_M_grows_188 : decode u_M_grows.2.1 188 = .ok (.invokestatic 230, 3) := by decide +kernel
theorem d_M_grows_191 : decode u_M_grows.2.1 191 = .ok (.lreturn, 1) := by decide +kernel
theorem d_M_backOf_0 : decode u_M_backOf.2.1 0 = .ok (.aload_n 0, 1) := by decide +kernel
theorem d_M_backOf_1 : decode u_M_backOf.2.1 1 = .ok (.getfield 31, 3) := by decide +kernel
theorem d_M_backOf_4 : decode u_M_backOf.2.1 4 = .ok (.iload_n 2, 1) := by decide +kernel
theorem d_M_backOf_5 : decode u_M_backOf.2.1 5 = .ok (.iaload, 1) := by decide +kernel
theorem d_M_backOf_6 : decode u_M_backOf.2.1 6 = .ok (.istore_n 3, 1) := by decide +kernel
theorem d_M_backOf_7 : decode u_M_backOf.2.1 7 = .ok (.iconst 0, 1) := by decide +kernel
theorem d_M_backOf_8 : decode u_M_backOf.2.1 8 = .ok (.istore 4, 2) := by decide +kernel
theorem d_M_backOf_10 : decode u_M_backOf.2.1 10 = .ok (.iconst 0, 1) := by decide +kernel
theorem d_M_backOf_11 : decode u_M_backOf.2.1 11 = .ok (.istore 5, 2) := by decide +kernel
theorem d_M_backOf_13 : decode u_M_backOf.2.1 13 = .ok (.iconst 0, 1) := by decide +kernel
theorem d_M_backOf_14 : decode u_M_backOf.2.1 14 = .ok (.istore 6, 2) := by decide +kernel
theorem d_M_backOf_16 : decode u_M_backOf.2.1 16 = .ok (.iload 6, 2) := by decide +kernel
theorem d_M_backOf_18 : decode u_M_backOf.2.1 18 = .ok (.aload_n 0, 1) := by decide +kernel
theorem d_M_backOf_19 : decode u_M_backOf.2.1 19 = .ok (.getfield 157, 3) := by decide +kernel
theorem d_M_backOf_22 : decode u_M_backOf.2.1 22 = .ok (.if_icmp .ge 99, 3) := by decide +kernel
theorem d_M_backOf_25 : decode u_M_backOf.2.1 25 = .ok (.iload_n 3, 1) := by decide +kernel
theorem d_M_backOf_26 : decode u_M_backOf.2.1 26 = .ok (.ifCond .eq 95, 3) := by decide +kernel
theorem d_M_backOf_29 : decode u_M_backOf.2.1 29 = .ok (.iload_n 3, 1) := by decide +kernel
theorem d_M_backOf_30 : decode u_M_backOf.2.1 30 = .ok (.sipush (-9999), 3) := by decide +kernel
theorem d_M_backOf_33 : decode u_M_backOf.2.1 33 = .ok (.if_icmp .eq 88, 3) := by decide +kernel
theorem d_M_backOf_36 : decode u_M_backOf.2.1 36 = .ok (.aload_n 0, 1) := by decide +kernel
theorem d_M_backOf_37 : decode u_M_backOf.2.1 37 = .ok (.getfield 49, 3) := by decide +kernel
theorem d_M_backOf_40 : decode u_M_backOf.2.1 40 = .ok (.bipush 8, 2) := by decide +kernel
theorem d_M_backOf_42 : decode u_M_backOf.2.1 42 = .ok (.iload 6, 2) := by decide +kernel
theorem d_M_backOf_44 : decode u_M_backOf.2.1 44 = .ok (.imul, 1) := by decide +kernel
theorem d_M_backOf_45 : decode u_M_backOf.2.1 45 = .ok (.iload_n 2, 1) := by decide +kernel
theorem d_M_backOf_46 : decode u_M_backOf.2.1 46 = .ok (.iadd, 1) := by decide +kernel
theorem d_M_backOf_47 : decode u_M_backOf.2.1 47 = .ok (.iaload, 1) := by decide +kernel
theorem d_M_backOf_48 : decode u_M_backOf.2.1 48 = .ok (.istore 7, 2) := by decide +kernel
theorem d_M_backOf_50 : decode u_M_backOf.2.1 50 = .ok (.aload_n 0, 1) := by decide +kernel
theorem d_M_backOf_51 : decode u_M_backOf.2.1 51 = .ok (.getfield 37, 3) := by decide +kernel
theorem d_M_backOf_54 : decode u_M_backOf.2.1 54 = .ok (.iload 6, 2) := by decide +kernel
theorem d_M_backOf_56 : decode u_M_backOf.2.1 56 = .ok (.iaload, 1) := by decide +kernel
theorem d_M_backOf_57 : decode u_M_backOf.2.1 57 = .ok (.iload_n 1, 1) := by decide +kernel
theorem d_M_backOf_58 : decode u_M_backOf.2.1 58 = .ok (.if_icmp .ne 57, 3) := by decide +kernel
theorem d_M_backOf_61 : decode u_M_backOf.2.1 61 = .ok (.aload_n 0, 1) := by decide +kernel
theorem d_M_backOf_62 : decode u_M_backOf.2.1 62 = .ok (.getfield 43, 3) := by decide +kernel
