theorem d_Fr_init_0 : decode u_Fr_init.2.1 0 = .ok (.aload_n 0, 1) := by decide +kernel
theorem d_Fr_init_1 : decode u_Fr_init.2.1 1 = .ok (.invokespecial 1, 3) := by decide +kernel
theorem d_Fr_init_4 : decode u_Fr_init.2.1 4 = .ok (.aload_n 0, 1) := by decide +kernel
theorem d_Fr_init_5 : decode u_Fr_init.2.1 5 = .ok (.lconst 1, 1) := by decide +kernel
theorem d_Fr_init_6 : decode u_Fr_init.2.1 6 = .ok (.putfield 7, 3) := by decide +kernel
theorem d_Fr_init_9 : decode u_Fr_init.2.1 9 = .ok (.return_, 1) := by decide +kernel
theorem d_Fr_become_0 : decode u_Fr_become.2.1 0 = .ok (.aload_n 0, 1) := by decide +kernel
theorem d_Fr_become_1 : decode u_Fr_become.2.1 1 = .ok (.lload_n 1, 1) := by decide +kernel
theorem d_Fr_become_2 : decode u_Fr_become.2.1 2 = .ok (.putfield 13, 3) := by decide +kernel
theorem d_Fr_become_5 : decode u_Fr_become.2.1 5 = .ok (.aload_n 0, 1) := by decide +kernel
theorem d_Fr_become_6 : decode u_Fr_become.2.1 6 = .ok (.lload_n 3, 1) := by decide +kernel
theorem d_Fr_become_7 : decode u_Fr_become.2.1 7 = .ok (.putfield 7, 3) := by decide +kernel
theorem d_Fr_become_10 : decode u_Fr_become.2.1 10 = .ok (.return_, 1) := by decide +kernel
theorem d_Fr_cut_0 : decode u_Fr_cut.2.1 0 = .ok (.aload_n 0, 1) := by decide +kernel
theorem d_Fr_cut_1 : decode u_Fr_cut.2.1 1 = .ok (.getfield 7, 3) := by decide +kernel
theorem d_Fr_cut_4 : decode u_Fr_cut.2.1 4 = .ok (.lconst 0, 1) := by decide +kernel
theorem d_Fr_cut_5 : decode u_Fr_cut.2.1 5 = .ok (.lcmp, 1) := by decide +kernel
theorem d_Fr_cut_6 : decode u_Fr_cut.2.1 6 = .ok (.ifCond .ne 7, 3) := by decide +kernel
theorem d_Fr_cut_9 : decode u_Fr_cut.2.1 9 = .ok (.lconst 0, 1) := by decide +kernel
theorem d_Fr_cut_10 : decode u_Fr_cut.2.1 10 = .ok (.goto 12, 3) := by decide +kernel
theorem d_Fr_cut_13 : decode u_Fr_cut.2.1 13 = .ok (.aload_n 0, 1) := by decide +kernel
theorem d_Fr_cut_14 : decode u_Fr_cut.2.1 14 = .ok (.getfield 13, 3) := by decide +kernel
theorem d_Fr_cut_17 : decode u_Fr_cut.2.1 17 = .ok (.aload_n 0, 1) := by decide +kernel
theorem d_Fr_cut_18 : decode u_Fr_cut.2.1 18 = .ok (.getfield 7, 3) := by decide +kernel
theorem d_Fr_cut_21 : decode u_Fr_cut.2.1 21 = .ok (.ldiv, 1) := by decide +kernel
theorem d_Fr_cut_22 : decode u_Fr_cut.2.1 22 = .ok (.lreturn, 1) := by decide +kernel
theorem d_Fr_isAbove_0 : decode u_Fr_isAbove.2.1 0 = .ok (.aload_n 0, 1) := by decide +kernel
theorem d_Fr_isAbove_1 : decode u_Fr_isAbove.2.1 1 = .ok (.invokevirtual 16, 3) := by decide +kernel
theorem d_Fr_isAbove_4 : decode u_Fr_isAbove.2.1 4 = .ok (.lstore_n 2, 1) := by decide +kernel
theorem d_Fr_isAbove_5 : decode u_Fr_isAbove.2.1 5 = .ok (.aload_n 1, 1) := by decide +kernel
theorem d_Fr_isAbove_6 : decode u_Fr_isAbove.2.1 6 = .ok (.invokevirtual 16, 3) := by decide +kernel
theorem d_Fr_isAbove_9 : decode u_Fr_isAbove.2.1 9 = .ok (.lstore 4, 2) := by decide +kernel
theorem d_Fr_isAbove_11 : decode u_Fr_isAbove.2.1 11 = .ok (.lload_n 2, 1) := by decide +kernel
theorem d_Fr_isAbove_12 : decode u_Fr_isAbove.2.1 12 = .ok (.lload 4, 2) := by decide +kernel
theorem d_Fr_isAbove_14 : decode u_Fr_isAbove.2.1 14 = .ok (.lcmp, 1) := by decide +kernel
theorem d_Fr_isAbove_15 : decode u_Fr_isAbove.2.1 15 = .ok (.ifCond .eq 16, 3) := by decide +kernel
theorem d_Fr_isAbove_18 : decode u_Fr_isAbove.2.1 18 = .ok (.lload_n 2, 1) := by decide +kernel
theorem d_Fr_isAbove_19 : decode u_Fr_isAbove.2.1 19 = .ok (.lload 4, 2) := by decide +kernel
theorem d_Fr_isAbove_21 : decode u_Fr_isAbove.2.1 21 = .ok (.lcmp, 1) := by decide +kernel
theorem d_Fr_isAbove_22 : decode u_Fr_isAbove.2.1 22 = .ok (.ifCond .le 7, 3) := by decide +kernel
theorem d_Fr_isAbove_25 : decode u_Fr_isAbove.2.1 25 = .ok (.iconst 1, 1) := by decide +kernel
theorem d_Fr_isAbove_26 : decode u_Fr_isAbove.2.1 26 = .ok (.goto 4, 3) := by decide +kernel
theorem d_Fr_isAbove_29 : decode u_Fr_isAbove.2.1 29 = .ok (.iconst 0, 1) := by decide +kernel
theorem d_Fr_isAbove_30 : decode u_Fr_isAbove.2.1 30 = .ok (.ireturn, 1) := by decide +kernel
theorem d_Fr_isAbove_31 : decode u_Fr_isAbove.2.1 31 = .ok (.aload_n 0, 1) := by decide +kernel
theorem d_Fr_isAbove_32 : decode u_Fr_isAbove.2.1 32 = .ok (.getfield 13, 3) := by decide +kernel
theorem d_Fr_isAbove_35 : decode u_Fr_isAbove.2.1 35 = .ok (.lload_n 2, 1) := by decide +kernel
theorem d_Fr_isAbove_36 : decode u_Fr_isAbove.2.1 36 = .ok (.aload_n 0, 1) := by decide +kernel
theorem d_Fr_isAbove_37 : decode u_Fr_isAbove.2.1 37 = .ok (.getfield 7, 3) := by decide +kernel
theorem d_Fr_isAbove_40 : decode u_Fr_isAbove.2.1 40 = .ok (.lmul, 1) := by decide +kernel
theorem d_Fr_isAbove_41 : decode u_Fr_isAbove.2.1 41 = .ok (.lsub, 1) := by decide +kernel
theorem d_Fr_isAbove_42 : decode u_Fr_isAbove.2.1 42 = .ok (.lstore 6, 2) := by decide +kernel
theorem d_Fr_isAbove_44 : decode u_Fr_isAbove.2.1 44 = .ok (.aload_n 1, 1) := by decide +kernel
theorem d_Fr_isAbove_45 : decode u_Fr_isAbove.2.1 45 = .ok (.getfield 13, 3) := by decide +kernel
theorem d_Fr_isAbove_48 : decode u_Fr_isAbove.2.1 48 = .ok (.lload 4, 2) := by decide +kernel
theorem d_Fr_isAbove_50 : decode u_Fr_isAbove.2.1 50 = .ok (.aload_n 1, 1) := by decide +kernel
theorem d_Fr_isAbove_51 : decode u_Fr_isAbove.2.1 51 = .ok (.getfield 7, 3) := by decide +kernel
theorem d_Fr_isAbove_54 : decode u_Fr_isAbove.2.1 54 = .ok (.lmul, 1) := by decide +kernel
theorem d_Fr_isAbove_55 : decode u_Fr_isAbove.2.1 55 = .ok (.lsub, 1) := by decide +kernel
theorem d_Fr_isAbove_56 : decode u_Fr_isAbove.2.1 56 = .ok (.lstore 8, 2) := by decide +kernel
theorem d_Fr_isAbove_58 : decode u_Fr_isAbove.2.1 58 = .ok (.lload 6, 2) := by decide +kernel
theorem d_Fr_isAbove_60 : decode u_Fr_isAbove.2.1 60 = .ok (.aload_n 1, 1) := by decide +kernel
theorem d_Fr_isAbove_61 : decode u_Fr_isAbove.2.1 61 = .ok (.getfield 7, 3) := by decide +kernel
theorem d_Fr_isAbove_64 : decode u_Fr_isAbove.2.1 64 = .ok (.lmul, 1) := by decide +kernel
theorem d_Fr_isAbove_65 : decode u_Fr_isAbove.2.1 65 = .ok (.lload 8, 2) := by decide +kernel
theorem d_Fr_isAbove_67 : decode u_Fr_isAbove.2.1 67 = .ok (.aload_n 0, 1) := by decide +kernel
theorem d_Fr_isAbove_68 : decode u_Fr_isAbove.2.1 68 = .ok (.getfield 7, 3) := by decide +kernel
theorem d_Fr_isAbove_71 : decode u_Fr_isAbove.2.1 71 = .ok (.lmul, 1) := by decide +kernel
theorem d_Fr_isAbove_72 : decode u_Fr_isAbove.2.1 72 = .ok (.lcmp, 1) := by decide +kernel
theorem d_Fr_isAbove_73 : decode u_Fr_isAbove.2.1 73 = .ok (.ifCond .le 7, 3) := by decide +kernel
theorem d_Fr_isAbove_76 : decode u_Fr_isAbove.2.1 76 = .ok (.iconst 1, 1) := by decide +kernel
theorem d_Fr_isAbove_77 : decode u_Fr_isAbove.2.1 77 = .ok (.goto 4, 3) := by decide +kernel
theorem d_Fr_isAbove_80 : decode u_Fr_isAbove.2.1 80 = .ok (.iconst 0, 1) := by decide +kernel
theorem d_Fr_isAbove_81 : decode u_Fr_isAbove.2.1 81 = .ok (.ireturn, 1) := by decide +kernel
theorem d_Fr_told_0 : decode u_Fr_told.2.1 0 = .ok (.aload_n 0, 1) := by decide +kernel
theorem d_Fr_told_1 : decode u_Fr_told.2.1 1 = .ok (.getfield 13, 3) := by decide +kernel
theorem d_Fr_told_4 : decode u_Fr_told.2.1 4 = .ok (.invokestatic 20, 3) := by decide +kernel
theorem d_Fr_told_7 : decode u_Fr_told.2.1 7 = .ok (.lstore_n 2, 1) := by decide +kernel
theorem d_Fr_told_8 : decode u_Fr_told.2.1 8 = .ok (.aload_n 0, 1) := by decide +kernel
theorem d_Fr_told_9 : decode u_Fr_told.2.1 9 = .ok (.getfield 7, 3) := by decide +kernel
theorem d_Fr_told_12 : decode u_Fr_told.2.1 12 = .ok (.lstore 4, 2) := by decide +kernel
theorem d_Fr_told_14 : decode u_Fr_told.2.1 14 = .ok (.iconst 0, 1) := by decide +kernel
theorem d_Fr_told_15 : decode u_Fr_told.2.1 15 = .ok (.istore 6, 2) := by decide +kernel
theorem d_Fr_told_17 : decode u_Fr_told.2.1 17 = .ok (.iload 6, 2) := by decide +kernel
theorem d_Fr_told_19 : decode u_Fr_told.2.1 19 = .ok (.bipush 100, 2) := by decide +kernel
theorem d_Fr_told_21 : decode u_Fr_told.2.1 21 = .ok (.if_icmp .ge 29, 3) := by decide +kernel
theorem d_Fr_told_24 : decode u_Fr_told.2.1 24 = .ok (.lload 4, 2) := by decide +kernel
theorem d_Fr_told_26 : decode u_Fr_told.2.1 26 = .ok (.lconst 0, 1) := by decide +kernel
theorem d_Fr_told_27 : decode u_Fr_told.2.1 27 = .ok (.lcmp, 1) := by decide +kernel
theorem d_Fr_told_28 : decode u_Fr_told.2.1 28 = .ok (.ifCond .eq 22, 3) := by decide +kernel
theorem d_Fr_told_31 : decode u_Fr_told.2.1 31 = .ok (.lload_n 2, 1) := by decide +kernel
theorem d_Fr_told_32 : decode u_Fr_told.2.1 32 = .ok (.lload 4, 2) := by decide +kernel
theorem d_Fr_told_34 : decode u_Fr_told.2.1 34 = .ok (.lrem, 1) := by decide +kernel
theorem d_Fr_told_35 : decode u_Fr_told.2.1 35 = .ok (.lstore 7, 2) := by decide +kernel
theorem d_Fr_told_37 : decode u_Fr_told.2.1 37 = .ok (.lload 4, 2) := by decide +kernel
theorem d_Fr_told_39 : decode u_Fr_told.2.1 39 = .ok (.lstore_n 2, 1) := by decide +kernel
theorem d_Fr_told_40 : decode u_Fr_told.2.1 40 = .ok (.lload 7, 2) := by decide +kernel
theorem d_Fr_told_42 : decode u_Fr_told.2.1 42 = .ok (.lstore 4, 2) := by decide +kernel
theorem d_Fr_told_44 : decode u_Fr_told.2.1 44 = .ok (.iinc 6 1, 3) := by decide +kernel
theorem d_Fr_told_47 : decode u_Fr_told.2.1 47 = .ok (.goto (-30), 3) := by decide +kernel
theorem d_Fr_told_50 : decode u_Fr_told.2.1 50 = .ok (.lload_n 2, 1) := by decide +kernel
theorem d_Fr_told_51 : decode u_Fr_told.2.1 51 = .ok (.lconst 0, 1) := by decide +kernel
theorem d_Fr_told_52 : decode u_Fr_told.2.1 52 = .ok (.lcmp, 1) := by decide +kernel
theorem d_Fr_told_53 : decode u_Fr_told.2.1 53 = .ok (.ifCond .ne 13, 3) := by decide +kernel
theorem d_Fr_told_56 : decode u_Fr_told.2.1 56 = .ok (.iload_n 1, 1) := by decide +kernel
theorem d_Fr_told_57 : decode u_Fr_told.2.1 57 = .ok (.ifCond .ne 7, 3) := by decide +kernel
theorem d_Fr_told_60 : decode u_Fr_told.2.1 60 = .ok (.lconst 0, 1) := by decide +kernel
theorem d_Fr_told_61 : decode u_Fr_told.2.1 61 = .ok (.goto 4, 3) := by decide +kernel
theorem d_Fr_told_64 : decode u_Fr_told.2.1 64 = .ok (.lconst 1, 1) := by decide +kernel
theorem d_Fr_told_65 : decode u_Fr_told.2.1 65 = .ok (.lreturn, 1) := by decide +kernel
theorem d_Fr_told_66 : decode u_Fr_told.2.1 66 = .ok (.iload_n 1, 1) := by decide +kernel
theorem d_Fr_told_67 : decode u_Fr_told.2.1 67 = .ok (.ifCond .ne 12, 3) := by decide +kernel
theorem d_Fr_told_70 : decode u_Fr_told.2.1 70 = .ok (.aload_n 0, 1) := by decide +kernel
theorem d_Fr_told_71 : decode u_Fr_told.2.1 71 = .ok (.getfield 13, 3) := by decide +kernel
theorem d_Fr_told_74 : decode u_Fr_told.2.1 74 = .ok (.lload_n 2, 1) := by decide +kernel
theorem d_Fr_told_75 : decode u_Fr_told.2.1 75 = .ok (.ldiv, 1) := by decide +kernel
theorem d_Fr_told_76 : decode u_Fr_told.2.1 76 = .ok (.goto 9, 3) := by decide +kernel
theorem d_Fr_told_79 : decode u_Fr_told.2.1 79 = .ok (.aload_n 0, 1) := by decide +kernel
theorem d_Fr_told_80 : decode u_Fr_told.2.1 80 = .ok (.getfield 7, 3) := by decide +kernel
theorem d_Fr_told_83 : decode u_Fr_told.2.1 83 = .ok (.lload_n 2, 1) := by decide +kernel
theorem d_Fr_told_84 : decode u_Fr_told.2.1 84 = .ok (.ldiv, 1) := by decide +kernel
theorem d_Fr_told_85 : decode u_Fr_told.2.1 85 = .ok (.lreturn, 1) := by decide +kernel
theorem d_Ha_init_0 : decode u_Ha_init.2.1 0 = .ok (.aload_n 0, 1) := by decide +kernel
theorem d_Ha_init_1 : decode u_Ha_init.2.1 1 = .ok (.invokespecial 3, 3) := by decide +kernel
theorem d_Ha_init_4 : decode u_Ha_init.2.1 4 = .ok (.aload_n 0, 1) := by decide +kernel
theorem d_Ha_init_5 : decode u_Ha_init.2.1 5 = .ok (.bipush 40, 2) := by decide +kernel
theorem d_Ha_init_7 : decode u_Ha_init.2.1 7 = .ok (.newarray .int, 2) := by decide +kernel
theorem d_Ha_init_9 : decode u_Ha_init.2.1 9 = .ok (.putfield 9, 3) := by decide +kernel
theorem d_Ha_init_12 : decode u_Ha_init.2.1 12 = .ok (.aload_n 0, 1) := by decide +kernel
theorem d_Ha_init_13 : decode u_Ha_init.2.1 13 = .ok (.bipush 8, 2) := by decide +kernel
theorem d_Ha_init_15 : decode u_Ha_init.2.1 15 = .ok (.newarray .int, 2) := by decide +kernel
theorem d_Ha_init_17 : decode u_Ha_init.2.1 17 = .ok (.putfield 15, 3) := by decide +kernel
theorem d_Ha_init_20 : decode u_Ha_init.2.1 20 = .ok (.aload_n 0, 1) := by decide +kernel
theorem d_Ha_init_21 : decode u_Ha_init.2.1 21 = .ok (.iconst (-1), 1) := by decide +kernel
theorem d_Ha_init_22 : decode u_Ha_init.2.1 22 = .ok (.putfield 18, 3) := by decide +kernel
theorem d_Ha_init_25 : decode u_Ha_init.2.1 25 = .ok (.aload_n 0, 1) := by decide +kernel
theorem d_Ha_init_26 : decode u_Ha_init.2.1 26 = .ok (.getfield 15, 3) := by decide +kernel
theorem d_Ha_init_29 : decode u_Ha_init.2.1 29 = .ok (.bipush 10, 2) := by decide +kernel
theorem d_Ha_init_31 : decode u_Ha_init.2.1 31 = .ok (.invokestatic 22, 3) := by decide +kernel
theorem d_Ha_init_34 : decode u_Ha_init.2.1 34 = .ok (.return_, 1) := by decide +kernel
theorem d_Ha_append_0 : decode u_Ha_append.2.1 0 = .ok (.aload_n 0, 1) := by decide +kernel
theorem d_Ha_append_1 : decode u_Ha_append.2.1 1 = .ok (.getfield 28, 3) := by decide +kernel
theorem d_Ha_append_4 : decode u_Ha_append.2.1 4 = .ok (.bipush 40, 2) := by decide +kernel
theorem d_Ha_append_6 : decode u_Ha_append.2.1 6 = .ok (.if_icmp .ge 27, 3) := by decide +kernel
theorem d_Ha_append_9 : decode u_Ha_append.2.1 9 = .ok (.aload_n 0, 1) := by decide +kernel
theorem d_Ha_append_10 : decode u_Ha_append.2.1 10 = .ok (.getfield 9, 3) := by decide +kernel
theorem d_Ha_append_13 : decode u_Ha_append.2.1 13 = .ok (.aload_n 0, 1) := by decide +kernel
theorem d_Ha_append_14 : decode u_Ha_append.2.1 14 = .ok (.getfield 28, 3) := by decide +kernel
theorem d_Ha_append_17 : decode u_Ha_append.2.1 17 = .ok (.iload_n 1, 1) := by decide +kernel
theorem d_Ha_append_18 : decode u_Ha_append.2.1 18 = .ok (.iastore, 1) := by decide +kernel
theorem d_Ha_append_19 : decode u_Ha_append.2.1 19 = .ok (.aload_n 0, 1) := by decide +kernel
theorem d_Ha_append_20 : decode u_Ha_append.2.1 20 = .ok (.dup, 1) := by decide +kernel
theorem d_Ha_append_21 : decode u_Ha_append.2.1 21 = .ok (.getfield 28, 3) := by decide +kernel
theorem d_Ha_append_24 : decode u_Ha_append.2.1 24 = .ok (.iconst 1, 1) := by decide +kernel
theorem d_Ha_append_25 : decode u_Ha_append.2.1 25 = .ok (.iadd, 1) := by decide +kernel
theorem d_Ha_append_26 : decode u_Ha_append.2.1 26 = .ok (.putfield 28, 3) := by decide +kernel
theorem d_Ha_append_29 : decode u_Ha_append.2.1 29 = .ok (.aload_n 0, 1) := by decide +kernel
theorem d_Ha_append_30 : decode u_Ha_append.2.1 30 = .ok (.invokevirtual 31, 3) := by decide +kernel
theorem d_Ha_append_33 : decode u_Ha_append.2.1 33 = .ok (.return_, 1) := by decide +kernel
theorem d_Ha_clear_0 : decode u_Ha_clear.2.1 0 = .ok (.aload_n 0, 1) := by decide +kernel
theorem d_Ha_clear_1 : decode u_Ha_clear.2.1 1 = .ok (.iconst 0, 1) := by decide +kernel
theorem d_Ha_clear_2 : decode u_Ha_clear.2.1 2 = .ok (.putfield 28, 3) := by decide +kernel
theorem d_Ha_clear_5 : decode u_Ha_clear.2.1 5 = .ok (.aload_n 0, 1) := by decide +kernel
theorem d_Ha_clear_6 : decode u_Ha_clear.2.1 6 = .ok (.invokevirtual 31, 3) := by decide +kernel
theorem d_Ha_clear_9 : decode u_Ha_clear.2.1 9 = .ok (.return_, 1) := by decide +kernel
theorem d_Ha_understand_0 : decode u_Ha_understand.2.1 0 = .ok (.aload_n 0, 1) := by decide +kernel
theorem d_Ha_understand_1 : decode u_Ha_understand.2.1 1 = .ok (.getfield 15, 3) := by decide +kernel
theorem d_Ha_understand_4 : decode u_Ha_understand.2.1 4 = .ok (.bipush 10, 2) := by decide +kernel
theorem d_Ha_understand_6 : decode u_Ha_understand.2.1 6 = .ok (.invokestatic 22, 3) := by decide +kernel
theorem d_Ha_understand_9 : decode u_Ha_understand.2.1 9 = .ok (.aload_n 0, 1) := by decide +kernel
theorem d_Ha_understand_10 : decode u_Ha_understand.2.1 10 = .ok (.iconst (-1), 1) := by decide +kernel
theorem d_Ha_understand_11 : decode u_Ha_understand.2.1 11 = .ok (.putfield 18, 3) := by decide +kernel
theorem d_Ha_understand_14 : decode u_Ha_understand.2.1 14 = .ok (.iconst 0, 1) := by decide +kernel
theorem d_Ha_understand_15 : decode u_Ha_understand.2.1 15 = .ok (.istore_n 1, 1) := by decide +kernel
theorem d_Ha_understand_16 : decode u_Ha_understand.2.1 16 = .ok (.aload_n 0, 1) := by decide +kernel
theorem d_Ha_understand_17 : decode u_Ha_understand.2.1 17 = .ok (.getfield 28, 3) := by decide +kernel
theorem d_Ha_understand_20 : decode u_Ha_understand.2.1 20 = .ok (.ifCond .le 7, 3) := by decide +kernel
theorem d_Ha_understand_23 : decode u_Ha_understand.2.1 23 = .ok (.iconst 1, 1) := by decide +kernel
theorem d_Ha_understand_24 : decode u_Ha_understand.2.1 24 = .ok (.goto 4, 3) := by decide +kernel
theorem d_Ha_understand_27 : decode u_Ha_understand.2.1 27 = .ok (.iconst 0, 1) := by decide +kernel
theorem d_Ha_understand_28 : decode u_Ha_understand.2.1 28 = .ok (.istore_n 2, 1) := by decide +kernel
theorem d_Ha_understand_29 : decode u_Ha_understand.2.1 29 = .ok (.iconst 0, 1) := by decide +kernel
theorem d_Ha_understand_30 : decode u_Ha_understand.2.1 30 = .ok (.istore_n 3, 1) := by decide +kernel
theorem d_Ha_understand_31 : decode u_Ha_understand.2.1 31 = .ok (.iload_n 2, 1) := by decide +kernel
theorem d_Ha_understand_32 : decode u_Ha_understand.2.1 32 = .ok (.ifCond .eq 77, 3) := by decide +kernel
theorem d_Ha_understand_35 : decode u_Ha_understand.2.1 35 = .ok (.iload_n 3, 1) := by decide +kernel
theorem d_Ha_understand_36 : decode u_Ha_understand.2.1 36 = .ok (.bipush 40, 2) := by decide +kernel
theorem d_Ha_understand_38 : decode u_Ha_understand.2.1 38 = .ok (.if_icmp .ge 71, 3) := by decide +kernel
theorem d_Ha_understand_41 : decode u_Ha_understand.2.1 41 = .ok (.aload_n 0, 1) := by decide +kernel
theorem d_Ha_understand_42 : decode u_Ha_understand.2.1 42 = .ok (.iload_n 1, 1) := by decide +kernel
theorem d_Ha_understand_43 : decode u_Ha_understand.2.1 43 = .ok (.invokevirtual 34, 3) := by decide +kernel
theorem d_Ha_understand_46 : decode u_Ha_understand.2.1 46 = .ok (.istore_n 1, 1) := by decide +kernel
theorem d_Ha_understand_47 : decode u_Ha_understand.2.1 47 = .ok (.aload_n 0, 1) := by decide +kernel
theorem d_Ha_understand_48 : decode u_Ha_understand.2.1 48 = .ok (.getfield 18, 3) := by decide +kernel
theorem d_Ha_understand_51 : decode u_Ha_understand.2.1 51 = .ok (.iconst (-1), 1) := by decide +kernel
theorem d_Ha_understand_52 : decode u_Ha_understand.2.1 52 = .ok (.if_icmp .ne 26, 3) := by decide +kernel
theorem d_Ha_understand_55 : decode u_Ha_understand.2.1 55 = .ok (.iload_n 1, 1) := by decide +kernel
theorem d_Ha_understand_56 : decode u_Ha_understand.2.1 56 = .ok (.aload_n 0, 1) := by decide +kernel
theorem d_Ha_understand_57 : decode u_Ha_understand.2.1 57 = .ok (.getfield 28, 3) := by decide +kernel
theorem d_Ha_understand_60 : decode u_Ha_understand.2.1 60 = .ok (.if_icmp .ge 18, 3) := by decide +kernel
theorem d_Ha_understand_63 : decode u_Ha_understand.2.1 63 = .ok (.aload_n 0, 1) := by decide +kernel
theorem d_Ha_understand_64 : decode u_Ha_understand.2.1 64 = .ok (.iload_n 1, 1) := by decide +kernel
theorem d_Ha_understand_65 : decode u_Ha_understand.2.1 65 = .ok (.invokevirtual 38, 3) := by decide +kernel
theorem d_Ha_understand_68 : decode u_Ha_understand.2.1 68 = .ok (.bipush 59, 2) := by decide +kernel
theorem d_Ha_understand_70 : decode u_Ha_understand.2.1 70 = .ok (.if_icmp .eq 8, 3) := by decide +kernel
theorem d_Ha_understand_73 : decode u_Ha_understand.2.1 73 = .ok (.aload_n 0, 1) := by decide +kernel
theorem d_Ha_understand_74 : decode u_Ha_understand.2.1 74 = .ok (.iload_n 1, 1) := by decide +kernel
theorem d_Ha_understand_75 : decode u_Ha_understand.2.1 75 = .ok (.putfield 18, 3) := by decide +kernel
theorem d_Ha_understand_78 : decode u_Ha_understand.2.1 78 = .ok (.aload_n 0, 1) := by decide +kernel
theorem d_Ha_understand_79 : decode u_Ha_understand.2.1 79 = .ok (.getfield 18, 3) := by decide +kernel
theorem d_Ha_understand_82 : decode u_Ha_understand.2.1 82 = .ok (.iconst (-1), 1) := by decide +kernel
theorem d_Ha_understand_83 : decode u_Ha_understand.2.1 83 = .ok (.if_icmp .ne 15, 3) := by decide +kernel
theorem d_Ha_understand_86 : decode u_Ha_understand.2.1 86 = .ok (.iload_n 1, 1) := by decide +kernel
theorem d_Ha_understand_87 : decode u_Ha_understand.2.1 87 = .ok (.aload_n 0, 1) := by decide +kernel
theorem d_Ha_understand_88 : decode u_Ha_understand.2.1 88 = .ok (.getfield 28, 3) := by decide +kernel
theorem d_Ha_understand_91 : decode u_Ha_understand.2.1 91 = .ok (.if_icmp .ge 7, 3) := by decide +kernel
theorem d_Ha_understand_94 : decode u_Ha_understand.2.1 94 = .ok (.iconst 1, 1) := by decide +kernel
theorem d_Ha_understand_95 : decode u_Ha_understand.2.1 95 = .ok (.goto 4, 3) := by decide +kernel
theorem d_Ha_understand_98 : decode u_Ha_understand.2.1 98 = .ok (.iconst 0, 1) := by decide +kernel
theorem d_Ha_understand_99 : decode u_Ha_understand.2.1 99 = .ok (.istore_n 2, 1) := by decide +kernel
theorem d_Ha_understand_100 : decode u_Ha_understand.2.1 100 = .ok (.iinc 1 1, 3) := by decide +kernel
theorem d_Ha_understand_103 : decode u_Ha_understand.2.1 103 = .ok (.iinc 3 1, 3) := by decide +kernel
theorem d_Ha_understand_106 : decode u_Ha_understand.2.1 106 = .ok (.goto (-75), 3) := by decide +kernel
theorem d_Ha_understand_109 : decode u_Ha_understand.2.1 109 = .ok (.aload_n 0, 1) := by decide +kernel
theorem d_Ha_understand_110 : decode u_Ha_understand.2.1 110 = .ok (.getfield 18, 3) := by decide +kernel
theorem d_Ha_understand_113 : decode u_Ha_understand.2.1 113 = .ok (.iconst (-1), 1) := by decide +kernel
theorem d_Ha_understand_114 : decode u_Ha_understand.2.1 114 = .ok (.if_icmp .eq 12, 3) := by decide +kernel
theorem d_Ha_understand_117 : decode u_Ha_understand.2.1 117 = .ok (.aload_n 0, 1) := by decide +kernel
theorem d_Ha_understand_118 : decode u_Ha_understand.2.1 118 = .ok (.getfield 15, 3) := by decide +kernel
theorem d_Ha_understand_121 : decode u_Ha_understand.2.1 121 = .ok (.bipush 10, 2) := by decide +kernel
theorem d_Ha_understand_123 : decode u_Ha_understand.2.1 123 = .ok (.invokestatic 22, 3) := by decide +kernel
theorem d_Ha_understand_126 : decode u_Ha_understand.2.1 126 = .ok (.return_, 1) := by decide +kernel
theorem d_Ha_behindPiece_0 : decode u_Ha_behindPiece.2.1 0 = .ok (.aload_n 0, 1) := by decide +kernel
theorem d_Ha_behindPiece_1 : decode u_Ha_behindPiece.2.1 1 = .ok (.iload_n 1, 1) := by decide +kernel
theorem d_Ha_behindPiece_2 : decode u_Ha_behindPiece.2.1 2 = .ok (.invokevirtual 38, 3) := by decide +kernel
theorem d_Ha_behindPiece_5 : decode u_Ha_behindPiece.2.1 5 = .ok (.istore_n 2, 1) := by decide +kernel
theorem d_Ha_behindPiece_6 : decode u_Ha_behindPiece.2.1 6 = .ok (.iload_n 2, 1) := by decide +kernel
theorem d_Ha_behindPiece_7 : decode u_Ha_behindPiece.2.1 7 = .ok (.bipush 42, 2) := by decide +kernel
theorem d_Ha_behindPiece_9 : decode u_Ha_behindPiece.2.1 9 = .ok (.if_icmp .eq 21, 3) := by decide +kernel
theorem d_Ha_behindPiece_12 : decode u_Ha_behindPiece.2.1 12 = .ok (.iload_n 2, 1) := by decide +kernel
theorem d_Ha_behindPiece_13 : decode u_Ha_behindPiece.2.1 13 = .ok (.bipush 48, 2) := by decide +kernel
theorem d_Ha_behindPiece_15 : decode u_Ha_behindPiece.2.1 15 = .ok (.if_icmp .lt 9, 3) := by decide +kernel
theorem d_Ha_behindPiece_18 : decode u_Ha_behindPiece.2.1 18 = .ok (.iload_n 2, 1) := by decide +kernel
theorem d_Ha_behindPiece_19 : decode u_Ha_behindPiece.2.1 19 = .ok (.bipush 55, 2) := by decide +kernel
theorem d_Ha_behindPiece_21 : decode u_Ha_behindPiece.2.1 21 = .ok (.if_icmp .le 9, 3) := by decide +kernel
theorem d_Ha_behindPiece_24 : decode u_Ha_behindPiece.2.1 24 = .ok (.aload_n 0, 1) := by decide +kernel
theorem d_Ha_behindPiece_25 : decode u_Ha_behindPiece.2.1 25 = .ok (.iload_n 1, 1) := by decide +kernel
theorem d_Ha_behindPiece_26 : decode u_Ha_behindPiece.2.1 26 = .ok (.invokevirtual 41, 3) := by decide +kernel
theorem d_Ha_behindPiece_29 : decode u_Ha_behindPiece.2.1 29 = .ok (.ireturn, 1) := by decide +kernel
theorem d_Ha_behindPiece_30 : decode u_Ha_behindPiece.2.1 30 = .ok (.aload_n 0, 1) := by decide +kernel
theorem d_Ha_behindPiece_31 : decode u_Ha_behindPiece.2.1 31 = .ok (.iload_n 1, 1) := by decide +kernel
theorem d_Ha_behindPiece_32 : decode u_Ha_behindPiece.2.1 32 = .ok (.iconst 1, 1) := by decide +kernel
theorem d_Ha_behindPiece_33 : decode u_Ha_behindPiece.2.1 33 = .ok (.iadd, 1) := by decide +kernel
theorem d_Ha_behindPiece_34 : decode u_Ha_behindPiece.2.1 34 = .ok (.invokevirtual 38, 3) := by decide +kernel
theorem d_Ha_behindPiece_37 : decode u_Ha_behindPiece.2.1 37 = .ok (.istore_n 3, 1) := by decide +kernel
theorem d_Ha_behindPiece_38 : decode u_Ha_behindPiece.2.1 38 = .ok (.iload_n 3, 1) := by decide +kernel
theorem d_Ha_behindPiece_39 : decode u_Ha_behindPiece.2.1 39 = .ok (.bipush 120, 2) := by decide +kernel
theorem d_Ha_behindPiece_41 : decode u_Ha_behindPiece.2.1 41 = .ok (.if_icmp .ne 15, 3) := by decide +kernel
theorem d_Ha_behindPiece_44 : decode u_Ha_behindPiece.2.1 44 = .ok (.aload_n 0, 1) := by decide +kernel
theorem d_Ha_behindPiece_45 : decode u_Ha_behindPiece.2.1 45 = .ok (.iload_n 2, 1) := by decide +kernel
theorem d_Ha_behindPiece_46 : decode u_Ha_behindPiece.2.1 46 = .ok (.sipush (-9999), 3) := by decide +kernel
theorem d_Ha_behindPiece_49 : decode u_Ha_behindPiece.2.1 49 = .ok (.invokevirtual 44, 3) := by decide +kernel
theorem d_Ha_behindPiece_52 : decode u_Ha_behindPiece.2.1 52 = .ok (.iload_n 1, 1) := by decide +kernel
theorem d_Ha_behindPiece_53 : decode u_Ha_behindPiece.2.1 53 = .ok (.iconst 2, 1) := by decide +kernel
theorem d_Ha_behindPiece_54 : decode u_Ha_behindPiece.2.1 54 = .ok (.iadd, 1) := by decide +kernel
theorem d_Ha_behindPiece_55 : decode u_Ha_behindPiece.2.1 55 = .ok (.ireturn, 1) := by decide +kernel
theorem d_Ha_behindPiece_56 : decode u_Ha_behindPiece.2.1 56 = .ok (.iload_n 3, 1) := by decide +kernel
theorem d_Ha_behindPiece_57 : decode u_Ha_behindPiece.2.1 57 = .ok (.bipush 43, 2) := by decide +kernel
theorem d_Ha_behindPiece_59 : decode u_Ha_behindPiece.2.1 59 = .ok (.if_icmp .eq 17, 3) := by decide +kernel
theorem d_Ha_behindPiece_62 : decode u_Ha_behindPiece.2.1 62 = .ok (.iload_n 3, 1) := by decide +kernel
theorem d_Ha_behindPiece_63 : decode u_Ha_behindPiece.2.1 63 = .ok (.bipush 45, 2) := by decide +kernel
theorem d_Ha_behindPiece_65 : decode u_Ha_behindPiece.2.1 65 = .ok (.if_icmp .eq 11, 3) := by decide +kernel
theorem d_Ha_behindPiece_68 : decode u_Ha_behindPiece.2.1 68 = .ok (.aload_n 0, 1) := by decide +kernel
theorem d_Ha_behindPiece_69 : decode u_Ha_behindPiece.2.1 69 = .ok (.iload_n 1, 1) := by decide +kernel
theorem d_Ha_behindPiece_70 : decode u_Ha_behindPiece.2.1 70 = .ok (.iconst 1, 1) := by decide +kernel
theorem d_Ha_behindPiece_71 : decode u_Ha_behindPiece.2.1 71 = .ok (.iadd, 1) := by decide +kernel
theorem d_Ha_behindPiece_72 : decode u_Ha_behindPiece.2.1 72 = .ok (.invokevirtual 41, 3) := by decide +kernel
theorem d_Ha_behindPiece_75 : decode u_Ha_behindPiece.2.1 75 = .ok (.ireturn, 1) := by decide +kernel
theorem d_Ha_behindPiece_76 : decode u_Ha_behindPiece.2.1 76 = .ok (.iload_n 1, 1) := by decide +kernel
theorem d_Ha_behindPiece_77 : decode u_Ha_behindPiece.2.1 77 = .ok (.iconst 2, 1) := by decide +kernel
theorem d_Ha_behindPiece_78 : decode u_Ha_behindPiece.2.1 78 = .ok (.iadd, 1) := by decide +kernel
theorem d_Ha_behindPiece_79 : decode u_Ha_behindPiece.2.1 79 = .ok (.istore 4, 2) := by decide +kernel
theorem d_Ha_behindPiece_81 : decode u_Ha_behindPiece.2.1 81 = .ok (.aload_n 0, 1) := by decide +kernel
theorem d_Ha_behindPiece_82 : decode u_Ha_behindPiece.2.1 82 = .ok (.iload 4, 2) := by decide +kernel
theorem d_Ha_behindPiece_84 : decode u_Ha_behindPiece.2.1 84 = .ok (.invokevirtual 38, 3) := by decide +kernel
theorem d_Ha_behindPiece_87 : decode u_Ha_behindPiece.2.1 87 = .ok (.invokestatic 48, 3) := by decide +kernel
theorem d_Ha_behindPiece_90 : decode u_Ha_behindPiece.2.1 90 = .ok (.ifCond .ne 10, 3) := by decide +kernel
theorem d_Ha_behindPiece_93 : decode u_Ha_behindPiece.2.1 93 = .ok (.aload_n 0, 1) := by decide +kernel
theorem d_Ha_behindPiece_94 : decode u_Ha_behindPiece.2.1 94 = .ok (.iload 4, 2) := by decide +kernel
theorem d_Ha_behindPiece_96 : decode u_Ha_behindPiece.2.1 96 = .ok (.invokevirtual 41, 3) := by decide +kernel
theorem d_Ha_behindPiece_99 : decode u_Ha_behindPiece.2.1 99 = .ok (.ireturn, 1) := by decide +kernel
theorem d_Ha_behindPiece_100 : decode u_Ha_behindPiece.2.1 100 = .ok (.aload_n 0, 1) := by decide +kernel
theorem d_Ha_behindPiece_101 : decode u_Ha_behindPiece.2.1 101 = .ok (.iload 4, 2) := by decide +kernel
theorem d_Ha_behindPiece_103 : decode u_Ha_behindPiece.2.1 103 = .ok (.invokevirtual 38, 3) := by decide +kernel
theorem d_Ha_behindPiece_106 : decode u_Ha_behindPiece.2.1 106 = .ok (.bipush 48, 2) := by decide +kernel
theorem d_Ha_behindPiece_108 : decode u_Ha_behindPiece.2.1 108 = .ok (.isub, 1) := by decide +kernel
theorem d_Ha_behindPiece_109 : decode u_Ha_behindPiece.2.1 109 = .ok (.istore 5, 2) := by decide +kernel
theorem d_Ha_behindPiece_111 : decode u_Ha_behindPiece.2.1 111 = .ok (.iload 4, 2) := by decide +kernel
theorem d_Ha_behindPiece_113 : decode u_Ha_behindPiece.2.1 113 = .ok (.iconst 1, 1) := by decide +kernel
theorem d_Ha_behindPiece_114 : decode u_Ha_behindPiece.2.1 114 = .ok (.iadd, 1) := by decide +kernel
theorem d_Ha_behindPiece_115 : decode u_Ha_behindPiece.2.1 115 = .ok (.istore 6, 2) := by decide +kernel
theorem d_Ha_behindPiece_117 : decode u_Ha_behindPiece.2.1 117 = .ok (.aload_n 0, 1) := by decide +kernel
theorem d_Ha_behindPiece_118 : decode u_Ha_behindPiece.2.1 118 = .ok (.iload 6, 2) := by decide +kernel
theorem d_Ha_behindPiece_120 : decode u_Ha_behindPiece.2.1 120 = .ok (.invokevirtual 38, 3) := by decide +kernel
theorem d_Ha_behindPiece_123 : decode u_Ha_behindPiece.2.1 123 = .ok (.invokestatic 48, 3) := by decide +kernel
theorem d_Ha_behindPiece_126 : decode u_Ha_behindPiece.2.1 126 = .ok (.ifCond .eq 23, 3) := by decide +kernel
theorem d_Ha_behindPiece_129 : decode u_Ha_behindPiece.2.1 129 = .ok (.bipush 10, 2) := by decide +kernel
theorem d_Ha_behindPiece_131 : decode u_Ha_behindPiece.2.1 131 = .ok (.iload 5, 2) := by decide +kernel
theorem d_Ha_behindPiece_133 : decode u_Ha_behindPiece.2.1 133 = .ok (.imul, 1) := by decide +kernel
theorem d_Ha_behindPiece_134 : decode u_Ha_behindPiece.2.1 134 = .ok (.aload_n 0, 1) := by decide +kernel
theorem d_Ha_behindPiece_135 : decode u_Ha_behindPiece.2.1 135 = .ok (.iload 6, 2) := by decide +kernel
theorem d_Ha_behindPiece_137 : decode u_Ha_behindPiece.2.1 137 = .ok (.invokevirtual 38, 3) := by decide +kernel
theorem d_Ha_behindPiece_140 : decode u_Ha_behindPiece.2.1 140 = .ok (.iadd, 1) := by decide +kernel
theorem d_Ha_behindPiece_141 : decode u_Ha_behindPiece.2.1 141 = .ok (.bipush 48, 2) := by decide +kernel
theorem d_Ha_behindPiece_143 : decode u_Ha_behindPiece.2.1 143 = .ok (.isub, 1) := by decide +kernel
theorem d_Ha_behindPiece_144 : decode u_Ha_behindPiece.2.1 144 = .ok (.istore 5, 2) := by decide +kernel
theorem d_Ha_behindPiece_146 : decode u_Ha_behindPiece.2.1 146 = .ok (.iinc 6 1, 3) := by decide +kernel
theorem d_Ha_behindPiece_149 : decode u_Ha_behindPiece.2.1 149 = .ok (.iload 5, 2) := by decide +kernel
theorem d_Ha_behindPiece_151 : decode u_Ha_behindPiece.2.1 151 = .ok (.bipush 60, 2) := by decide +kernel
theorem d_Ha_behindPiece_153 : decode u_Ha_behindPiece.2.1 153 = .ok (.if_icmp .le 10, 3) := by decide +kernel
theorem d_Ha_behindPiece_156 : decode u_Ha_behindPiece.2.1 156 = .ok (.aload_n 0, 1) := by decide +kernel
theorem d_Ha_behindPiece_157 : decode u_Ha_behindPiece.2.1 157 = .ok (.iload 4, 2) := by decide +kernel
theorem d_Ha_behindPiece_159 : decode u_Ha_behindPiece.2.1 159 = .ok (.invokevirtual 41, 3) := by decide +kernel
theorem d_Ha_behindPiece_162 : decode u_Ha_behindPiece.2.1 162 = .ok (.ireturn, 1) := by decide +kernel
theorem d_Ha_behindPiece_163 : decode u_Ha_behindPiece.2.1 163 = .ok (.aload_n 0, 1) := by decide +kernel
theorem d_Ha_behindPiece_164 : decode u_Ha_behindPiece.2.1 164 = .ok (.iload_n 2, 1) := by decide +kernel
theorem d_Ha_behindPiece_165 : decode u_Ha_behindPiece.2.1 165 = .ok (.iload_n 3, 1) := by decide +kernel
theorem d_Ha_behindPiece_166 : decode u_Ha_behindPiece.2.1 166 = .ok (.bipush 45, 2) := by decide +kernel
theorem d_Ha_behindPiece_168 : decode u_Ha_behindPiece.2.1 168 = .ok (.if_icmp .ne 9, 3) := by decide +kernel
theorem d_Ha_behindPiece_171 : decode u_Ha_behindPiece.2.1 171 = .ok (.iload 5, 2) := by decide +kernel
theorem d_Ha_behindPiece_173 : decode u_Ha_behindPiece.2.1 173 = .ok (.ineg, 1) := by decide +kernel
theorem d_Ha_behindPiece_174 : decode u_Ha_behindPiece.2.1 174 = .ok (.goto 5, 3) := by decide +kernel
theorem d_Ha_behindPiece_177 : decode u_Ha_behindPiece.2.1 177 = .ok (.iload 5, 2) := by decide +kernel
theorem d_Ha_behindPiece_179 : decode u_Ha_behindPiece.2.1 179 = .ok (.invokevirtual 44, 3) := by decide +kernel
theorem d_Ha_behindPiece_182 : decode u_Ha_behindPiece.2.1 182 = .ok (.iload 6, 2) := by decide +kernel
theorem d_Ha_behindPiece_184 : decode u_Ha_behindPiece.2.1 184 = .ok (.ireturn, 1) := by decide +kernel
theorem d_Ha_stopAt_0 : decode u_Ha_stopAt.2.1 0 = .ok (.aload_n 0, 1) := by decide +kernel
theorem d_Ha_stopAt_1 : decode u_Ha_stopAt.2.1 1 = .ok (.iload_n 1, 1) := by decide +kernel
theorem d_Ha_stopAt_2 : decode u_Ha_stopAt.2.1 2 = .ok (.putfield 18, 3) := by decide +kernel
theorem d_Ha_stopAt_5 : decode u_Ha_stopAt.2.1 5 = .ok (.iload_n 1, 1) := by decide +kernel
theorem d_Ha_stopAt_6 : decode u_Ha_stopAt.2.1 6 = .ok (.ireturn, 1) := by decide +kernel
theorem d_Ha_mark_0 : decode u_Ha_mark.2.1 0 = .ok (.iload_n 1, 1) := by decide +kernel
theorem d_Ha_mark_1 : decode u_Ha_mark.2.1 1 = .ok (.bipush 42, 2) := by decide +kernel
theorem d_Ha_mark_3 : decode u_Ha_mark.2.1 3 = .ok (.if_icmp .ne 14, 3) := by decide +kernel
theorem d_Ha_mark_6 : decode u_Ha_mark.2.1 6 = .ok (.aload_n 0, 1) := by decide +kernel
theorem d_Ha_mark_7 : decode u_Ha_mark.2.1 7 = .ok (.getfield 15, 3) := by decide +kernel
theorem d_Ha_mark_10 : decode u_Ha_mark.2.1 10 = .ok (.iload_n 2, 1) := by decide +kernel
theorem d_Ha_mark_11 : decode u_Ha_mark.2.1 11 = .ok (.invokestatic 22, 3) := by decide +kernel
theorem d_Ha_mark_14 : decode u_Ha_mark.2.1 14 = .ok (.goto 23, 3) := by decide +kernel
theorem d_Ha_mark_17 : decode u_Ha_mark.2.1 17 = .ok (.iload_n 1, 1) := by decide +kernel
theorem d_Ha_mark_18 : decode u_Ha_mark.2.1 18 = .ok (.bipush 48, 2) := by decide +kernel
theorem d_Ha_mark_20 : decode u_Ha_mark.2.1 20 = .ok (.isub, 1) := by decide +kernel
theorem d_Ha_mark_21 : decode u_Ha_mark.2.1 21 = .ok (.invokestatic 52, 3) := by decide +kernel
theorem d_Ha_mark_24 : decode u_Ha_mark.2.1 24 = .ok (.ifCond .eq 13, 3) := by decide +kernel
theorem d_Ha_mark_27 : decode u_Ha_mark.2.1 27 = .ok (.aload_n 0, 1) := by decide +kernel
theorem d_Ha_mark_28 : decode u_Ha_mark.2.1 28 = .ok (.getfield 15, 3) := by decide +kernel
theorem d_Ha_mark_31 : decode u_Ha_mark.2.1 31 = .ok (.iload_n 1, 1) := by decide +kernel
theorem d_Ha_mark_32 : decode u_Ha_mark.2.1 32 = .ok (.bipush 48, 2) := by decide +kernel
theorem d_Ha_mark_34 : decode u_Ha_mark.2.1 34 = .ok (.isub, 1) := by decide +kernel
theorem d_Ha_mark_35 : decode u_Ha_mark.2.1 35 = .ok (.iload_n 2, 1) := by decide +kernel
theorem d_Ha_mark_36 : decode u_Ha_mark.2.1 36 = .ok (.iastore, 1) := by decide +kernel
theorem d_Ha_mark_37 : decode u_Ha_mark.2.1 37 = .ok (.return_, 1) := by decide +kernel
theorem d_Ha_byteAt_0 : decode u_Ha_byteAt.2.1 0 = .ok (.iload_n 1, 1) := by decide +kernel
theorem d_Ha_byteAt_1 : decode u_Ha_byteAt.2.1 1 = .ok (.ifCond .lt 20, 3) := by decide +kernel
theorem d_Ha_byteAt_4 : decode u_Ha_byteAt.2.1 4 = .ok (.iload_n 1, 1) := by decide +kernel
theorem d_Ha_byteAt_5 : decode u_Ha_byteAt.2.1 5 = .ok (.aload_n 0, 1) := by decide +kernel
theorem d_Ha_byteAt_6 : decode u_Ha_byteAt.2.1 6 = .ok (.getfield 28, 3) := by decide +kernel
theorem d_Ha_byteAt_9 : decode u_Ha_byteAt.2.1 9 = .ok (.if_icmp .ge 12, 3) := by decide +kernel
theorem d_Ha_byteAt_12 : decode u_Ha_byteAt.2.1 12 = .ok (.aload_n 0, 1) := by decide +kernel
theorem d_Ha_byteAt_13 : decode u_Ha_byteAt.2.1 13 = .ok (.getfield 9, 3) := by decide +kernel
theorem d_Ha_byteAt_16 : decode u_Ha_byteAt.2.1 16 = .ok (.iload_n 1, 1) := by decide +kernel
theorem d_Ha_byteAt_17 : decode u_Ha_byteAt.2.1 17 = .ok (.iaload, 1) := by decide +kernel
theorem d_Ha_byteAt_18 : decode u_Ha_byteAt.2.1 18 = .ok (.goto 4, 3) := by decide +kernel
theorem d_Ha_byteAt_21 : decode u_Ha_byteAt.2.1 21 = .ok (.iconst (-1), 1) := by decide +kernel
theorem d_Ha_byteAt_22 : decode u_Ha_byteAt.2.1 22 = .ok (.ireturn, 1) := by decide +kernel
theorem d_Ha_isFigure_0 : decode u_Ha_isFigure.2.1 0 = .ok (.iload_n 0, 1) := by decide +kernel
theorem d_Ha_isFigure_1 : decode u_Ha_isFigure.2.1 1 = .ok (.bipush 48, 2) := by decide +kernel
theorem d_Ha_isFigure_3 : decode u_Ha_isFigure.2.1 3 = .ok (.if_icmp .lt 13, 3) := by decide +kernel
theorem d_Ha_isFigure_6 : decode u_Ha_isFigure.2.1 6 = .ok (.iload_n 0, 1) := by decide +kernel
theorem d_Ha_isFigure_7 : decode u_Ha_isFigure.2.1 7 = .ok (.bipush 57, 2) := by decide +kernel
theorem d_Ha_isFigure_9 : decode u_Ha_isFigure.2.1 9 = .ok (.if_icmp .gt 7, 3) := by decide +kernel
theorem d_Ha_isFigure_12 : decode u_Ha_isFigure.2.1 12 = .ok (.iconst 1, 1) := by decide +kernel
theorem d_Ha_isFigure_13 : decode u_Ha_isFigure.2.1 13 = .ok (.goto 4, 3) := by decide +kernel
theorem d_Ha_isFigure_16 : decode u_Ha_isFigure.2.1 16 = .ok (.iconst 0, 1) := by decide +kernel
theorem d_Ha_isFigure_17 : decode u_Ha_isFigure.2.1 17 = .ok (.ireturn, 1) := by decide +kernel
theorem d_He_init_0 : decode u_He_init.2.1 0 = .ok (.aload_n 0, 1) := by decide +kernel
theorem d_He_init_1 : decode u_He_init.2.1 1 = .ok (.invokespecial 3, 3) := by decide +kernel
theorem d_He_init_4 : decode u_He_init.2.1 4 = .ok (.aload_n 0, 1) := by decide +kernel
theorem d_He_init_5 : decode u_He_init.2.1 5 = .ok (.bipush 8, 2) := by decide +kernel
theorem d_He_init_7 : decode u_He_init.2.1 7 = .ok (.newarray .int, 2) := by decide +kernel
theorem d_He_init_9 : decode u_He_init.2.1 9 = .ok (.putfield 9, 3) := by decide +kernel
theorem d_He_init_12 : decode u_He_init.2.1 12 = .ok (.aload_n 0, 1) := by decide +kernel
theorem d_He_init_13 : decode u_He_init.2.1 13 = .ok (.getfield 9, 3) := by decide +kernel
theorem d_He_init_16 : decode u_He_init.2.1 16 = .ok (.bipush 50, 2) := by decide +kernel
theorem d_He_init_18 : decode u_He_init.2.1 18 = .ok (.invokestatic 15, 3) := by decide +kernel
theorem d_He_init_21 : decode u_He_init.2.1 21 = .ok (.return_, 1) := by decide +kernel
theorem d_He_offFrom_0 : decode u_He_offFrom.2.1 0 = .ok (.iconst 0, 1) := by decide +kernel
theorem d_He_offFrom_1 : decode u_He_offFrom.2.1 1 = .ok (.istore_n 2, 1) := by decide +kernel
theorem d_He_offFrom_2 : decode u_He_offFrom.2.1 2 = .ok (.iconst 0, 1) := by decide +kernel
theorem d_He_offFrom_3 : decode u_He_offFrom.2.1 3 = .ok (.istore_n 3, 1) := by decide +kernel
theorem d_He_offFrom_4 : decode u_He_offFrom.2.1 4 = .ok (.iload_n 3, 1) := by decide +kernel
theorem d_He_offFrom_5 : decode u_He_offFrom.2.1 5 = .ok (.bipush 8, 2) := by decide +kernel
theorem d_He_offFrom_7 : decode u_He_offFrom.2.1 7 = .ok (.if_icmp .ge 25, 3) := by decide +kernel
theorem d_He_offFrom_10 : decode u_He_offFrom.2.1 10 = .ok (.iload_n 2, 1) := by decide +kernel
theorem d_He_offFrom_11 : decode u_He_offFrom.2.1 11 = .ok (.aload_n 0, 1) := by decide +kernel
theorem d_He_offFrom_12 : decode u_He_offFrom.2.1 12 = .ok (.getfield 9, 3) := by decide +kernel
theorem d_He_offFrom_15 : decode u_He_offFrom.2.1 15 = .ok (.iload_n 3, 1) := by decide +kernel
theorem d_He_offFrom_16 : decode u_He_offFrom.2.1 16 = .ok (.iaload, 1) := by decide +kernel
theorem d_He_offFrom_17 : decode u_He_offFrom.2.1 17 = .ok (.aload_n 1, 1) := by decide +kernel
theorem d_He_offFrom_18 : decode u_He_offFrom.2.1 18 = .ok (.iload_n 3, 1) := by decide +kernel
theorem d_He_offFrom_19 : decode u_He_offFrom.2.1 19 = .ok (.iaload, 1) := by decide +kernel
theorem d_He_offFrom_20 : decode u_He_offFrom.2.1 20 = .ok (.isub, 1) := by decide +kernel
theorem d_He_offFrom_21 : decode u_He_offFrom.2.1 21 = .ok (.invokestatic 21, 3) := by decide +kernel
theorem d_He_offFrom_24 : decode u_He_offFrom.2.1 24 = .ok (.iadd, 1) := by decide +kernel
theorem d_He_offFrom_25 : decode u_He_offFrom.2.1 25 = .ok (.istore_n 2, 1) := by decide +kernel
theorem d_He_offFrom_26 : decode u_He_offFrom.2.1 26 = .ok (.iinc 3 1, 3) := by decide +kernel
theorem d_He_offFrom_29 : decode u_He_offFrom.2.1 29 = .ok (.goto (-25), 3) := by decide +kernel
theorem d_He_offFrom_32 : decode u_He_offFrom.2.1 32 = .ok (.iload_n 2, 1) := by decide +kernel
theorem d_He_offFrom_33 : decode u_He_offFrom.2.1 33 = .ok (.ireturn, 1) := by decide +kernel
theorem d_Kn_init_0 : decode u_Kn_init.2.1 0 = .ok (.aload_n 0, 1) := by decide +kernel
theorem d_Kn_init_1 : decode u_Kn_init.2.1 1 = .ok (.invokespecial 3, 3) := by decide +kernel
theorem d_Kn_init_4 : decode u_Kn_init.2.1 4 = .ok (.aload_n 0, 1) := by decide +kernel
theorem d_Kn_init_5 : decode u_Kn_init.2.1 5 = .ok (.bipush 8, 2) := by decide +kernel
theorem d_Kn_init_7 : decode u_Kn_init.2.1 7 = .ok (.newarray .int, 2) := by decide +kernel
theorem d_Kn_init_9 : decode u_Kn_init.2.1 9 = .ok (.putfield 9, 3) := by decide +kernel
theorem d_Kn_init_12 : decode u_Kn_init.2.1 12 = .ok (.return_, 1) := by decide +kernel
theorem d_Kn_knows_0 : decode u_Kn_knows.2.1 0 = .ok (.aload_n 0, 1) := by decide +kernel
theorem d_Kn_knows_1 : decode u_Kn_knows.2.1 1 = .ok (.getfield 15, 3) := by decide +kernel
theorem d_Kn_knows_4 : decode u_Kn_knows.2.1 4 = .ok (.iload_n 1, 1) := by decide +kernel
theorem d_Kn_knows_5 : decode u_Kn_knows.2.1 5 = .ok (.ishr, 1) := by decide +kernel
theorem d_Kn_knows_6 : decode u_Kn_knows.2.1 6 = .ok (.iconst 1, 1) := by decide +kernel
theorem d_Kn_knows_7 : decode u_Kn_knows.2.1 7 = .ok (.iand, 1) := by decide +kernel
theorem d_Kn_knows_8 : decode u_Kn_knows.2.1 8 = .ok (.iconst 1, 1) := by decide +kernel
theorem d_Kn_knows_9 : decode u_Kn_knows.2.1 9 = .ok (.if_icmp .ne 7, 3) := by decide +kernel
theorem d_Kn_knows_12 : decode u_Kn_knows.2.1 12 = .ok (.iconst 1, 1) := by decide +kernel
theorem d_Kn_knows_13 : decode u_Kn_knows.2.1 13 = .ok (.goto 4, 3) := by decide +kernel
theorem d_Kn_knows_16 : decode u_Kn_knows.2.1 16 = .ok (.iconst 0, 1) := by decide +kernel
theorem d_Kn_knows_17 : decode u_Kn_knows.2.1 17 = .ok (.ireturn, 1) := by decide +kernel
theorem d_Kn_gaze_0 : decode u_Kn_gaze.2.1 0 = .ok (.iload_n 2, 1) := by decide +kernel
theorem d_Kn_gaze_1 : decode u_Kn_gaze.2.1 1 = .ok (.iload_n 3, 1) := by decide +kernel
theorem d_Kn_gaze_2 : decode u_Kn_gaze.2.1 2 = .ok (.iadd, 1) := by decide +kernel
theorem d_Kn_gaze_3 : decode u_Kn_gaze.2.1 3 = .ok (.istore 4, 2) := by decide +kernel
theorem d_Kn_gaze_5 : decode u_Kn_gaze.2.1 5 = .ok (.iconst 0, 1) := by decide +kernel
theorem d_Kn_gaze_6 : decode u_Kn_gaze.2.1 6 = .ok (.istore 5, 2) := by decide +kernel
theorem d_Kn_gaze_8 : decode u_Kn_gaze.2.1 8 = .ok (.iload 5, 2) := by decide +kernel
theorem d_Kn_gaze_10 : decode u_Kn_gaze.2.1 10 = .ok (.bipush 8, 2) := by decide +kernel
theorem d_Kn_gaze_12 : decode u_Kn_gaze.2.1 12 = .ok (.if_icmp .ge 53, 3) := by decide +kernel
theorem d_Kn_gaze_15 : decode u_Kn_gaze.2.1 15 = .ok (.iload 4, 2) := by decide +kernel
theorem d_Kn_gaze_17 : decode u_Kn_gaze.2.1 17 = .ok (.ifCond .le 48, 3) := by decide +kernel
theorem d_Kn_gaze_20 : decode u_Kn_gaze.2.1 20 = .ok (.aload_n 1, 1) := by decide +kernel
theorem d_Kn_gaze_21 : decode u_Kn_gaze.2.1 21 = .ok (.iload 5, 2) := by decide +kernel
theorem d_Kn_gaze_23 : decode u_Kn_gaze.2.1 23 = .ok (.invokevirtual 19, 3) := by decide +kernel
theorem d_Kn_gaze_26 : decode u_Kn_gaze.2.1 26 = .ok (.ifCond .eq 33, 3) := by decide +kernel
theorem d_Kn_gaze_29 : decode u_Kn_gaze.2.1 29 = .ok (.aload_n 0, 1) := by decide +kernel
theorem d_Kn_gaze_30 : decode u_Kn_gaze.2.1 30 = .ok (.getfield 9, 3) := by decide +kernel
theorem d_Kn_gaze_33 : decode u_Kn_gaze.2.1 33 = .ok (.iload 5, 2) := by decide +kernel
theorem d_Kn_gaze_35 : decode u_Kn_gaze.2.1 35 = .ok (.dup2, 1) := by decide +kernel
theorem d_Kn_gaze_36 : decode u_Kn_gaze.2.1 36 = .ok (.iaload, 1) := by decide +kernel
theorem d_Kn_gaze_37 : decode u_Kn_gaze.2.1 37 = .ok (.aload_n 1, 1) := by decide +kernel
theorem d_Kn_gaze_38 : decode u_Kn_gaze.2.1 38 = .ok (.getfield 25, 3) := by decide +kernel
theorem d_Kn_gaze_41 : decode u_Kn_gaze.2.1 41 = .ok (.iload 5, 2) := by decide +kernel
theorem d_Kn_gaze_43 : decode u_Kn_gaze.2.1 43 = .ok (.iaload, 1) := by decide +kernel
theorem d_Kn_gaze_44 : decode u_Kn_gaze.2.1 44 = .ok (.aload_n 0, 1) := by decide +kernel
theorem d_Kn_gaze_45 : decode u_Kn_gaze.2.1 45 = .ok (.getfield 9, 3) := by decide +kernel
theorem d_Kn_gaze_48 : decode u_Kn_gaze.2.1 48 = .ok (.iload 5, 2) := by decide +kernel
theorem d_Kn_gaze_50 : decode u_Kn_gaze.2.1 50 = .ok (.iaload, 1) := by decide +kernel
theorem d_Kn_gaze_51 : decode u_Kn_gaze.2.1 51 = .ok (.isub, 1) := by decide +kernel
theorem d_Kn_gaze_52 : decode u_Kn_gaze.2.1 52 = .ok (.iload_n 2, 1) := by decide +kernel
theorem d_Kn_gaze_53 : decode u_Kn_gaze.2.1 53 = .ok (.imul, 1) := by decide +kernel
theorem d_Kn_gaze_54 : decode u_Kn_gaze.2.1 54 = .ok (.iload 4, 2) := by decide +kernel
theorem d_Kn_gaze_56 : decode u_Kn_gaze.2.1 56 = .ok (.idiv, 1) := by decide +kernel
theorem d_Kn_gaze_57 : decode u_Kn_gaze.2.1 57 = .ok (.iadd, 1) := by decide +kernel
theorem d_Kn_gaze_58 : decode u_Kn_gaze.2.1 58 = .ok (.iastore, 1) := by decide +kernel
theorem d_Kn_gaze_59 : decode u_Kn_gaze.2.1 59 = .ok (.iinc 5 1, 3) := by decide +kernel
theorem d_Kn_gaze_62 : decode u_Kn_gaze.2.1 62 = .ok (.goto (-54), 3) := by decide +kernel
theorem d_Kn_gaze_65 : decode u_Kn_gaze.2.1 65 = .ok (.return_, 1) := by decide +kernel
theorem d_Kn_weigh_0 : decode u_Kn_weigh.2.1 0 = .ok (.lconst 0, 1) := by decide +kernel
theorem d_Kn_weigh_1 : decode u_Kn_weigh.2.1 1 = .ok (.lstore 4, 2) := by decide +kernel
theorem d_Kn_weigh_3 : decode u_Kn_weigh.2.1 3 = .ok (.lconst 0, 1) := by decide +kernel
theorem d_Kn_weigh_4 : decode u_Kn_weigh.2.1 4 = .ok (.lstore 6, 2) := by decide +kernel
theorem d_Kn_weigh_6 : decode u_Kn_weigh.2.1 6 = .ok (.iconst 0, 1) := by decide +kernel
theorem d_Kn_weigh_7 : decode u_Kn_weigh.2.1 7 = .ok (.istore 8, 2) := by decide +kernel
theorem d_Kn_weigh_9 : decode u_Kn_weigh.2.1 9 = .ok (.iload 8, 2) := by decide +kernel
theorem d_Kn_weigh_11 : decode u_Kn_weigh.2.1 11 = .ok (.bipush 8, 2) := by decide +kernel
theorem d_Kn_weigh_13 : decode u_Kn_weigh.2.1 13 = .ok (.if_icmp .ge 70, 3) := by decide +kernel
theorem d_Kn_weigh_16 : decode u_Kn_weigh.2.1 16 = .ok (.aload_n 1, 1) := by decide +kernel
theorem d_Kn_weigh_17 : decode u_Kn_weigh.2.1 17 = .ok (.iload 8, 2) := by decide +kernel
theorem d_Kn_weigh_19 : decode u_Kn_weigh.2.1 19 = .ok (.invokevirtual 19, 3) := by decide +kernel
theorem d_Kn_weigh_22 : decode u_Kn_weigh.2.1 22 = .ok (.ifCond .eq 55, 3) := by decide +kernel
theorem d_Kn_weigh_25 : decode u_Kn_weigh.2.1 25 = .ok (.aload_n 2, 1) := by decide +kernel
theorem d_Kn_weigh_26 : decode u_Kn_weigh.2.1 26 = .ok (.getfield 28, 3) := by decide +kernel
theorem d_Kn_weigh_29 : decode u_Kn_weigh.2.1 29 = .ok (.iload 8, 2) := by decide +kernel
theorem d_Kn_weigh_31 : decode u_Kn_weigh.2.1 31 = .ok (.iaload, 1) := by decide +kernel
theorem d_Kn_weigh_32 : decode u_Kn_weigh.2.1 32 = .ok (.aload_n 0, 1) := by decide +kernel
theorem d_Kn_weigh_33 : decode u_Kn_weigh.2.1 33 = .ok (.getfield 9, 3) := by decide +kernel
theorem d_Kn_weigh_36 : decode u_Kn_weigh.2.1 36 = .ok (.iload 8, 2) := by decide +kernel
theorem d_Kn_weigh_38 : decode u_Kn_weigh.2.1 38 = .ok (.iaload, 1) := by decide +kernel
theorem d_Kn_weigh_39 : decode u_Kn_weigh.2.1 39 = .ok (.isub, 1) := by decide +kernel
theorem d_Kn_weigh_40 : decode u_Kn_weigh.2.1 40 = .ok (.i2l, 1) := by decide +kernel
theorem d_Kn_weigh_41 : decode u_Kn_weigh.2.1 41 = .ok (.lstore 9, 2) := by decide +kernel
theorem d_Kn_weigh_43 : decode u_Kn_weigh.2.1 43 = .ok (.lload 4, 2) := by decide +kernel
theorem d_Kn_weigh_45 : decode u_Kn_weigh.2.1 45 = .ok (.lload 9, 2) := by decide +kernel
theorem d_Kn_weigh_47 : decode u_Kn_weigh.2.1 47 = .ok (.aload_n 1, 1) := by decide +kernel
theorem d_Kn_weigh_48 : decode u_Kn_weigh.2.1 48 = .ok (.getfield 25, 3) := by decide +kernel
theorem d_Kn_weigh_51 : decode u_Kn_weigh.2.1 51 = .ok (.iload 8, 2) := by decide +kernel
theorem d_Kn_weigh_53 : decode u_Kn_weigh.2.1 53 = .ok (.iaload, 1) := by decide +kernel
theorem d_Kn_weigh_54 : decode u_Kn_weigh.2.1 54 = .ok (.aload_n 0, 1) := by decide +kernel
theorem d_Kn_weigh_55 : decode u_Kn_weigh.2.1 55 = .ok (.getfield 9, 3) := by decide +kernel
theorem d_Kn_weigh_58 : decode u_Kn_weigh.2.1 58 = .ok (.iload 8, 2) := by decide +kernel
theorem d_Kn_weigh_60 : decode u_Kn_weigh.2.1 60 = .ok (.iaload, 1) := by decide +kernel
theorem d_Kn_weigh_61 : decode u_Kn_weigh.2.1 61 = .ok (.isub, 1) := by decide +kernel
theorem d_Kn_weigh_62 : decode u_Kn_weigh.2.1 62 = .ok (.i2l, 1) := by decide +kernel
theorem d_Kn_weigh_63 : decode u_Kn_weigh.2.1 63 = .ok (.lmul, 1) := by decide +kernel
theorem d_Kn_weigh_64 : decode u_Kn_weigh.2.1 64 = .ok (.ladd, 1) := by decide +kernel
theorem d_Kn_weigh_65 : decode u_Kn_weigh.2.1 65 = .ok (.lstore 4, 2) := by decide +kernel
theorem d_Kn_weigh_67 : decode u_Kn_weigh.2.1 67 = .ok (.lload 6, 2) := by decide +kernel
theorem d_Kn_weigh_69 : decode u_Kn_weigh.2.1 69 = .ok (.lload 9, 2) := by decide +kernel
theorem d_Kn_weigh_71 : decode u_Kn_weigh.2.1 71 = .ok (.lload 9, 2) := by decide +kernel
theorem d_Kn_weigh_73 : decode u_Kn_weigh.2.1 73 = .ok (.lmul, 1) := by decide +kernel
theorem d_Kn_weigh_74 : decode u_Kn_weigh.2.1 74 = .ok (.ladd, 1) := by decide +kernel
theorem d_Kn_weigh_75 : decode u_Kn_weigh.2.1 75 = .ok (.lstore 6, 2) := by decide +kernel
theorem d_Kn_weigh_77 : decode u_Kn_weigh.2.1 77 = .ok (.iinc 8 1, 3) := by decide +kernel
theorem d_Kn_weigh_80 : decode u_Kn_weigh.2.1 80 = .ok (.goto (-71), 3) := by decide +kernel
theorem d_Kn_weigh_83 : decode u_Kn_weigh.2.1 83 = .ok (.lload 4, 2) := by decide +kernel
theorem d_Kn_weigh_85 : decode u_Kn_weigh.2.1 85 = .ok (.lconst 0, 1) := by decide +kernel
theorem d_Kn_weigh_86 : decode u_Kn_weigh.2.1 86 = .ok (.lcmp, 1) := by decide +kernel
theorem d_Kn_weigh_87 : decode u_Kn_weigh.2.1 87 = .ok (.ifCond .lt 10, 3) := by decide +kernel
theorem d_Kn_weigh_90 : decode u_Kn_weigh.2.1 90 = .ok (.lload 6, 2) := by decide +kernel
theorem d_Kn_weigh_92 : decode u_Kn_weigh.2.1 92 = .ok (.lconst 0, 1) := by decide +kernel
theorem d_Kn_weigh_93 : decode u_Kn_weigh.2.1 93 = .ok (.lcmp, 1) := by decide +kernel
theorem d_Kn_weigh_94 : decode u_Kn_weigh.2.1 94 = .ok (.ifCond .ne 12, 3) := by decide +kernel
theorem d_Kn_weigh_97 : decode u_Kn_weigh.2.1 97 = .ok (.aload_n 3, 1) := by decide +kernel
theorem d_Kn_weigh_98 : decode u_Kn_weigh.2.1 98 = .ok (.lconst 0, 1) := by decide +kernel
theorem d_Kn_weigh_99 : decode u_Kn_weigh.2.1 99 = .ok (.lconst 1, 1) := by decide +kernel
theorem d_Kn_weigh_100 : decode u_Kn_weigh.2.1 100 = .ok (.invokevirtual 33, 3) := by decide +kernel
theorem d_Kn_weigh_103 : decode u_Kn_weigh.2.1 103 = .ok (.goto 14, 3) := by decide +kernel
theorem d_Kn_weigh_106 : decode u_Kn_weigh.2.1 106 = .ok (.aload_n 3, 1) := by decide +kernel
theorem d_Kn_weigh_107 : decode u_Kn_weigh.2.1 107 = .ok (.lload 4, 2) := by decide +kernel
theorem d_Kn_weigh_109 : decode u_Kn_weigh.2.1 109 = .ok (.lload 4, 2) := by decide +kernel
theorem d_Kn_weigh_111 : decode u_Kn_weigh.2.1 111 = .ok (.lmul, 1) := by decide +kernel
theorem d_Kn_weigh_112 : decode u_Kn_weigh.2.1 112 = .ok (.lload 6, 2) := by decide +kernel
theorem d_Kn_weigh_114 : decode u_Kn_weigh.2.1 114 = .ok (.invokevirtual 33, 3) := by decide +kernel
theorem d_Kn_weigh_117 : decode u_Kn_weigh.2.1 117 = .ok (.return_, 1) := by decide +kernel
theorem d_Sh_init_0 : decode u_Sh_init.2.1 0 = .ok (.aload_n 0, 1) := by decide +kernel
theorem d_Sh_init_1 : decode u_Sh_init.2.1 1 = .ok (.invokespecial 3, 3) := by decide +kernel
theorem d_Sh_init_4 : decode u_Sh_init.2.1 4 = .ok (.aload_n 0, 1) := by decide +kernel
theorem d_Sh_init_5 : decode u_Sh_init.2.1 5 = .ok (.bipush 60, 2) := by decide +kernel
theorem d_Sh_init_7 : decode u_Sh_init.2.1 7 = .ok (.newarray .int, 2) := by decide +kernel
theorem d_Sh_init_9 : decode u_Sh_init.2.1 9 = .ok (.putfield 9, 3) := by decide +kernel
theorem d_Sh_init_12 : decode u_Sh_init.2.1 12 = .ok (.aload_n 0, 1) := by decide +kernel
theorem d_Sh_init_13 : decode u_Sh_init.2.1 13 = .ok (.iconst (-1), 1) := by decide +kernel
theorem d_Sh_init_14 : decode u_Sh_init.2.1 14 = .ok (.putfield 15, 3) := by decide +kernel
theorem d_Sh_init_17 : decode u_Sh_init.2.1 17 = .ok (.return_, 1) := by decide +kernel
theorem d_Sh_isLost_0 : decode u_Sh_isLost.2.1 0 = .ok (.aload_n 0, 1) := by decide +kernel
theorem d_Sh_isLost_1 : decode u_Sh_isLost.2.1 1 = .ok (.getfield 15, 3) := by decide +kernel
theorem d_Sh_isLost_4 : decode u_Sh_isLost.2.1 4 = .ok (.iconst (-1), 1) := by decide +kernel
theorem d_Sh_isLost_5 : decode u_Sh_isLost.2.1 5 = .ok (.if_icmp .ne 7, 3) := by decide +kernel
theorem d_Sh_isLost_8 : decode u_Sh_isLost.2.1 8 = .ok (.iconst 1, 1) := by decide +kernel
theorem d_Sh_isLost_9 : decode u_Sh_isLost.2.1 9 = .ok (.goto 4, 3) := by decide +kernel
theorem d_Sh_isLost_12 : decode u_Sh_isLost.2.1 12 = .ok (.iconst 0, 1) := by decide +kernel
theorem d_Sh_isLost_13 : decode u_Sh_isLost.2.1 13 = .ok (.ireturn, 1) := by decide +kernel
theorem d_Sh_begin_0 : decode u_Sh_begin.2.1 0 = .ok (.aload_n 0, 1) := by decide +kernel
theorem d_Sh_begin_1 : decode u_Sh_begin.2.1 1 = .ok (.iload_n 1, 1) := by decide +kernel
theorem d_Sh_begin_2 : decode u_Sh_begin.2.1 2 = .ok (.putfield 15, 3) := by decide +kernel
theorem d_Sh_begin_5 : decode u_Sh_begin.2.1 5 = .ok (.aload_n 0, 1) := by decide +kernel
theorem d_Sh_begin_6 : decode u_Sh_begin.2.1 6 = .ok (.iload_n 2, 1) := by decide +kernel
theorem d_Sh_begin_7 : decode u_Sh_begin.2.1 7 = .ok (.putfield 19, 3) := by decide +kernel
theorem d_Sh_begin_10 : decode u_Sh_begin.2.1 10 = .ok (.aload_n 0, 1) := by decide +kernel
theorem d_Sh_begin_11 : decode u_Sh_begin.2.1 11 = .ok (.getfield 9, 3) := by decide +kernel
theorem d_Sh_begin_14 : decode u_Sh_begin.2.1 14 = .ok (.iconst 0, 1) := by decide +kernel
theorem d_Sh_begin_15 : decode u_Sh_begin.2.1 15 = .ok (.invokestatic 22, 3) := by decide +kernel
theorem d_Sh_begin_18 : decode u_Sh_begin.2.1 18 = .ok (.return_, 1) := by decide +kernel
theorem d_Sh_hasRun_0 : decode u_Sh_hasRun.2.1 0 = .ok (.iload_n 1, 1) := by decide +kernel
theorem d_Sh_hasRun_1 : decode u_Sh_hasRun.2.1 1 = .ok (.ifCond .lt 29, 3) := by decide +kernel
theorem d_Sh_hasRun_4 : decode u_Sh_hasRun.2.1 4 = .ok (.iload_n 2, 1) := by decide +kernel
theorem d_Sh_hasRun_5 : decode u_Sh_hasRun.2.1 5 = .ok (.ifCond .lt 25, 3) := by decide +kernel
theorem d_Sh_hasRun_8 : decode u_Sh_hasRun.2.1 8 = .ok (.iload_n 2, 1) := by decide +kernel
theorem d_Sh_hasRun_9 : decode u_Sh_hasRun.2.1 9 = .ok (.aload_n 0, 1) := by decide +kernel
theorem d_Sh_hasRun_10 : decode u_Sh_hasRun.2.1 10 = .ok (.getfield 19, 3) := by decide +kernel
theorem d_Sh_hasRun_13 : decode u_Sh_hasRun.2.1 13 = .ok (.if_icmp .gt 17, 3) := by decide +kernel
theorem d_Sh_hasRun_16 : decode u_Sh_hasRun.2.1 16 = .ok (.iload_n 1, 1) := by decide +kernel
theorem d_Sh_hasRun_17 : decode u_Sh_hasRun.2.1 17 = .ok (.aload_n 0, 1) := by decide +kernel
theorem d_Sh_hasRun_18 : decode u_Sh_hasRun.2.1 18 = .ok (.getfield 19, 3) := by decide +kernel
theorem d_Sh_hasRun_21 : decode u_Sh_hasRun.2.1 21 = .ok (.iload_n 2, 1) := by decide +kernel
theorem d_Sh_hasRun_22 : decode u_Sh_hasRun.2.1 22 = .ok (.isub, 1) := by decide +kernel
theorem d_Sh_hasRun_23 : decode u_Sh_hasRun.2.1 23 = .ok (.if_icmp .gt 7, 3) := by decide +kernel
theorem d_Sh_hasRun_26 : decode u_Sh_hasRun.2.1 26 = .ok (.iconst 1, 1) := by decide +kernel
theorem d_Sh_hasRun_27 : decode u_Sh_hasRun.2.1 27 = .ok (.goto 4, 3) := by decide +kernel
theorem d_Sh_hasRun_30 : decode u_Sh_hasRun.2.1 30 = .ok (.iconst 0, 1) := by decide +kernel
theorem d_Sh_hasRun_31 : decode u_Sh_hasRun.2.1 31 = .ok (.ireturn, 1) := by decide +kernel
theorem d_Sh_put_0 : decode u_Sh_put.2.1 0 = .ok (.iload_n 1, 1) := by decide +kernel
theorem d_Sh_put_1 : decode u_Sh_put.2.1 1 = .ok (.ifCond .lt 17, 3) := by decide +kernel
theorem d_Sh_put_4 : decode u_Sh_put.2.1 4 = .ok (.iload_n 1, 1) := by decide +kernel
theorem d_Sh_put_5 : decode u_Sh_put.2.1 5 = .ok (.aload_n 0, 1) := by decide +kernel
theorem d_Sh_put_6 : decode u_Sh_put.2.1 6 = .ok (.getfield 19, 3) := by decide +kernel
theorem d_Sh_put_9 : decode u_Sh_put.2.1 9 = .ok (.if_icmp .ge 9, 3) := by decide +kernel
theorem d_Sh_put_12 : decode u_Sh_put.2.1 12 = .ok (.iload_n 1, 1) := by decide +kernel
theorem d_Sh_put_13 : decode u_Sh_put.2.1 13 = .ok (.bipush 60, 2) := by decide +kernel
theorem d_Sh_put_15 : decode u_Sh_put.2.1 15 = .ok (.if_icmp .lt 4, 3) := by decide +kernel
theorem d_Sh_put_18 : decode u_Sh_put.2.1 18 = .ok (.return_, 1) := by decide +kernel
theorem d_Sh_put_19 : decode u_Sh_put.2.1 19 = .ok (.aload_n 0, 1) := by decide +kernel
theorem d_Sh_put_20 : decode u_Sh_put.2.1 20 = .ok (.getfield 15, 3) := by decide +kernel
theorem d_Sh_put_23 : decode u_Sh_put.2.1 23 = .ok (.ifCond .ne 14, 3) := by decide +kernel
theorem d_Sh_put_26 : decode u_Sh_put.2.1 26 = .ok (.aload_n 0, 1) := by decide +kernel
theorem d_Sh_put_27 : decode u_Sh_put.2.1 27 = .ok (.getfield 9, 3) := by decide +kernel
theorem d_Sh_put_30 : decode u_Sh_put.2.1 30 = .ok (.iload_n 1, 1) := by decide +kernel
theorem d_Sh_put_31 : decode u_Sh_put.2.1 31 = .ok (.iload_n 2, 1) := by decide +kernel
theorem d_Sh_put_32 : decode u_Sh_put.2.1 32 = .ok (.i2b, 1) := by decide +kernel
theorem d_Sh_put_33 : decode u_Sh_put.2.1 33 = .ok (.iastore, 1) := by decide +kernel
theorem d_Sh_put_34 : decode u_Sh_put.2.1 34 = .ok (.goto 29, 3) := by decide +kernel
theorem d_Sh_put_37 : decode u_Sh_put.2.1 37 = .ok (.aload_n 0, 1) := by decide +kernel
theorem d_Sh_put_38 : decode u_Sh_put.2.1 38 = .ok (.getfield 15, 3) := by decide +kernel
theorem d_Sh_put_41 : decode u_Sh_put.2.1 41 = .ok (.iconst 1, 1) := by decide +kernel
theorem d_Sh_put_42 : decode u_Sh_put.2.1 42 = .ok (.if_icmp .ne 14, 3) := by decide +kernel
theorem d_Sh_put_45 : decode u_Sh_put.2.1 45 = .ok (.aload_n 0, 1) := by decide +kernel
theorem d_Sh_put_46 : decode u_Sh_put.2.1 46 = .ok (.getfield 9, 3) := by decide +kernel
theorem d_Sh_put_49 : decode u_Sh_put.2.1 49 = .ok (.iload_n 1, 1) := by decide +kernel
theorem d_Sh_put_50 : decode u_Sh_put.2.1 50 = .ok (.iload_n 2, 1) := by decide +kernel
theorem d_Sh_put_51 : decode u_Sh_put.2.1 51 = .ok (.i2s, 1) := by decide +kernel
theorem d_Sh_put_52 : decode u_Sh_put.2.1 52 = .ok (.iastore, 1) := by decide +kernel
theorem d_Sh_put_53 : decode u_Sh_put.2.1 53 = .ok (.goto 10, 3) := by decide +kernel
theorem d_Sh_put_56 : decode u_Sh_put.2.1 56 = .ok (.aload_n 0, 1) := by decide +kernel
theorem d_Sh_put_57 : decode u_Sh_put.2.1 57 = .ok (.getfield 9, 3) := by decide +kernel
theorem d_Sh_put_60 : decode u_Sh_put.2.1 60 = .ok (.iload_n 1, 1) := by decide +kernel
theorem d_Sh_put_61 : decode u_Sh_put.2.1 61 = .ok (.iload_n 2, 1) := by decide +kernel
theorem d_Sh_put_62 : decode u_Sh_put.2.1 62 = .ok (.iastore, 1) := by decide +kernel
theorem d_Sh_put_63 : decode u_Sh_put.2.1 63 = .ok (.return_, 1) := by decide +kernel
theorem d_Sk_init_0 : decode u_Sk_init.2.1 0 = .ok (.aload_n 0, 1) := by decide +kernel
theorem d_Sk_init_1 : decode u_Sk_init.2.1 1 = .ok (.invokespecial 3, 3) := by decide +kernel
theorem d_Sk_init_4 : decode u_Sk_init.2.1 4 = .ok (.aload_n 0, 1) := by decide +kernel
theorem d_Sk_init_5 : decode u_Sk_init.2.1 5 = .ok (.bipush 8, 2) := by decide +kernel
theorem d_Sk_init_7 : decode u_Sk_init.2.1 7 = .ok (.newarray .int, 2) := by decide +kernel
theorem d_Sk_init_9 : decode u_Sk_init.2.1 9 = .ok (.putfield 9, 3) := by decide +kernel
theorem d_Sk_init_12 : decode u_Sk_init.2.1 12 = .ok (.aload_n 0, 1) := by decide +kernel
theorem d_Sk_init_13 : decode u_Sk_init.2.1 13 = .ok (.bipush 8, 2) := by decide +kernel
theorem d_Sk_init_15 : decode u_Sk_init.2.1 15 = .ok (.newarray .int, 2) := by decide +kernel
theorem d_Sk_init_17 : decode u_Sk_init.2.1 17 = .ok (.putfield 15, 3) := by decide +kernel
theorem d_Sk_init_20 : decode u_Sk_init.2.1 20 = .ok (.aload_n 0, 1) := by decide +kernel
theorem d_Sk_init_21 : decode u_Sk_init.2.1 21 = .ok (.iconst (-1), 1) := by decide +kernel
theorem d_Sk_init_22 : decode u_Sk_init.2.1 22 = .ok (.putfield 18, 3) := by decide +kernel
theorem d_Sk_init_25 : decode u_Sk_init.2.1 25 = .ok (.return_, 1) := by decide +kernel
theorem d_Sk_has_0 : decode u_Sk_has.2.1 0 = .ok (.aload_n 0, 1) := by decide +kernel
theorem d_Sk_has_1 : decode u_Sk_has.2.1 1 = .ok (.getfield 15, 3) := by decide +kernel
theorem d_Sk_has_4 : decode u_Sk_has.2.1 4 = .ok (.iload_n 1, 1) := by decide +kernel
theorem d_Sk_has_5 : decode u_Sk_has.2.1 5 = .ok (.iaload, 1) := by decide +kernel
theorem d_Sk_has_6 : decode u_Sk_has.2.1 6 = .ok (.sipush (-9999), 3) := by decide +kernel
theorem d_Sk_has_9 : decode u_Sk_has.2.1 9 = .ok (.if_icmp .eq 7, 3) := by decide +kernel
theorem d_Sk_has_12 : decode u_Sk_has.2.1 12 = .ok (.iconst 1, 1) := by decide +kernel
theorem d_Sk_has_13 : decode u_Sk_has.2.1 13 = .ok (.goto 4, 3) := by decide +kernel
theorem d_Sk_has_16 : decode u_Sk_has.2.1 16 = .ok (.iconst 0, 1) := by decide +kernel
theorem d_Sk_has_17 : decode u_Sk_has.2.1 17 = .ok (.ireturn, 1) := by decide +kernel
theorem d_Sk_isOffByMoreThan_0 : decode u_Sk_isOffByMoreThan.2.1 0 = .ok (.iconst 0, 1) := by decide +kernel
theorem d_Sk_isOffByMoreThan_1 : decode u_Sk_isOffByMoreThan.2.1 1 = .ok (.istore_n 2, 1) := by decide +kernel
theorem d_Sk_isOffByMoreThan_2 : decode u_Sk_isOffByMoreThan.2.1 2 = .ok (.iload_n 2, 1) := by decide +kernel
theorem d_Sk_isOffByMoreThan_3 : decode u_Sk_isOffByMoreThan.2.1 3 = .ok (.bipush 8, 2) := by decide +kernel
theorem d_Sk_isOffByMoreThan_5 : decode u_Sk_isOffByMoreThan.2.1 5 = .ok (.if_icmp .ge 39, 3) := by decide +kernel
theorem d_Sk_isOffByMoreThan_8 : decode u_Sk_isOffByMoreThan.2.1 8 = .ok (.aload_n 0, 1) := by decide +kernel
theorem d_Sk_isOffByMoreThan_9 : decode u_Sk_isOffByMoreThan.2.1 9 = .ok (.iload_n 2, 1) := by decide +kernel
theorem d_Sk_isOffByMoreThan_10 : decode u_Sk_isOffByMoreThan.2.1 10 = .ok (.invokevirtual 22, 3) := by decide +kernel
theorem d_Sk_isOffByMoreThan_13 : decode u_Sk_isOffByMoreThan.2.1 13 = .ok (.ifCond .eq 25, 3) := by decide +kernel
theorem d_Sk_isOffByMoreThan_16 : decode u_Sk_isOffByMoreThan.2.1 16 = .ok (.aload_n 0, 1) := by decide +kernel
theorem d_Sk_isOffByMoreThan_17 : decode u_Sk_isOffByMoreThan.2.1 17 = .ok (.getfield 15, 3) := by decide +kernel
theorem d_Sk_isOffByMoreThan_20 : decode u_Sk_isOffByMoreThan.2.1 20 = .ok (.iload_n 2, 1) := by decide +kernel
theorem d_Sk_isOffByMoreThan_21 : decode u_Sk_isOffByMoreThan.2.1 21 = .ok (.iaload, 1) := by decide +kernel
theorem d_Sk_isOffByMoreThan_22 : decode u_Sk_isOffByMoreThan.2.1 22 = .ok (.aload_n 0, 1) := by decide +kernel
theorem d_Sk_isOffByMoreThan_23 : decode u_Sk_isOffByMoreThan.2.1 23 = .ok (.getfield 9, 3) := by decide +kernel
theorem d_Sk_isOffByMoreThan_26 : decode u_Sk_isOffByMoreThan.2.1 26 = .ok (.iload_n 2, 1) := by decide +kernel
theorem d_Sk_isOffByMoreThan_27 : decode u_Sk_isOffByMoreThan.2.1 27 = .ok (.iaload, 1) := by decide +kernel
theorem d_Sk_isOffByMoreThan_28 : decode u_Sk_isOffByMoreThan.2.1 28 = .ok (.isub, 1) := by decide +kernel
theorem d_Sk_isOffByMoreThan_29 : decode u_Sk_isOffByMoreThan.2.1 29 = .ok (.invokestatic 26, 3) := by decide +kernel
theorem d_Sk_isOffByMoreThan_32 : decode u_Sk_isOffByMoreThan.2.1 32 = .ok (.iload_n 1, 1) := by decide +kernel
theorem d_Sk_isOffByMoreThan_33 : decode u_Sk_isOffByMoreThan.2.1 33 = .ok (.if_icmp .le 5, 3) := by decide +kernel
theorem d_Sk_isOffByMoreThan_36 : decode u_Sk_isOffByMoreThan.2.1 36 = .ok (.iconst 1, 1) := by decide +kernel
theorem d_Sk_isOffByMoreThan_37 : decode u_Sk_isOffByMoreThan.2.1 37 = .ok (.ireturn, 1) := by decide +kernel
theorem d_Sk_isOffByMoreThan_38 : decode u_Sk_isOffByMoreThan.2.1 38 = .ok (.iinc 2 1, 3) := by decide +kernel
theorem d_Sk_isOffByMoreThan_41 : decode u_Sk_isOffByMoreThan.2.1 41 = .ok (.goto (-39), 3) := by decide +kernel
theorem d_Sk_isOffByMoreThan_44 : decode u_Sk_isOffByMoreThan.2.1 44 = .ok (.iconst 0, 1) := by decide +kernel
theorem d_Sk_isOffByMoreThan_45 : decode u_Sk_isOffByMoreThan.2.1 45 = .ok (.ireturn, 1) := by decide +kernel
theorem d_Sk_distanceTo_0 : decode u_Sk_distanceTo.2.1 0 = .ok (.iconst 0, 1) := by decide +kernel
theorem d_Sk_distanceTo_1 : decode u_Sk_distanceTo.2.1 1 = .ok (.istore_n 3, 1) := by decide +kernel
theorem d_Sk_distanceTo_2 : decode u_Sk_distanceTo.2.1 2 = .ok (.iconst 0, 1) := by decide +kernel
theorem d_Sk_distanceTo_3 : decode u_Sk_distanceTo.2.1 3 = .ok (.istore 4, 2) := by decide +kernel
theorem d_Sk_distanceTo_5 : decode u_Sk_distanceTo.2.1 5 = .ok (.iload 4, 2) := by decide +kernel
theorem d_Sk_distanceTo_7 : decode u_Sk_distanceTo.2.1 7 = .ok (.bipush 8, 2) := by decide +kernel
theorem d_Sk_distanceTo_9 : decode u_Sk_distanceTo.2.1 9 = .ok (.if_icmp .ge 73, 3) := by decide +kernel
theorem d_Sk_distanceTo_12 : decode u_Sk_distanceTo.2.1 12 = .ok (.aload_n 0, 1) := by decide +kernel
theorem d_Sk_distanceTo_13 : decode u_Sk_distanceTo.2.1 13 = .ok (.iload 4, 2) := by decide +kernel
theorem d_Sk_distanceTo_15 : decode u_Sk_distanceTo.2.1 15 = .ok (.invokevirtual 22, 3) := by decide +kernel
theorem d_Sk_distanceTo_18 : decode u_Sk_distanceTo.2.1 18 = .ok (.ifCond .eq 36, 3) := by decide +kernel
theorem d_Sk_distanceTo_21 : decode u_Sk_distanceTo.2.1 21 = .ok (.aload_n 1, 1) := by decide +kernel
theorem d_Sk_distanceTo_22 : decode u_Sk_distanceTo.2.1 22 = .ok (.iload 4, 2) := by decide +kernel
theorem d_Sk_distanceTo_24 : decode u_Sk_distanceTo.2.1 24 = .ok (.invokevirtual 22, 3) := by decide +kernel
theorem d_Sk_distanceTo_27 : decode u_Sk_distanceTo.2.1 27 = .ok (.ifCond .eq 27, 3) := by decide +kernel
theorem d_Sk_distanceTo_30 : decode u_Sk_distanceTo.2.1 30 = .ok (.iload_n 3, 1) := by decide +kernel
theorem d_Sk_distanceTo_31 : decode u_Sk_distanceTo.2.1 31 = .ok (.aload_n 0, 1) := by decide +kernel
theorem d_Sk_distanceTo_32 : decode u_Sk_distanceTo.2.1 32 = .ok (.getfield 15, 3) := by decide +kernel
theorem d_Sk_distanceTo_35 : decode u_Sk_distanceTo.2.1 35 = .ok (.iload 4, 2) := by decide +kernel
theorem d_Sk_distanceTo_37 : decode u_Sk_distanceTo.2.1 37 = .ok (.iaload, 1) := by decide +kernel
theorem d_Sk_distanceTo_38 : decode u_Sk_distanceTo.2.1 38 = .ok (.aload_n 1, 1) := by decide +kernel
theorem d_Sk_distanceTo_39 : decode u_Sk_distanceTo.2.1 39 = .ok (.getfield 15, 3) := by decide +kernel
theorem d_Sk_distanceTo_42 : decode u_Sk_distanceTo.2.1 42 = .ok (.iload 4, 2) := by decide +kernel
theorem d_Sk_distanceTo_44 : decode u_Sk_distanceTo.2.1 44 = .ok (.iaload, 1) := by decide +kernel
theorem d_Sk_distanceTo_45 : decode u_Sk_distanceTo.2.1 45 = .ok (.isub, 1) := by decide +kernel
theorem d_Sk_distanceTo_46 : decode u_Sk_distanceTo.2.1 46 = .ok (.invokestatic 26, 3) := by decide +kernel
theorem d_Sk_distanceTo_49 : decode u_Sk_distanceTo.2.1 49 = .ok (.iadd, 1) := by decide +kernel
theorem d_Sk_distanceTo_50 : decode u_Sk_distanceTo.2.1 50 = .ok (.istore_n 3, 1) := by decide +kernel
theorem d_Sk_distanceTo_51 : decode u_Sk_distanceTo.2.1 51 = .ok (.goto 25, 3) := by decide +kernel
theorem d_Sk_distanceTo_54 : decode u_Sk_distanceTo.2.1 54 = .ok (.aload_n 0, 1) := by decide +kernel
theorem d_Sk_distanceTo_55 : decode u_Sk_distanceTo.2.1 55 = .ok (.iload 4, 2) := by decide +kernel
theorem d_Sk_distanceTo_57 : decode u_Sk_distanceTo.2.1 57 = .ok (.invokevirtual 22, 3) := by decide +kernel
theorem d_Sk_distanceTo_60 : decode u_Sk_distanceTo.2.1 60 = .ok (.ifCond .ne 12, 3) := by decide +kernel
theorem d_Sk_distanceTo_63 : decode u_Sk_distanceTo.2.1 63 = .ok (.aload_n 1, 1) := by decide +kernel
theorem d_Sk_distanceTo_64 : decode u_Sk_distanceTo.2.1 64 = .ok (.iload 4, 2) := by decide +kernel
theorem d_Sk_distanceTo_66 : decode u_Sk_distanceTo.2.1 66 = .ok (.invokevirtual 22, 3) := by decide +kernel
theorem d_Sk_distanceTo_69 : decode u_Sk_distanceTo.2.1 69 = .ok (.ifCond .eq 7, 3) := by decide +kernel
theorem d_Sk_distanceTo_72 : decode u_Sk_distanceTo.2.1 72 = .ok (.iload_n 3, 1) := by decide +kernel
theorem d_Sk_distanceTo_73 : decode u_Sk_distanceTo.2.1 73 = .ok (.iload_n 2, 1) := by decide +kernel
theorem d_Sk_distanceTo_74 : decode u_Sk_distanceTo.2.1 74 = .ok (.iadd, 1) := by decide +kernel
theorem d_Sk_distanceTo_75 : decode u_Sk_distanceTo.2.1 75 = .ok (.istore_n 3, 1) := by decide +kernel
theorem d_Sk_distanceTo_76 : decode u_Sk_distanceTo.2.1 76 = .ok (.iinc 4 1, 3) := by decide +kernel
theorem d_Sk_distanceTo_79 : decode u_Sk_distanceTo.2.1 79 = .ok (.goto (-74), 3) := by decide +kernel
theorem d_Sk_distanceTo_82 : decode u_Sk_distanceTo.2.1 82 = .ok (.iload_n 3, 1) := by decide +kernel
theorem d_Sk_distanceTo_83 : decode u_Sk_distanceTo.2.1 83 = .ok (.ireturn, 1) := by decide +kernel
theorem d_C_init_0 : decode u_C_init.2.1 0 = .ok (.aload_n 0, 1) := by decide +kernel
theorem d_C_init_1 : decode u_C_init.2.1 1 = .ok (.invokespecial 3, 3) := by decide +kernel
theorem d_C_init_4 : decode u_C_init.2.1 4 = .ok (.aload_n 0, 1) := by decide +kernel
theorem d_C_init_5 : decode u_C_init.2.1 5 = .ok (.bipush 8, 2) := by decide +kernel
theorem d_C_init_7 : decode u_C_init.2.1 7 = .ok (.anewarray 9, 3) := by decide +kernel
theorem d_C_init_10 : decode u_C_init.2.1 10 = .ok (.putfield 11, 3) := by decide +kernel
theorem d_C_init_13 : decode u_C_init.2.1 13 = .ok (.aload_n 0, 1) := by decide +kernel
theorem d_C_init_14 : decode u_C_init.2.1 14 = .ok (.iconst 4, 1) := by decide +kernel
theorem d_C_init_15 : decode u_C_init.2.1 15 = .ok (.anewarray 15, 3) := by decide +kernel
theorem d_C_init_18 : decode u_C_init.2.1 18 = .ok (.putfield 17, 3) := by decide +kernel
theorem d_C_init_21 : decode u_C_init.2.1 21 = .ok (.aload_n 0, 1) := by decide +kernel
theorem d_C_init_22 : decode u_C_init.2.1 22 = .ok (.bipush 30, 2) := by decide +kernel
theorem d_C_init_24 : decode u_C_init.2.1 24 = .ok (.anewarray 21, 3) := by decide +kernel
theorem d_C_init_27 : decode u_C_init.2.1 27 = .ok (.putfield 23, 3) := by decide +kernel
theorem d_C_init_30 : decode u_C_init.2.1 30 = .ok (.aload_n 0, 1) := by decide +kernel
theorem d_C_init_31 : decode u_C_init.2.1 31 = .ok (.iconst 4, 1) := by decide +kernel
theorem d_C_init_32 : decode u_C_init.2.1 32 = .ok (.anewarray 27, 3) := by decide +kernel
theorem d_C_init_35 : decode u_C_init.2.1 35 = .ok (.putfield 29, 3) := by decide +kernel
theorem d_C_init_38 : decode u_C_init.2.1 38 = .ok (.aload_n 0, 1) := by decide +kernel
theorem d_C_init_39 : decode u_C_init.2.1 39 = .ok (.iconst 4, 1) := by decide +kernel
theorem d_C_init_40 : decode u_C_init.2.1 40 = .ok (.anewarray 33, 3) := by decide +kernel
theorem d_C_init_43 : decode u_C_init.2.1 43 = .ok (.putfield 35, 3) := by decide +kernel
theorem d_C_init_46 : decode u_C_init.2.1 46 = .ok (.aload_n 0, 1) := by decide +kernel
theorem d_C_init_47 : decode u_C_init.2.1 47 = .ok (.bipush 60, 2) := by decide +kernel
theorem d_C_init_49 : decode u_C_init.2.1 49 = .ok (.putfield 39, 3) := by decide +kernel
theorem d_C_init_52 : decode u_C_init.2.1 52 = .ok (.aload_n 0, 1) := by decide +kernel
theorem d_C_init_53 : decode u_C_init.2.1 53 = .ok (.bipush 10, 2) := by decide +kernel
theorem d_C_init_55 : decode u_C_init.2.1 55 = .ok (.putfield 43, 3) := by decide +kernel
theorem d_C_init_58 : decode u_C_init.2.1 58 = .ok (.aload_n 0, 1) := by decide +kernel
theorem d_C_init_59 : decode u_C_init.2.1 59 = .ok (.bipush 20, 2) := by decide +kernel
theorem d_C_init_61 : decode u_C_init.2.1 61 = .ok (.putfield 46, 3) := by decide +kernel
theorem d_C_init_64 : decode u_C_init.2.1 64 = .ok (.aload_n 0, 1) := by decide +kernel
theorem d_C_init_65 : decode u_C_init.2.1 65 = .ok (.new 21, 3) := by decide +kernel
theorem d_C_init_68 : decode u_C_init.2.1 68 = .ok (.dup, 1) := by decide +kernel
theorem d_C_init_69 : decode u_C_init.2.1 69 = .ok (.invokespecial 49, 3) := by decide +kernel
theorem d_C_init_72 : decode u_C_init.2.1 72 = .ok (.putfield 50, 3) := by decide +kernel
theorem d_C_init_75 : decode u_C_init.2.1 75 = .ok (.aload_n 0, 1) := by decide +kernel
theorem d_C_init_76 : decode u_C_init.2.1 76 = .ok (.bipush 8, 2) := by decide +kernel
theorem d_C_init_78 : decode u_C_init.2.1 78 = .ok (.newarray .int, 2) := by decide +kernel
theorem d_C_init_80 : decode u_C_init.2.1 80 = .ok (.putfield 54, 3) := by decide +kernel
theorem d_C_init_83 : decode u_C_init.2.1 83 = .ok (.aload_n 0, 1) := by decide +kernel
theorem d_C_init_84 : decode u_C_init.2.1 84 = .ok (.bipush 8, 2) := by decide +kernel
theorem d_C_init_86 : decode u_C_init.2.1 86 = .ok (.newarray .int, 2) := by decide +kernel
theorem d_C_init_88 : decode u_C_init.2.1 88 = .ok (.putfield 58, 3) := by decide +kernel
theorem d_C_init_91 : decode u_C_init.2.1 91 = .ok (.aload_n 0, 1) := by decide +kernel
theorem d_C_init_92 : decode u_C_init.2.1 92 = .ok (.new 61, 3) := by decide +kernel
theorem d_C_init_95 : decode u_C_init.2.1 95 = .ok (.dup, 1) := by decide +kernel
theorem d_C_init_96 : decode u_C_init.2.1 96 = .ok (.invokespecial 63, 3) := by decide +kernel
theorem d_C_init_99 : decode u_C_init.2.1 99 = .ok (.putfield 64, 3) := by decide +kernel
theorem d_C_init_102 : decode u_C_init.2.1 102 = .ok (.aload_n 0, 1) := by decide +kernel
theorem d_C_init_103 : decode u_C_init.2.1 103 = .ok (.new 61, 3) := by decide +kernel
theorem d_C_init_106 : decode u_C_init.2.1 106 = .ok (.dup, 1) := by decide +kernel
theorem d_C_init_107 : decode u_C_init.2.1 107 = .ok (.invokespecial 63, 3) := by decide +kernel
theorem d_C_init_110 : decode u_C_init.2.1 110 = .ok (.putfield 68, 3) := by decide +kernel
theorem d_C_init_113 : decode u_C_init.2.1 113 = .ok (.iconst 0, 1) := by decide +kernel
theorem d_C_init_114 : decode u_C_init.2.1 114 = .ok (.istore_n 1, 1) := by decide +kernel
theorem d_C_init_115 : decode u_C_init.2.1 115 = .ok (.iload_n 1, 1) := by decide +kernel
theorem d_C_init_116 : decode u_C_init.2.1 116 = .ok (.bipush 8, 2) := by decide +kernel
theorem d_C_init_118 : decode u_C_init.2.1 118 = .ok (.if_icmp .ge 22, 3) := by decide +kernel
theorem d_C_init_121 : decode u_C_init.2.1 121 = .ok (.aload_n 0, 1) := by decide +kernel
theorem d_C_init_122 : decode u_C_init.2.1 122 = .ok (.getfield 11, 3) := by decide +kernel
theorem d_C_init_125 : decode u_C_init.2.1 125 = .ok (.iload_n 1, 1) := by decide +kernel
theorem d_C_init_126 : decode u_C_init.2.1 126 = .ok (.new 9, 3) := by decide +kernel
theorem d_C_init_129 : decode u_C_init.2.1 129 = .ok (.dup, 1) := by decide +kernel
theorem d_C_init_130 : decode u_C_init.2.1 130 = .ok (.invokespecial 71, 3) := by decide +kernel
theorem d_C_init_133 : decode u_C_init.2.1 133 = .ok (.aastore, 1) := by decide +kernel
theorem d_C_init_134 : decode u_C_init.2.1 134 = .ok (.iinc 1 1, 3) := by decide +kernel
theorem d_C_init_137 : decode u_C_init.2.1 137 = .ok (.goto (-22), 3) := by decide +kernel
theorem d_C_init_140 : decode u_C_init.2.1 140 = .ok (.iconst 0, 1) := by decide +kernel
theorem d_C_init_141 : decode u_C_init.2.1 141 = .ok (.istore_n 1, 1) := by decide +kernel
theorem d_C_init_142 : decode u_C_init.2.1 142 = .ok (.iload_n 1, 1) := by decide +kernel
theorem d_C_init_143 : decode u_C_init.2.1 143 = .ok (.iconst 4, 1) := by decide +kernel
theorem d_C_init_144 : decode u_C_init.2.1 144 = .ok (.if_icmp .ge 22, 3) := by decide +kernel
theorem d_C_init_147 : decode u_C_init.2.1 147 = .ok (.aload_n 0, 1) := by decide +kernel
theorem d_C_init_148 : decode u_C_init.2.1 148 = .ok (.getfield 17, 3) := by decide +kernel
theorem d_C_init_151 : decode u_C_init.2.1 151 = .ok (.iload_n 1, 1) := by decide +kernel
theorem d_C_init_152 : decode u_C_init.2.1 152 = .ok (.new 15, 3) := by decide +kernel
theorem d_C_init_155 : decode u_C_init.2.1 155 = .ok (.dup, 1) := by decide +kernel
theorem d_C_init_156 : decode u_C_init.2.1 156 = .ok (.invokespecial 72, 3) := by decide +kernel
theorem d_C_init_159 : decode u_C_init.2.1 159 = .ok (.aastore, 1) := by decide +kernel
theorem d_C_init_160 : decode u_C_init.2.1 160 = .ok (.iinc 1 1, 3) := by decide +kernel
theorem d_C_init_163 : decode u_C_init.2.1 163 = .ok (.goto (-21), 3) := by decide +kernel
theorem d_C_init_166 : decode u_C_init.2.1 166 = .ok (.iconst 0, 1) := by decide +kernel
theorem d_C_init_167 : decode u_C_init.2.1 167 = .ok (.istore_n 1, 1) := by decide +kernel
theorem d_C_init_168 : decode u_C_init.2.1 168 = .ok (.iload_n 1, 1) := by decide +kernel
theorem d_C_init_169 : decode u_C_init.2.1 169 = .ok (.bipush 30, 2) := by decide +kernel
theorem d_C_init_171 : decode u_C_init.2.1 171 = .ok (.if_icmp .ge 22, 3) := by decide +kernel
theorem d_C_init_174 : decode u_C_init.2.1 174 = .ok (.aload_n 0, 1) := by decide +kernel
theorem d_C_init_175 : decode u_C_init.2.1 175 = .ok (.getfield 23, 3) := by decide +kernel
theorem d_C_init_178 : decode u_C_init.2.1 178 = .ok (.iload_n 1, 1) := by decide +kernel
theorem d_C_init_179 : decode u_C_init.2.1 179 = .ok (.new 21, 3) := by decide +kernel
theorem d_C_init_182 : decode u_C_init.2.1 182 = .ok (.dup, 1) := by decide +kernel
theorem d_C_init_183 : decode u_C_init.2.1 183 = .ok (.invokespecial 49, 3) := by decide +kernel
theorem d_C_init_186 : decode u_C_init.2.1 186 = .ok (.aastore, 1) := by decide +kernel
theorem d_C_init_187 : decode u_C_init.2.1 187 = .ok (.iinc 1 1, 3) := by decide +kernel
theorem d_C_init_190 : decode u_C_init.2.1 190 = .ok (.goto (-22), 3) := by decide +kernel
theorem d_C_init_193 : decode u_C_init.2.1 193 = .ok (.iconst 0, 1) := by decide +kernel
theorem d_C_init_194 : decode u_C_init.2.1 194 = .ok (.istore_n 1, 1) := by decide +kernel
theorem d_C_init_195 : decode u_C_init.2.1 195 = .ok (.iload_n 1, 1) := by decide +kernel
theorem d_C_init_196 : decode u_C_init.2.1 196 = .ok (.iconst 4, 1) := by decide +kernel
theorem d_C_init_197 : decode u_C_init.2.1 197 = .ok (.if_icmp .ge 22, 3) := by decide +kernel
theorem d_C_init_200 : decode u_C_init.2.1 200 = .ok (.aload_n 0, 1) := by decide +kernel
theorem d_C_init_201 : decode u_C_init.2.1 201 = .ok (.getfield 29, 3) := by decide +kernel
theorem d_C_init_204 : decode u_C_init.2.1 204 = .ok (.iload_n 1, 1) := by decide +kernel
theorem d_C_init_205 : decode u_C_init.2.1 205 = .ok (.new 27, 3) := by decide +kernel
theorem d_C_init_208 : decode u_C_init.2.1 208 = .ok (.dup, 1) := by decide +kernel
theorem d_C_init_209 : decode u_C_init.2.1 209 = .ok (.invokespecial 73, 3) := by decide +kernel
theorem d_C_init_212 : decode u_C_init.2.1 212 = .ok (.aastore, 1) := by decide +kernel
theorem d_C_init_213 : decode u_C_init.2.1 213 = .ok (.iinc 1 1, 3) := by decide +kernel
theorem d_C_init_216 : decode u_C_init.2.1 216 = .ok (.goto (-21), 3) := by decide +kernel
theorem d_C_init_219 : decode u_C_init.2.1 219 = .ok (.iconst 0, 1) := by decide +kernel
theorem d_C_init_220 : decode u_C_init.2.1 220 = .ok (.istore_n 1, 1) := by decide +kernel
theorem d_C_init_221 : decode u_C_init.2.1 221 = .ok (.iload_n 1, 1) := by decide +kernel
theorem d_C_init_222 : decode u_C_init.2.1 222 = .ok (.iconst 4, 1) := by decide +kernel
theorem d_C_init_223 : decode u_C_init.2.1 223 = .ok (.if_icmp .ge 22, 3) := by decide +kernel
theorem d_C_init_226 : decode u_C_init.2.1 226 = .ok (.aload_n 0, 1) := by decide +kernel
theorem d_C_init_227 : decode u_C_init.2.1 227 = .ok (.getfield 35, 3) := by decide +kernel
theorem d_C_init_230 : decode u_C_init.2.1 230 = .ok (.iload_n 1, 1) := by decide +kernel
theorem d_C_init_231 : decode u_C_init.2.1 231 = .ok (.new 33, 3) := by decide +kernel
theorem d_C_init_234 : decode u_C_init.2.1 234 = .ok (.dup, 1) := by decide +kernel
theorem d_C_init_235 : decode u_C_init.2.1 235 = .ok (.invokespecial 74, 3) := by decide +kernel
theorem d_C_init_238 : decode u_C_init.2.1 238 = .ok (.aastore, 1) := by decide +kernel
theorem d_C_init_239 : decode u_C_init.2.1 239 = .ok (.iinc 1 1, 3) := by decide +kernel
theorem d_C_init_242 : decode u_C_init.2.1 242 = .ok (.goto (-21), 3) := by decide +kernel
theorem d_C_init_245 : decode u_C_init.2.1 245 = .ok (.return_, 1) := by decide +kernel
theorem d_C_head_0 : decode u_C_head.2.1 0 = .ok (.aload_n 0, 1) := by decide +kernel
theorem d_C_head_1 : decode u_C_head.2.1 1 = .ok (.getfield 75, 3) := by decide +kernel
theorem d_C_head_4 : decode u_C_head.2.1 4 = .ok (.bipush 8, 2) := by decide +kernel
theorem d_C_head_6 : decode u_C_head.2.1 6 = .ok (.if_icmp .lt 6, 3) := by decide +kernel
theorem d_C_head_9 : decode u_C_head.2.1 9 = .ok (.bipush (-4), 2) := by decide +kernel
theorem d_C_head_11 : decode u_C_head.2.1 11 = .ok (.ireturn, 1) := by decide +kernel
theorem d_C_head_12 : decode u_C_head.2.1 12 = .ok (.aload_n 0, 1) := by decide +kernel
theorem d_C_head_13 : decode u_C_head.2.1 13 = .ok (.dup, 1) := by decide +kernel
theorem d_C_head_14 : decode u_C_head.2.1 14 = .ok (.getfield 75, 3) := by decide +kernel
theorem d_C_head_17 : decode u_C_head.2.1 17 = .ok (.iconst 1, 1) := by decide +kernel
theorem d_C_head_18 : decode u_C_head.2.1 18 = .ok (.iadd, 1) := by decide +kernel
theorem d_C_head_19 : decode u_C_head.2.1 19 = .ok (.putfield 75, 3) := by decide +kernel
theorem d_C_head_22 : decode u_C_head.2.1 22 = .ok (.aload_n 0, 1) := by decide +kernel
theorem d_C_head_23 : decode u_C_head.2.1 23 = .ok (.getfield 75, 3) := by decide +kernel
theorem d_C_head_26 : decode u_C_head.2.1 26 = .ok (.iconst 1, 1) := by decide +kernel
theorem d_C_head_27 : decode u_C_head.2.1 27 = .ok (.isub, 1) := by decide +kernel
theorem d_C_head_28 : decode u_C_head.2.1 28 = .ok (.ireturn, 1) := by decide +kernel
theorem d_C_place_0 : decode u_C_place.2.1 0 = .ok (.aload_n 0, 1) := by decide +kernel
theorem d_C_place_1 : decode u_C_place.2.1 1 = .ok (.iload_n 1, 1) := by decide +kernel
theorem d_C_place_2 : decode u_C_place.2.1 2 = .ok (.invokevirtual 78, 3) := by decide +kernel
theorem d_C_place_5 : decode u_C_place.2.1 5 = .ok (.ifCond .eq 17, 3) := by decide +kernel
theorem d_C_place_8 : decode u_C_place.2.1 8 = .ok (.iload_n 2, 1) := by decide +kernel
theorem d_C_place_9 : decode u_C_place.2.1 9 = .ok (.invokestatic 82, 3) := by decide +kernel
theorem d_C_place_12 : decode u_C_place.2.1 12 = .ok (.ifCond .eq 10, 3) := by decide +kernel
theorem d_C_place_15 : decode u_C_place.2.1 15 = .ok (.iload_n 3, 1) := by decide +kernel
theorem d_C_place_16 : decode u_C_place.2.1 16 = .ok (.invokestatic 85, 3) := by decide +kernel
theorem d_C_place_19 : decode u_C_place.2.1 19 = .ok (.ifCond .ne 6, 3) := by decide +kernel
theorem d_C_place_22 : decode u_C_place.2.1 22 = .ok (.bipush (-2), 2) := by decide +kernel
theorem d_C_place_24 : decode u_C_place.2.1 24 = .ok (.ireturn, 1) := by decide +kernel
theorem d_C_place_25 : decode u_C_place.2.1 25 = .ok (.aload_n 0, 1) := by decide +kernel
theorem d_C_place_26 : decode u_C_place.2.1 26 = .ok (.getfield 11, 3) := by decide +kernel
theorem d_C_place_29 : decode u_C_place.2.1 29 = .ok (.iload_n 1, 1) := by decide +kernel
theorem d_C_place_30 : decode u_C_place.2.1 30 = .ok (.aaload, 1) := by decide +kernel
theorem d_C_place_31 : decode u_C_place.2.1 31 = .ok (.getfield 88, 3) := by decide +kernel
theorem d_C_place_34 : decode u_C_place.2.1 34 = .ok (.astore 4, 2) := by decide +kernel
theorem d_C_place_36 : decode u_C_place.2.1 36 = .ok (.aload 4, 2) := by decide +kernel
theorem d_C_place_38 : decode u_C_place.2.1 38 = .ok (.iload_n 2, 1) := by decide +kernel
theorem d_C_place_39 : decode u_C_place.2.1 39 = .ok (.iaload, 1) := by decide +kernel
theorem d_C_place_40 : decode u_C_place.2.1 40 = .ok (.istore 5, 2) := by decide +kernel
theorem d_C_place_42 : decode u_C_place.2.1 42 = .ok (.aload 4, 2) := by decide +kernel
theorem d_C_place_44 : decode u_C_place.2.1 44 = .ok (.iload_n 2, 1) := by decide +kernel
theorem d_C_place_45 : decode u_C_place.2.1 45 = .ok (.iload_n 3, 1) := by decide +kernel
theorem d_C_place_46 : decode u_C_place.2.1 46 = .ok (.iastore, 1) := by decide +kernel
theorem d_C_place_47 : decode u_C_place.2.1 47 = .ok (.iload 5, 2) := by decide +kernel
theorem d_C_place_49 : decode u_C_place.2.1 49 = .ok (.ireturn, 1) := by decide +kernel
theorem d_C_read_0 : decode u_C_read.2.1 0 = .ok (.iload_n 1, 1) := by decide +kernel
theorem d_C_read_1 : decode u_C_read.2.1 1 = .ok (.invokestatic 91, 3) := by decide +kernel
theorem d_C_read_4 : decode u_C_read.2.1 4 = .ok (.ifCond .eq 11, 3) := by decide +kernel
theorem d_C_read_7 : decode u_C_read.2.1 7 = .ok (.aload_n 0, 1) := by decide +kernel
theorem d_C_read_8 : decode u_C_read.2.1 8 = .ok (.iload_n 2, 1) := by decide +kernel
theorem d_C_read_9 : decode u_C_read.2.1 9 = .ok (.invokevirtual 78, 3) := by decide +kernel
theorem d_C_read_12 : decode u_C_read.2.1 12 = .ok (.ifCond .ne 6, 3) := by decide +kernel
theorem d_C_read_15 : decode u_C_read.2.1 15 = .ok (.bipush (-2), 2) := by decide +kernel
theorem d_C_read_17 : decode u_C_read.2.1 17 = .ok (.ireturn, 1) := by decide +kernel
theorem d_C_read_18 : decode u_C_read.2.1 18 = .ok (.aload_n 0, 1) := by decide +kernel
theorem d_C_read_19 : decode u_C_read.2.1 19 = .ok (.getfield 35, 3) := by decide +kernel
theorem d_C_read_22 : decode u_C_read.2.1 22 = .ok (.iload_n 1, 1) := by decide +kernel
theorem d_C_read_23 : decode u_C_read.2.1 23 = .ok (.aaload, 1) := by decide +kernel
theorem d_C_read_24 : decode u_C_read.2.1 24 = .ok (.astore_n 3, 1) := by decide +kernel
theorem d_C_read_25 : decode u_C_read.2.1 25 = .ok (.aload_n 3, 1) := by decide +kernel
theorem d_C_read_26 : decode u_C_read.2.1 26 = .ok (.invokevirtual 94, 3) := by decide +kernel
theorem d_C_read_29 : decode u_C_read.2.1 29 = .ok (.ifCond .eq 9, 3) := by decide +kernel
theorem d_C_read_32 : decode u_C_read.2.1 32 = .ok (.aload_n 0, 1) := by decide +kernel
theorem d_C_read_33 : decode u_C_read.2.1 33 = .ok (.iconst 1, 1) := by decide +kernel
theorem d_C_read_34 : decode u_C_read.2.1 34 = .ok (.invokevirtual 98, 3) := by decide +kernel
theorem d_C_read_37 : decode u_C_read.2.1 37 = .ok (.ireturn, 1) := by decide +kernel
theorem d_C_read_38 : decode u_C_read.2.1 38 = .ok (.aload_n 0, 1) := by decide +kernel
theorem d_C_read_39 : decode u_C_read.2.1 39 = .ok (.getfield 11, 3) := by decide +kernel
theorem d_C_read_42 : decode u_C_read.2.1 42 = .ok (.iload_n 2, 1) := by decide +kernel
theorem d_C_read_43 : decode u_C_read.2.1 43 = .ok (.aaload, 1) := by decide +kernel
theorem d_C_read_44 : decode u_C_read.2.1 44 = .ok (.getfield 88, 3) := by decide +kernel
theorem d_C_read_47 : decode u_C_read.2.1 47 = .ok (.astore 4, 2) := by decide +kernel
theorem d_C_read_49 : decode u_C_read.2.1 49 = .ok (.aload_n 3, 1) := by decide +kernel
theorem d_C_read_50 : decode u_C_read.2.1 50 = .ok (.getfield 102, 3) := by decide +kernel
theorem d_C_read_53 : decode u_C_read.2.1 53 = .ok (.bipush 8, 2) := by decide +kernel
theorem d_C_read_55 : decode u_C_read.2.1 55 = .ok (.invokestatic 105, 3) := by decide +kernel
theorem d_C_read_58 : decode u_C_read.2.1 58 = .ok (.istore 5, 2) := by decide +kernel
theorem d_C_read_60 : decode u_C_read.2.1 60 = .ok (.iconst 0, 1) := by decide +kernel
theorem d_C_read_61 : decode u_C_read.2.1 61 = .ok (.istore 6, 2) := by decide +kernel
theorem d_C_read_63 : decode u_C_read.2.1 63 = .ok (.iload 6, 2) := by decide +kernel
theorem d_C_read_65 : decode u_C_read.2.1 65 = .ok (.iload 5, 2) := by decide +kernel
theorem d_C_read_67 : decode u_C_read.2.1 67 = .ok (.if_icmp .ge 37, 3) := by decide +kernel
theorem d_C_read_70 : decode u_C_read.2.1 70 = .ok (.aload_n 3, 1) := by decide +kernel
theorem d_C_read_71 : decode u_C_read.2.1 71 = .ok (.getfield 111, 3) := by decide +kernel
theorem d_C_read_74 : decode u_C_read.2.1 74 = .ok (.iload 6, 2) := by decide +kernel
theorem d_C_read_76 : decode u_C_read.2.1 76 = .ok (.iaload, 1) := by decide +kernel
theorem d_C_read_77 : decode u_C_read.2.1 77 = .ok (.invokestatic 85, 3) := by decide +kernel
theorem d_C_read_80 : decode u_C_read.2.1 80 = .ok (.ifCond .ne 6, 3) := by decide +kernel
theorem d_C_read_83 : decode u_C_read.2.1 83 = .ok (.iload 6, 2) := by decide +kernel
theorem d_C_read_85 : decode u_C_read.2.1 85 = .ok (.ireturn, 1) := by decide +kernel
theorem d_C_read_86 : decode u_C_read.2.1 86 = .ok (.aload 4, 2) := by decide +kernel
theorem d_C_read_88 : decode u_C_read.2.1 88 = .ok (.iload 6, 2) := by decide +kernel
theorem d_C_read_90 : decode u_C_read.2.1 90 = .ok (.aload_n 3, 1) := by decide +kernel
theorem d_C_read_91 : decode u_C_read.2.1 91 = .ok (.getfield 111, 3) := by decide +kernel
theorem d_C_read_94 : decode u_C_read.2.1 94 = .ok (.iload 6, 2) := by decide +kernel
theorem d_C_read_96 : decode u_C_read.2.1 96 = .ok (.iaload, 1) := by decide +kernel
theorem d_C_read_97 : decode u_C_read.2.1 97 = .ok (.iastore, 1) := by decide +kernel
theorem d_C_read_98 : decode u_C_read.2.1 98 = .ok (.iinc 6 1, 3) := by decide +kernel
theorem d_C_read_101 : decode u_C_read.2.1 101 = .ok (.goto (-38), 3) := by decide +kernel
theorem d_C_read_104 : decode u_C_read.2.1 104 = .ok (.iload 5, 2) := by decide +kernel
theorem d_C_read_106 : decode u_C_read.2.1 106 = .ok (.ireturn, 1) := by decide +kernel
theorem d_C_mean_0 : decode u_C_mean.2.1 0 = .ok (.aload_n 0, 1) := by decide +kernel
theorem d_C_mean_1 : decode u_C_mean.2.1 1 = .ok (.iload_n 1, 1) := by decide +kernel
theorem d_C_mean_2 : decode u_C_mean.2.1 2 = .ok (.invokevirtual 114, 3) := by decide +kernel
theorem d_C_mean_5 : decode u_C_mean.2.1 5 = .ok (.ifCond .eq 10, 3) := by decide +kernel
theorem d_C_mean_8 : decode u_C_mean.2.1 8 = .ok (.iload_n 2, 1) := by decide +kernel
theorem d_C_mean_9 : decode u_C_mean.2.1 9 = .ok (.invokestatic 82, 3) := by decide +kernel
theorem d_C_mean_12 : decode u_C_mean.2.1 12 = .ok (.ifCond .ne 6, 3) := by decide +kernel
theorem d_C_mean_15 : decode u_C_mean.2.1 15 = .ok (.bipush (-2), 2) := by decide +kernel
theorem d_C_mean_17 : decode u_C_mean.2.1 17 = .ok (.ireturn, 1) := by decide +kernel
theorem d_C_mean_18 : decode u_C_mean.2.1 18 = .ok (.aload_n 0, 1) := by decide +kernel
theorem d_C_mean_19 : decode u_C_mean.2.1 19 = .ok (.iload_n 1, 1) := by decide +kernel
theorem d_C_mean_20 : decode u_C_mean.2.1 20 = .ok (.iload_n 2, 1) := by decide +kernel
theorem d_C_mean_21 : decode u_C_mean.2.1 21 = .ok (.invokevirtual 117, 3) := by decide +kernel
theorem d_C_mean_24 : decode u_C_mean.2.1 24 = .ok (.ireturn, 1) := by decide +kernel
theorem d_C_type_0 : decode u_C_type.2.1 0 = .ok (.iload_n 1, 1) := by decide +kernel
theorem d_C_type_1 : decode u_C_type.2.1 1 = .ok (.invokestatic 120, 3) := by decide +kernel
theorem d_C_type_4 : decode u_C_type.2.1 4 = .ok (.ifCond .eq 14, 3) := by decide +kernel
theorem d_C_type_7 : decode u_C_type.2.1 7 = .ok (.iload_n 2, 1) := by decide +kernel
theorem d_C_type_8 : decode u_C_type.2.1 8 = .ok (.ifCond .lt 10, 3) := by decide +kernel
theorem d_C_type_11 : decode u_C_type.2.1 11 = .ok (.iload_n 2, 1) := by decide +kernel
theorem d_C_type_12 : decode u_C_type.2.1 12 = .ok (.sipush 255, 3) := by decide +kernel
theorem d_C_type_15 : decode u_C_type.2.1 15 = .ok (.if_icmp .le 6, 3) := by decide +kernel
theorem d_C_type_18 : decode u_C_type.2.1 18 = .ok (.bipush (-2), 2) := by decide +kernel
theorem d_C_type_20 : decode u_C_type.2.1 20 = .ok (.ireturn, 1) := by decide +kernel
theorem d_C_type_21 : decode u_C_type.2.1 21 = .ok (.aload_n 0, 1) := by decide +kernel
theorem d_C_type_22 : decode u_C_type.2.1 22 = .ok (.getfield 17, 3) := by decide +kernel
theorem d_C_type_25 : decode u_C_type.2.1 25 = .ok (.iload_n 1, 1) := by decide +kernel
theorem d_C_type_26 : decode u_C_type.2.1 26 = .ok (.aaload, 1) := by decide +kernel
theorem d_C_type_27 : decode u_C_type.2.1 27 = .ok (.getfield 123, 3) := by decide +kernel
theorem d_C_type_30 : decode u_C_type.2.1 30 = .ok (.bipush 40, 2) := by decide +kernel
theorem d_C_type_32 : decode u_C_type.2.1 32 = .ok (.if_icmp .lt 6, 3) := by decide +kernel
theorem d_C_type_35 : decode u_C_type.2.1 35 = .ok (.bipush (-4), 2) := by decide +kernel
theorem d_C_type_37 : decode u_C_type.2.1 37 = .ok (.ireturn, 1) := by decide +kernel
theorem d_C_type_38 : decode u_C_type.2.1 38 = .ok (.aload_n 0, 1) := by decide +kernel
theorem d_C_type_39 : decode u_C_type.2.1 39 = .ok (.getfield 17, 3) := by decide +kernel
theorem d_C_type_42 : decode u_C_type.2.1 42 = .ok (.iload_n 1, 1) := by decide +kernel
theorem d_C_type_43 : decode u_C_type.2.1 43 = .ok (.aaload, 1) := by decide +kernel
theorem d_C_type_44 : decode u_C_type.2.1 44 = .ok (.iload_n 2, 1) := by decide +kernel
theorem d_C_type_45 : decode u_C_type.2.1 45 = .ok (.invokevirtual 126, 3) := by decide +kernel
theorem d_C_type_48 : decode u_C_type.2.1 48 = .ok (.aload_n 0, 1) := by decide +kernel
theorem d_C_type_49 : decode u_C_type.2.1 49 = .ok (.getfield 17, 3) := by decide +kernel
theorem d_C_type_52 : decode u_C_type.2.1 52 = .ok (.iload_n 1, 1) := by decide +kernel
theorem d_C_type_53 : decode u_C_type.2.1 53 = .ok (.aaload, 1) := by decide +kernel
theorem d_C_type_54 : decode u_C_type.2.1 54 = .ok (.getfield 123, 3) := by decide +kernel
theorem d_C_type_57 : decode u_C_type.2.1 57 = .ok (.ireturn, 1) := by decide +kernel
theorem d_C_wipe_0 : decode u_C_wipe.2.1 0 = .ok (.iload_n 1, 1) := by decide +kernel
theorem d_C_wipe_1 : decode u_C_wipe.2.1 1 = .ok (.invokestatic 120, 3) := by decide +kernel
theorem d_C_wipe_4 : decode u_C_wipe.2.1 4 = .ok (.ifCond .ne 6, 3) := by decide +kernel
theorem d_C_wipe_7 : decode u_C_wipe.2.1 7 = .ok (.bipush (-2), 2) := by decide +kernel
theorem d_C_wipe_9 : decode u_C_wipe.2.1 9 = .ok (.ireturn, 1) := by decide +kernel
theorem d_C_wipe_10 : decode u_C_wipe.2.1 10 = .ok (.aload_n 0, 1) := by decide +kernel
