theorem d_M_number_49 : decode u_M_number.2.1 49 = .ok (.aload_n 0, 1) := by decide +kernel
theorem d_M_number_50 : decode u_M_number.2.1 50 = .ok (.dup, 1) := by decide +kernel
theorem d_M_number_51 : decode u_M_number.2.1 51 = .ok (.getfield 125, 3) := by decide +kernel
theorem d_M_number_54 : decode u_M_number.2.1 54 = .ok (.iconst 1, 1) := by decide +kernel
theorem d_M_number_55 : decode u_M_number.2.1 55 = .ok (.iadd, 1) := by decide +kernel
theorem d_M_number_56 : decode u_M_number.2.1 56 = .ok (.putfield 125, 3) := by decide +kernel
theorem d_M_number_59 : decode u_M_number.2.1 59 = .ok (.goto (-52), 3) := by decide +kernel
theorem d_M_number_62 : decode u_M_number.2.1 62 = .ok (.aload_n 0, 1) := by decide +kernel
theorem d_M_number_63 : decode u_M_number.2.1 63 = .ok (.getfield 125, 3) := by decide +kernel
theorem d_M_number_66 : decode u_M_number.2.1 66 = .ok (.iload_n 2, 1) := by decide +kernel
theorem d_M_number_67 : decode u_M_number.2.1 67 = .ok (.if_icmp .le 11, 3) := by decide +kernel
theorem d_M_number_70 : decode u_M_number.2.1 70 = .ok (.iload_n 3, 1) := by decide +kernel
theorem d_M_number_71 : decode u_M_number.2.1 71 = .ok (.bipush 60, 2) := by decide +kernel
theorem d_M_number_73 : decode u_M_number.2.1 73 = .ok (.if_icmp .gt 5, 3) := by decide +kernel
theorem d_M_number_76 : decode u_M_number.2.1 76 = .ok (.iload_n 3, 1) := by decide +kernel
theorem d_M_number_77 : decode u_M_number.2.1 77 = .ok (.ireturn, 1) := by decide +kernel
theorem d_M_number_78 : decode u_M_number.2.1 78 = .ok (.aload_n 0, 1) := by decide +kernel
theorem d_M_number_79 : decode u_M_number.2.1 79 = .ok (.iload_n 2, 1) := by decide +kernel
theorem d_M_number_80 : decode u_M_number.2.1 80 = .ok (.putfield 125, 3) := by decide +kernel
theorem d_M_number_83 : decode u_M_number.2.1 83 = .ok (.iconst (-1), 1) := by decide +kernel
theorem d_M_number_84 : decode u_M_number.2.1 84 = .ok (.ireturn, 1) := by decide +kernel
theorem d_M_readsPiece_0 : decode u_M_readsPiece.2.1 0 = .ok (.aload_n 0, 1) := by decide +kernel
theorem d_M_readsPiece_1 : decode u_M_readsPiece.2.1 1 = .ok (.iload_n 1, 1) := by decide +kernel
theorem d_M_readsPiece_2 : decode u_M_readsPiece.2.1 2 = .ok (.invokevirtual 128, 3) := by decide +kernel
theorem d_M_readsPiece_5 : decode u_M_readsPiece.2.1 5 = .ok (.bipush 42, 2) := by decide +kernel
theorem d_M_readsPiece_7 : decode u_M_readsPiece.2.1 7 = .ok (.if_icmp .ne 8, 3) := by decide +kernel
theorem d_M_readsPiece_10 : decode u_M_readsPiece.2.1 10 = .ok (.bipush 8, 2) := by decide +kernel
theorem d_M_readsPiece_12 : decode u_M_readsPiece.2.1 12 = .ok (.goto 11, 3) := by decide +kernel
theorem d_M_readsPiece_15 : decode u_M_readsPiece.2.1 15 = .ok (.aload_n 0, 1) := by decide +kernel
theorem d_M_readsPiece_16 : decode u_M_readsPiece.2.1 16 = .ok (.iload_n 1, 1) := by decide +kernel
theorem d_M_readsPiece_17 : decode u_M_readsPiece.2.1 17 = .ok (.invokevirtual 128, 3) := by decide +kernel
theorem d_M_readsPiece_20 : decode u_M_readsPiece.2.1 20 = .ok (.bipush 48, 2) := by decide +kernel
theorem d_M_readsPiece_22 : decode u_M_readsPiece.2.1 22 = .ok (.isub, 1) := by decide +kernel
theorem d_M_readsPiece_23 : decode u_M_readsPiece.2.1 23 = .ok (.istore_n 2, 1) := by decide +kernel
theorem d_M_readsPiece_24 : decode u_M_readsPiece.2.1 24 = .ok (.iload_n 2, 1) := by decide +kernel
theorem d_M_readsPiece_25 : decode u_M_readsPiece.2.1 25 = .ok (.i2l, 1) := by decide +kernel
theorem d_M_readsPiece_26 : decode u_M_readsPiece.2.1 26 = .ok (.lconst 0, 1) := by decide +kernel
theorem d_M_readsPiece_27 : decode u_M_readsPiece.2.1 27 = .ok (.ldc2_w 135, 3) := by decide +kernel
theorem d_M_readsPiece_30 : decode u_M_readsPiece.2.1 30 = .ok (.invokestatic 69, 3) := by decide +kernel
theorem d_M_readsPiece_33 : decode u_M_readsPiece.2.1 33 = .ok (.ifCond .eq 19, 3) := by decide +kernel
theorem d_M_readsPiece_36 : decode u_M_readsPiece.2.1 36 = .ok (.iload_n 2, 1) := by decide +kernel
theorem d_M_readsPiece_37 : decode u_M_readsPiece.2.1 37 = .ok (.bipush 8, 2) := by decide +kernel
theorem d_M_readsPiece_39 : decode u_M_readsPiece.2.1 39 = .ok (.if_icmp .ne 15, 3) := by decide +kernel
theorem d_M_readsPiece_42 : decode u_M_readsPiece.2.1 42 = .ok (.aload_n 0, 1) := by decide +kernel
theorem d_M_readsPiece_43 : decode u_M_readsPiece.2.1 43 = .ok (.iload_n 1, 1) := by decide +kernel
theorem d_M_readsPiece_44 : decode u_M_readsPiece.2.1 44 = .ok (.invokevirtual 128, 3) := by decide +kernel
theorem d_M_readsPiece_47 : decode u_M_readsPiece.2.1 47 = .ok (.bipush 42, 2) := by decide +kernel
theorem d_M_readsPiece_49 : decode u_M_readsPiece.2.1 49 = .ok (.if_icmp .eq 5, 3) := by decide +kernel
theorem d_M_readsPiece_52 : decode u_M_readsPiece.2.1 52 = .ok (.iconst 0, 1) := by decide +kernel
theorem d_M_readsPiece_53 : decode u_M_readsPiece.2.1 53 = .ok (.ireturn, 1) := by decide +kernel
theorem d_M_readsPiece_54 : decode u_M_readsPiece.2.1 54 = .ok (.aload_n 0, 1) := by decide +kernel
theorem d_M_readsPiece_55 : decode u_M_readsPiece.2.1 55 = .ok (.dup, 1) := by decide +kernel
theorem d_M_readsPiece_56 : decode u_M_readsPiece.2.1 56 = .ok (.getfield 125, 3) := by decide +kernel
theorem d_M_readsPiece_59 : decode u_M_readsPiece.2.1 59 = .ok (.iconst 1, 1) := by decide +kernel
theorem d_M_readsPiece_60 : decode u_M_readsPiece.2.1 60 = .ok (.iadd, 1) := by decide +kernel
theorem d_M_readsPiece_61 : decode u_M_readsPiece.2.1 61 = .ok (.putfield 125, 3) := by decide +kernel
theorem d_M_readsPiece_64 : decode u_M_readsPiece.2.1 64 = .ok (.aload_n 0, 1) := by decide +kernel
theorem d_M_readsPiece_65 : decode u_M_readsPiece.2.1 65 = .ok (.iload_n 1, 1) := by decide +kernel
theorem d_M_readsPiece_66 : decode u_M_readsPiece.2.1 66 = .ok (.invokevirtual 128, 3) := by decide +kernel
theorem d_M_readsPiece_69 : decode u_M_readsPiece.2.1 69 = .ok (.istore_n 3, 1) := by decide +kernel
theorem d_M_readsPiece_70 : decode u_M_readsPiece.2.1 70 = .ok (.iload_n 3, 1) := by decide +kernel
theorem d_M_readsPiece_71 : decode u_M_readsPiece.2.1 71 = .ok (.bipush 43, 2) := by decide +kernel
theorem d_M_readsPiece_73 : decode u_M_readsPiece.2.1 73 = .ok (.if_icmp .eq 17, 3) := by decide +kernel
theorem d_M_readsPiece_76 : decode u_M_readsPiece.2.1 76 = .ok (.iload_n 3, 1) := by decide +kernel
theorem d_M_readsPiece_77 : decode u_M_readsPiece.2.1 77 = .ok (.bipush 45, 2) := by decide +kernel
theorem d_M_readsPiece_79 : decode u_M_readsPiece.2.1 79 = .ok (.if_icmp .eq 11, 3) := by decide +kernel
theorem d_M_readsPiece_82 : decode u_M_readsPiece.2.1 82 = .ok (.iload_n 3, 1) := by decide +kernel
theorem d_M_readsPiece_83 : decode u_M_readsPiece.2.1 83 = .ok (.bipush 120, 2) := by decide +kernel
theorem d_M_readsPiece_85 : decode u_M_readsPiece.2.1 85 = .ok (.if_icmp .eq 5, 3) := by decide +kernel
theorem d_M_readsPiece_88 : decode u_M_readsPiece.2.1 88 = .ok (.iconst 0, 1) := by decide +kernel
theorem d_M_readsPiece_89 : decode u_M_readsPiece.2.1 89 = .ok (.ireturn, 1) := by decide +kernel
theorem d_M_readsPiece_90 : decode u_M_readsPiece.2.1 90 = .ok (.aload_n 0, 1) := by decide +kernel
theorem d_M_readsPiece_91 : decode u_M_readsPiece.2.1 91 = .ok (.dup, 1) := by decide +kernel
theorem d_M_readsPiece_92 : decode u_M_readsPiece.2.1 92 = .ok (.getfield 125, 3) := by decide +kernel
theorem d_M_readsPiece_95 : decode u_M_readsPiece.2.1 95 = .ok (.iconst 1, 1) := by decide +kernel
theorem d_M_readsPiece_96 : decode u_M_readsPiece.2.1 96 = .ok (.iadd, 1) := by decide +kernel
theorem d_M_readsPiece_97 : decode u_M_readsPiece.2.1 97 = .ok (.putfield 125, 3) := by decide +kernel
theorem d_M_readsPiece_100 : decode u_M_readsPiece.2.1 100 = .ok (.iload_n 3, 1) := by decide +kernel
theorem d_M_readsPiece_101 : decode u_M_readsPiece.2.1 101 = .ok (.bipush 120, 2) := by decide +kernel
theorem d_M_readsPiece_103 : decode u_M_readsPiece.2.1 103 = .ok (.if_icmp .ne 9, 3) := by decide +kernel
theorem d_M_readsPiece_106 : decode u_M_readsPiece.2.1 106 = .ok (.sipush (-9999), 3) := by decide +kernel
theorem d_M_readsPiece_109 : decode u_M_readsPiece.2.1 109 = .ok (.goto 8, 3) := by decide +kernel
theorem d_M_readsPiece_112 : decode u_M_readsPiece.2.1 112 = .ok (.aload_n 0, 1) := by decide +kernel
theorem d_M_readsPiece_113 : decode u_M_readsPiece.2.1 113 = .ok (.iload_n 1, 1) := by decide +kernel
theorem d_M_readsPiece_114 : decode u_M_readsPiece.2.1 114 = .ok (.invokevirtual 137, 3) := by decide +kernel
theorem d_M_readsPiece_117 : decode u_M_readsPiece.2.1 117 = .ok (.istore 4, 2) := by decide +kernel
theorem d_M_readsPiece_119 : decode u_M_readsPiece.2.1 119 = .ok (.iload 4, 2) := by decide +kernel
theorem d_M_readsPiece_121 : decode u_M_readsPiece.2.1 121 = .ok (.iconst (-1), 1) := by decide +kernel
theorem d_M_readsPiece_122 : decode u_M_readsPiece.2.1 122 = .ok (.if_icmp .ne 5, 3) := by decide +kernel
theorem d_M_readsPiece_125 : decode u_M_readsPiece.2.1 125 = .ok (.iconst 0, 1) := by decide +kernel
theorem d_M_readsPiece_126 : decode u_M_readsPiece.2.1 126 = .ok (.ireturn, 1) := by decide +kernel
theorem d_M_readsPiece_127 : decode u_M_readsPiece.2.1 127 = .ok (.iload_n 3, 1) := by decide +kernel
theorem d_M_readsPiece_128 : decode u_M_readsPiece.2.1 128 = .ok (.bipush 45, 2) := by decide +kernel
theorem d_M_readsPiece_130 : decode u_M_readsPiece.2.1 130 = .ok (.if_icmp .ne 9, 3) := by decide +kernel
theorem d_M_readsPiece_133 : decode u_M_readsPiece.2.1 133 = .ok (.iload 4, 2) := by decide +kernel
theorem d_M_readsPiece_135 : decode u_M_readsPiece.2.1 135 = .ok (.ineg, 1) := by decide +kernel
theorem d_M_readsPiece_136 : decode u_M_readsPiece.2.1 136 = .ok (.goto 5, 3) := by decide +kernel
theorem d_M_readsPiece_139 : decode u_M_readsPiece.2.1 139 = .ok (.iload 4, 2) := by decide +kernel
theorem d_M_readsPiece_141 : decode u_M_readsPiece.2.1 141 = .ok (.istore 4, 2) := by decide +kernel
theorem d_M_readsPiece_143 : decode u_M_readsPiece.2.1 143 = .ok (.iconst 0, 1) := by decide +kernel
theorem d_M_readsPiece_144 : decode u_M_readsPiece.2.1 144 = .ok (.istore 5, 2) := by decide +kernel
theorem d_M_readsPiece_146 : decode u_M_readsPiece.2.1 146 = .ok (.iload 5, 2) := by decide +kernel
theorem d_M_readsPiece_148 : decode u_M_readsPiece.2.1 148 = .ok (.bipush 8, 2) := by decide +kernel
theorem d_M_readsPiece_150 : decode u_M_readsPiece.2.1 150 = .ok (.if_icmp .ge 40, 3) := by decide +kernel
theorem d_M_readsPiece_153 : decode u_M_readsPiece.2.1 153 = .ok (.aload_n 0, 1) := by decide +kernel
theorem d_M_readsPiece_154 : decode u_M_readsPiece.2.1 154 = .ok (.getfield 31, 3) := by decide +kernel
theorem d_M_readsPiece_157 : decode u_M_readsPiece.2.1 157 = .ok (.iload 5, 2) := by decide +kernel
theorem d_M_readsPiece_159 : decode u_M_readsPiece.2.1 159 = .ok (.iload_n 2, 1) := by decide +kernel
theorem d_M_readsPiece_160 : decode u_M_readsPiece.2.1 160 = .ok (.bipush 8, 2) := by decide +kernel
theorem d_M_readsPiece_162 : decode u_M_readsPiece.2.1 162 = .ok (.if_icmp .eq 9, 3) := by decide +kernel
theorem d_M_readsPiece_165 : decode u_M_readsPiece.2.1 165 = .ok (.iload_n 2, 1) := by decide +kernel
theorem d_M_readsPiece_166 : decode u_M_readsPiece.2.1 166 = .ok (.iload 5, 2) := by decide +kernel
theorem d_M_readsPiece_168 : decode u_M_readsPiece.2.1 168 = .ok (.if_icmp .ne 8, 3) := by decide +kernel
theorem d_M_readsPiece_171 : decode u_M_readsPiece.2.1 171 = .ok (.iload 4, 2) := by decide +kernel
theorem d_M_readsPiece_173 : decode u_M_readsPiece.2.1 173 = .ok (.goto 10, 3) := by decide +kernel
theorem d_M_readsPiece_176 : decode u_M_readsPiece.2.1 176 = .ok (.aload_n 0, 1) := by decide +kernel
theorem d_M_readsPiece_177 : decode u_M_readsPiece.2.1 177 = .ok (.getfield 31, 3) := by decide +kernel
theorem d_M_readsPiece_180 : decode u_M_readsPiece.2.1 180 = .ok (.iload 5, 2) := by decide +kernel
theorem d_M_readsPiece_182 : decode u_M_readsPiece.2.1 182 = .ok (.iaload, 1) := by decide +kernel
theorem d_M_readsPiece_183 : decode u_M_readsPiece.2.1 183 = .ok (.iastore, 1) := by decide +kernel
theorem d_M_readsPiece_184 : decode u_M_readsPiece.2.1 184 = .ok (.iinc 5 1, 3) := by decide +kernel
theorem d_M_readsPiece_187 : decode u_M_readsPiece.2.1 187 = .ok (.goto (-41), 3) := by decide +kernel
theorem d_M_readsPiece_190 : decode u_M_readsPiece.2.1 190 = .ok (.iconst 1, 1) := by decide +kernel
theorem d_M_readsPiece_191 : decode u_M_readsPiece.2.1 191 = .ok (.ireturn, 1) := by decide +kernel
theorem d_M_clears_0 : decode u_M_clears.2.1 0 = .ok (.iconst 0, 1) := by decide +kernel
theorem d_M_clears_1 : decode u_M_clears.2.1 1 = .ok (.istore_n 1, 1) := by decide +kernel
theorem d_M_clears_2 : decode u_M_clears.2.1 2 = .ok (.iload_n 1, 1) := by decide +kernel
theorem d_M_clears_3 : decode u_M_clears.2.1 3 = .ok (.bipush 8, 2) := by decide +kernel
theorem d_M_clears_5 : decode u_M_clears.2.1 5 = .ok (.if_icmp .ge 17, 3) := by decide +kernel
theorem d_M_clears_8 : decode u_M_clears.2.1 8 = .ok (.aload_n 0, 1) := by decide +kernel
theorem d_M_clears_9 : decode u_M_clears.2.1 9 = .ok (.getfield 31, 3) := by decide +kernel
theorem d_M_clears_12 : decode u_M_clears.2.1 12 = .ok (.iload_n 1, 1) := by decide +kernel
theorem d_M_clears_13 : decode u_M_clears.2.1 13 = .ok (.bipush 10, 2) := by decide +kernel
theorem d_M_clears_15 : decode u_M_clears.2.1 15 = .ok (.iastore, 1) := by decide +kernel
theorem d_M_clears_16 : decode u_M_clears.2.1 16 = .ok (.iinc 1 1, 3) := by decide +kernel
theorem d_M_clears_19 : decode u_M_clears.2.1 19 = .ok (.goto (-17), 3) := by decide +kernel
theorem d_M_clears_22 : decode u_M_clears.2.1 22 = .ok (.return_, 1) := by decide +kernel
theorem d_M_reads_0 : decode u_M_reads.2.1 0 = .ok (.aload_n 0, 1) := by decide +kernel
theorem d_M_reads_1 : decode u_M_reads.2.1 1 = .ok (.iconst 0, 1) := by decide +kernel
theorem d_M_reads_2 : decode u_M_reads.2.1 2 = .ok (.putfield 125, 3) := by decide +kernel
theorem d_M_reads_5 : decode u_M_reads.2.1 5 = .ok (.aload_n 0, 1) := by decide +kernel
theorem d_M_reads_6 : decode u_M_reads.2.1 6 = .ok (.invokevirtual 140, 3) := by decide +kernel
theorem d_M_reads_9 : decode u_M_reads.2.1 9 = .ok (.aload_n 0, 1) := by decide +kernel
theorem d_M_reads_10 : decode u_M_reads.2.1 10 = .ok (.getfield 28, 3) := by decide +kernel
theorem d_M_reads_13 : decode u_M_reads.2.1 13 = .ok (.iload_n 1, 1) := by decide +kernel
theorem d_M_reads_14 : decode u_M_reads.2.1 14 = .ok (.iaload, 1) := by decide +kernel
theorem d_M_reads_15 : decode u_M_reads.2.1 15 = .ok (.ifCond .le 7, 3) := by decide +kernel
theorem d_M_reads_18 : decode u_M_reads.2.1 18 = .ok (.iconst 1, 1) := by decide +kernel
theorem d_M_reads_19 : decode u_M_reads.2.1 19 = .ok (.goto 4, 3) := by decide +kernel
theorem d_M_reads_22 : decode u_M_reads.2.1 22 = .ok (.iconst 0, 1) := by decide +kernel
theorem d_M_reads_23 : decode u_M_reads.2.1 23 = .ok (.istore_n 2, 1) := by decide +kernel
theorem d_M_reads_24 : decode u_M_reads.2.1 24 = .ok (.iload_n 2, 1) := by decide +kernel
theorem d_M_reads_25 : decode u_M_reads.2.1 25 = .ok (.ifCond .eq 83, 3) := by decide +kernel
theorem d_M_reads_28 : decode u_M_reads.2.1 28 = .ok (.aload_n 0, 1) := by decide +kernel
theorem d_M_reads_29 : decode u_M_reads.2.1 29 = .ok (.iload_n 1, 1) := by decide +kernel
theorem d_M_reads_30 : decode u_M_reads.2.1 30 = .ok (.invokevirtual 143, 3) := by decide +kernel
theorem d_M_reads_33 : decode u_M_reads.2.1 33 = .ok (.ifCond .ne 12, 3) := by decide +kernel
theorem d_M_reads_36 : decode u_M_reads.2.1 36 = .ok (.aload_n 0, 1) := by decide +kernel
theorem d_M_reads_37 : decode u_M_reads.2.1 37 = .ok (.invokevirtual 140, 3) := by decide +kernel
theorem d_M_reads_40 : decode u_M_reads.2.1 40 = .ok (.aload_n 0, 1) := by decide +kernel
theorem d_M_reads_41 : decode u_M_reads.2.1 41 = .ok (.getfield 125, 3) := by decide +kernel
theorem d_M_reads_44 : decode u_M_reads.2.1 44 = .ok (.ireturn, 1) := by decide +kernel
theorem d_M_reads_45 : decode u_M_reads.2.1 45 = .ok (.aload_n 0, 1) := by decide +kernel
theorem d_M_reads_46 : decode u_M_reads.2.1 46 = .ok (.getfield 125, 3) := by decide +kernel
theorem d_M_reads_49 : decode u_M_reads.2.1 49 = .ok (.aload_n 0, 1) := by decide +kernel
theorem d_M_reads_50 : decode u_M_reads.2.1 50 = .ok (.getfield 28, 3) := by decide +kernel
theorem d_M_reads_53 : decode u_M_reads.2.1 53 = .ok (.iload_n 1, 1) := by decide +kernel
theorem d_M_reads_54 : decode u_M_reads.2.1 54 = .ok (.iaload, 1) := by decide +kernel
theorem d_M_reads_55 : decode u_M_reads.2.1 55 = .ok (.if_icmp .ge 7, 3) := by decide +kernel
theorem d_M_reads_58 : decode u_M_reads.2.1 58 = .ok (.iconst 1, 1) := by decide +kernel
theorem d_M_reads_59 : decode u_M_reads.2.1 59 = .ok (.goto 4, 3) := by decide +kernel
theorem d_M_reads_62 : decode u_M_reads.2.1 62 = .ok (.iconst 0, 1) := by decide +kernel
theorem d_M_reads_63 : decode u_M_reads.2.1 63 = .ok (.istore_n 2, 1) := by decide +kernel
theorem d_M_reads_64 : decode u_M_reads.2.1 64 = .ok (.iload_n 2, 1) := by decide +kernel
theorem d_M_reads_65 : decode u_M_reads.2.1 65 = .ok (.ifCond .eq 22, 3) := by decide +kernel
theorem d_M_reads_68 : decode u_M_reads.2.1 68 = .ok (.aload_n 0, 1) := by decide +kernel
theorem d_M_reads_69 : decode u_M_reads.2.1 69 = .ok (.iload_n 1, 1) := by decide +kernel
theorem d_M_reads_70 : decode u_M_reads.2.1 70 = .ok (.invokevirtual 128, 3) := by decide +kernel
theorem d_M_reads_73 : decode u_M_reads.2.1 73 = .ok (.bipush 59, 2) := by decide +kernel
theorem d_M_reads_75 : decode u_M_reads.2.1 75 = .ok (.if_icmp .eq 12, 3) := by decide +kernel
theorem d_M_reads_78 : decode u_M_reads.2.1 78 = .ok (.aload_n 0, 1) := by decide +kernel
theorem d_M_reads_79 : decode u_M_reads.2.1 79 = .ok (.invokevirtual 140, 3) := by decide +kernel
theorem d_M_reads_82 : decode u_M_reads.2.1 82 = .ok (.aload_n 0, 1) := by decide +kernel
theorem d_M_reads_83 : decode u_M_reads.2.1 83 = .ok (.getfield 125, 3) := by decide +kernel
theorem d_M_reads_86 : decode u_M_reads.2.1 86 = .ok (.ireturn, 1) := by decide +kernel
theorem d_M_reads_87 : decode u_M_reads.2.1 87 = .ok (.aload_n 0, 1) := by decide +kernel
theorem d_M_reads_88 : decode u_M_reads.2.1 88 = .ok (.dup, 1) := by decide +kernel
theorem d_M_reads_89 : decode u_M_reads.2.1 89 = .ok (.getfield 125, 3) := by decide +kernel
theorem d_M_reads_92 : decode u_M_reads.2.1 92 = .ok (.iload_n 2, 1) := by decide +kernel
theorem d_M_reads_93 : decode u_M_reads.2.1 93 = .ok (.ifCond .eq 7, 3) := by decide +kernel
theorem d_M_reads_96 : decode u_M_reads.2.1 96 = .ok (.iconst 1, 1) := by decide +kernel
theorem d_M_reads_97 : decode u_M_reads.2.1 97 = .ok (.goto 4, 3) := by decide +kernel
theorem d_M_reads_100 : decode u_M_reads.2.1 100 = .ok (.iconst 0, 1) := by decide +kernel
theorem d_M_reads_101 : decode u_M_reads.2.1 101 = .ok (.iadd, 1) := by decide +kernel
theorem d_M_reads_102 : decode u_M_reads.2.1 102 = .ok (.putfield 125, 3) := by decide +kernel
theorem d_M_reads_105 : decode u_M_reads.2.1 105 = .ok (.goto (-81), 3) := by decide +kernel
theorem d_M_reads_108 : decode u_M_reads.2.1 108 = .ok (.iconst (-1), 1) := by decide +kernel
theorem d_M_reads_109 : decode u_M_reads.2.1 109 = .ok (.ireturn, 1) := by decide +kernel
theorem d_M_fault_0 : decode u_M_fault.2.1 0 = .ok (.iload_n 1, 1) := by decide +kernel
theorem d_M_fault_1 : decode u_M_fault.2.1 1 = .ok (.invokestatic 120, 3) := by decide +kernel
theorem d_M_fault_4 : decode u_M_fault.2.1 4 = .ok (.ifCond .eq 11, 3) := by decide +kernel
theorem d_M_fault_7 : decode u_M_fault.2.1 7 = .ok (.aload_n 0, 1) := by decide +kernel
theorem d_M_fault_8 : decode u_M_fault.2.1 8 = .ok (.iload_n 1, 1) := by decide +kernel
theorem d_M_fault_9 : decode u_M_fault.2.1 9 = .ok (.invokevirtual 146, 3) := by decide +kernel
theorem d_M_fault_12 : decode u_M_fault.2.1 12 = .ok (.goto 5, 3) := by decide +kernel
theorem d_M_fault_15 : decode u_M_fault.2.1 15 = .ok (.bipush (-2), 2) := by decide +kernel
theorem d_M_fault_17 : decode u_M_fault.2.1 17 = .ok (.ireturn, 1) := by decide +kernel
theorem d_M_tenths_0 : decode u_M_tenths.2.1 0 = .ok (.iload_n 1, 1) := by decide +kernel
theorem d_M_tenths_1 : decode u_M_tenths.2.1 1 = .ok (.invokestatic 120, 3) := by decide +kernel
theorem d_M_tenths_4 : decode u_M_tenths.2.1 4 = .ok (.ifCond .eq 10, 3) := by decide +kernel
theorem d_M_tenths_7 : decode u_M_tenths.2.1 7 = .ok (.iload_n 2, 1) := by decide +kernel
theorem d_M_tenths_8 : decode u_M_tenths.2.1 8 = .ok (.invokestatic 106, 3) := by decide +kernel
theorem d_M_tenths_11 : decode u_M_tenths.2.1 11 = .ok (.ifCond .ne 9, 3) := by decide +kernel
theorem d_M_tenths_14 : decode u_M_tenths.2.1 14 = .ok (.bipush (-2), 2) := by decide +kernel
theorem d_M_tenths_16 : decode u_M_tenths.2.1 16 = .ok (.invokestatic 149, 3) := by decide +kernel
theorem d_M_tenths_19 : decode u_M_tenths.2.1 19 = .ok (.ireturn, 1) := by decide +kernel
theorem d_M_tenths_20 : decode u_M_tenths.2.1 20 = .ok (.aload_n 0, 1) := by decide +kernel
theorem d_M_tenths_21 : decode u_M_tenths.2.1 21 = .ok (.iload_n 1, 1) := by decide +kernel
theorem d_M_tenths_22 : decode u_M_tenths.2.1 22 = .ok (.invokevirtual 146, 3) := by decide +kernel
theorem d_M_tenths_25 : decode u_M_tenths.2.1 25 = .ok (.pop, 1) := by decide +kernel
theorem d_M_tenths_26 : decode u_M_tenths.2.1 26 = .ok (.aload_n 0, 1) := by decide +kernel
theorem d_M_tenths_27 : decode u_M_tenths.2.1 27 = .ok (.getfield 31, 3) := by decide +kernel
theorem d_M_tenths_30 : decode u_M_tenths.2.1 30 = .ok (.iload_n 2, 1) := by decide +kernel
theorem d_M_tenths_31 : decode u_M_tenths.2.1 31 = .ok (.iaload, 1) := by decide +kernel
theorem d_M_tenths_32 : decode u_M_tenths.2.1 32 = .ok (.ireturn, 1) := by decide +kernel
theorem d_M_drawnBy_0 : decode u_M_drawnBy.2.1 0 = .ok (.iload_n 0, 1) := by decide +kernel
theorem d_M_drawnBy_1 : decode u_M_drawnBy.2.1 1 = .ok (.sipush (-9999), 3) := by decide +kernel
theorem d_M_drawnBy_4 : decode u_M_drawnBy.2.1 4 = .ok (.if_icmp .eq 10, 3) := by decide +kernel
theorem d_M_drawnBy_7 : decode u_M_drawnBy.2.1 7 = .ok (.iload_n 2, 1) := by decide +kernel
theorem d_M_drawnBy_8 : decode u_M_drawnBy.2.1 8 = .ok (.sipush (-9999), 3) := by decide +kernel
theorem d_M_drawnBy_11 : decode u_M_drawnBy.2.1 11 = .ok (.if_icmp .ne 7, 3) := by decide +kernel
theorem d_M_drawnBy_14 : decode u_M_drawnBy.2.1 14 = .ok (.sipush (-9999), 3) := by decide +kernel
theorem d_M_drawnBy_17 : decode u_M_drawnBy.2.1 17 = .ok (.ireturn, 1) := by decide +kernel
theorem d_M_drawnBy_18 : decode u_M_drawnBy.2.1 18 = .ok (.iload_n 1, 1) := by decide +kernel
theorem d_M_drawnBy_19 : decode u_M_drawnBy.2.1 19 = .ok (.iload_n 0, 1) := by decide +kernel
theorem d_M_drawnBy_20 : decode u_M_drawnBy.2.1 20 = .ok (.iload_n 1, 1) := by decide +kernel
theorem d_M_drawnBy_21 : decode u_M_drawnBy.2.1 21 = .ok (.isub, 1) := by decide +kernel
theorem d_M_drawnBy_22 : decode u_M_drawnBy.2.1 22 = .ok (.iload_n 2, 1) := by decide +kernel
theorem d_M_drawnBy_23 : decode u_M_drawnBy.2.1 23 = .ok (.imul, 1) := by decide +kernel
theorem d_M_drawnBy_24 : decode u_M_drawnBy.2.1 24 = .ok (.bipush 10, 2) := by decide +kernel
theorem d_M_drawnBy_26 : decode u_M_drawnBy.2.1 26 = .ok (.idiv, 1) := by decide +kernel
theorem d_M_drawnBy_27 : decode u_M_drawnBy.2.1 27 = .ok (.iadd, 1) := by decide +kernel
theorem d_M_drawnBy_28 : decode u_M_drawnBy.2.1 28 = .ok (.istore_n 3, 1) := by decide +kernel
theorem d_M_drawnBy_29 : decode u_M_drawnBy.2.1 29 = .ok (.iload_n 3, 1) := by decide +kernel
theorem d_M_drawnBy_30 : decode u_M_drawnBy.2.1 30 = .ok (.sipush 7000, 3) := by decide +kernel
theorem d_M_drawnBy_33 : decode u_M_drawnBy.2.1 33 = .ok (.if_icmp .le 9, 3) := by decide +kernel
theorem d_M_drawnBy_36 : decode u_M_drawnBy.2.1 36 = .ok (.sipush 7000, 3) := by decide +kernel
theorem d_M_drawnBy_39 : decode u_M_drawnBy.2.1 39 = .ok (.goto 17, 3) := by decide +kernel
theorem d_M_drawnBy_42 : decode u_M_drawnBy.2.1 42 = .ok (.iload_n 3, 1) := by decide +kernel
theorem d_M_drawnBy_43 : decode u_M_drawnBy.2.1 43 = .ok (.sipush (-7000), 3) := by decide +kernel
theorem d_M_drawnBy_46 : decode u_M_drawnBy.2.1 46 = .ok (.if_icmp .ge 9, 3) := by decide +kernel
theorem d_M_drawnBy_49 : decode u_M_drawnBy.2.1 49 = .ok (.sipush (-7000), 3) := by decide +kernel
theorem d_M_drawnBy_52 : decode u_M_drawnBy.2.1 52 = .ok (.goto 4, 3) := by decide +kernel
theorem d_M_drawnBy_55 : decode u_M_drawnBy.2.1 55 = .ok (.iload_n 3, 1) := by decide +kernel
theorem d_M_drawnBy_56 : decode u_M_drawnBy.2.1 56 = .ok (.ireturn, 1) := by decide +kernel
theorem d_M_drawn_0 : decode u_M_drawn.2.1 0 = .ok (.iload_n 1, 1) := by decide +kernel
theorem d_M_drawn_1 : decode u_M_drawn.2.1 1 = .ok (.invokestatic 120, 3) := by decide +kernel
theorem d_M_drawn_4 : decode u_M_drawn.2.1 4 = .ok (.ifCond .eq 27, 3) := by decide +kernel
theorem d_M_drawn_7 : decode u_M_drawn.2.1 7 = .ok (.aload_n 0, 1) := by decide +kernel
theorem d_M_drawn_8 : decode u_M_drawn.2.1 8 = .ok (.iload_n 2, 1) := by decide +kernel
theorem d_M_drawn_9 : decode u_M_drawn.2.1 9 = .ok (.invokevirtual 103, 3) := by decide +kernel
theorem d_M_drawn_12 : decode u_M_drawn.2.1 12 = .ok (.ifCond .eq 19, 3) := by decide +kernel
theorem d_M_drawn_15 : decode u_M_drawn.2.1 15 = .ok (.aload_n 0, 1) := by decide +kernel
theorem d_M_drawn_16 : decode u_M_drawn.2.1 16 = .ok (.iload_n 3, 1) := by decide +kernel
theorem d_M_drawn_17 : decode u_M_drawn.2.1 17 = .ok (.invokevirtual 114, 3) := by decide +kernel
theorem d_M_drawn_20 : decode u_M_drawn.2.1 20 = .ok (.ifCond .eq 11, 3) := by decide +kernel
theorem d_M_drawn_23 : decode u_M_drawn.2.1 23 = .ok (.iload 4, 2) := by decide +kernel
theorem d_M_drawn_25 : decode u_M_drawn.2.1 25 = .ok (.invokestatic 106, 3) := by decide +kernel
theorem d_M_drawn_28 : decode u_M_drawn.2.1 28 = .ok (.ifCond .ne 9, 3) := by decide +kernel
theorem d_M_drawn_31 : decode u_M_drawn.2.1 31 = .ok (.bipush (-2), 2) := by decide +kernel
theorem d_M_drawn_33 : decode u_M_drawn.2.1 33 = .ok (.invokestatic 149, 3) := by decide +kernel
theorem d_M_drawn_36 : decode u_M_drawn.2.1 36 = .ok (.ireturn, 1) := by decide +kernel
theorem d_M_drawn_37 : decode u_M_drawn.2.1 37 = .ok (.aload_n 0, 1) := by decide +kernel
theorem d_M_drawn_38 : decode u_M_drawn.2.1 38 = .ok (.iload_n 1, 1) := by decide +kernel
theorem d_M_drawn_39 : decode u_M_drawn.2.1 39 = .ok (.invokevirtual 146, 3) := by decide +kernel
theorem d_M_drawn_42 : decode u_M_drawn.2.1 42 = .ok (.pop, 1) := by decide +kernel
theorem d_M_drawn_43 : decode u_M_drawn.2.1 43 = .ok (.aload_n 0, 1) := by decide +kernel
theorem d_M_drawn_44 : decode u_M_drawn.2.1 44 = .ok (.getfield 22, 3) := by decide +kernel
theorem d_M_drawn_47 : decode u_M_drawn.2.1 47 = .ok (.bipush 8, 2) := by decide +kernel
theorem d_M_drawn_49 : decode u_M_drawn.2.1 49 = .ok (.iload_n 2, 1) := by decide +kernel
theorem d_M_drawn_50 : decode u_M_drawn.2.1 50 = .ok (.imul, 1) := by decide +kernel
theorem d_M_drawn_51 : decode u_M_drawn.2.1 51 = .ok (.iload 4, 2) := by decide +kernel
theorem d_M_drawn_53 : decode u_M_drawn.2.1 53 = .ok (.iadd, 1) := by decide +kernel
theorem d_M_drawn_54 : decode u_M_drawn.2.1 54 = .ok (.iaload, 1) := by decide +kernel
theorem d_M_drawn_55 : decode u_M_drawn.2.1 55 = .ok (.aload_n 0, 1) := by decide +kernel
theorem d_M_drawn_56 : decode u_M_drawn.2.1 56 = .ok (.iload_n 3, 1) := by decide +kernel
theorem d_M_drawn_57 : decode u_M_drawn.2.1 57 = .ok (.iload 4, 2) := by decide +kernel
theorem d_M_drawn_59 : decode u_M_drawn.2.1 59 = .ok (.invokevirtual 117, 3) := by decide +kernel
theorem d_M_drawn_62 : decode u_M_drawn.2.1 62 = .ok (.aload_n 0, 1) := by decide +kernel
theorem d_M_drawn_63 : decode u_M_drawn.2.1 63 = .ok (.getfield 31, 3) := by decide +kernel
theorem d_M_drawn_66 : decode u_M_drawn.2.1 66 = .ok (.iload 4, 2) := by decide +kernel
theorem d_M_drawn_68 : decode u_M_drawn.2.1 68 = .ok (.iaload, 1) := by decide +kernel
theorem d_M_drawn_69 : decode u_M_drawn.2.1 69 = .ok (.invokestatic 152, 3) := by decide +kernel
theorem d_M_drawn_72 : decode u_M_drawn.2.1 72 = .ok (.ireturn, 1) := by decide +kernel
theorem d_M_set_0 : decode u_M_set.2.1 0 = .ok (.iload_n 1, 1) := by decide +kernel
theorem d_M_set_1 : decode u_M_set.2.1 1 = .ok (.i2l, 1) := by decide +kernel
theorem d_M_set_2 : decode u_M_set.2.1 2 = .ok (.lconst 0, 1) := by decide +kernel
theorem d_M_set_3 : decode u_M_set.2.1 3 = .ok (.ldc2_w 83, 3) := by decide +kernel
theorem d_M_set_6 : decode u_M_set.2.1 6 = .ok (.invokestatic 69, 3) := by decide +kernel
theorem d_M_set_9 : decode u_M_set.2.1 9 = .ok (.ifCond .eq 35, 3) := by decide +kernel
theorem d_M_set_12 : decode u_M_set.2.1 12 = .ok (.iload_n 2, 1) := by decide +kernel
theorem d_M_set_13 : decode u_M_set.2.1 13 = .ok (.i2l, 1) := by decide +kernel
theorem d_M_set_14 : decode u_M_set.2.1 14 = .ok (.iload_n 1, 1) := by decide +kernel
theorem d_M_set_15 : decode u_M_set.2.1 15 = .ok (.iconst 2, 1) := by decide +kernel
theorem d_M_set_16 : decode u_M_set.2.1 16 = .ok (.if_icmp .ne 7, 3) := by decide +kernel
theorem d_M_set_19 : decode u_M_set.2.1 19 = .ok (.lconst 0, 1) := by decide +kernel
theorem d_M_set_20 : decode u_M_set.2.1 20 = .ok (.goto 4, 3) := by decide +kernel
theorem d_M_set_23 : decode u_M_set.2.1 23 = .ok (.lconst 1, 1) := by decide +kernel
theorem d_M_set_24 : decode u_M_set.2.1 24 = .ok (.iload_n 1, 1) := by decide +kernel
theorem d_M_set_25 : decode u_M_set.2.1 25 = .ok (.iconst 1, 1) := by decide +kernel
theorem d_M_set_26 : decode u_M_set.2.1 26 = .ok (.if_icmp .ne 9, 3) := by decide +kernel
theorem d_M_set_29 : decode u_M_set.2.1 29 = .ok (.ldc2_w 155, 3) := by decide +kernel
theorem d_M_set_32 : decode u_M_set.2.1 32 = .ok (.goto 6, 3) := by decide +kernel
theorem d_M_set_35 : decode u_M_set.2.1 35 = .ok (.ldc2_w 109, 3) := by decide +kernel
theorem d_M_set_38 : decode u_M_set.2.1 38 = .ok (.invokestatic 69, 3) := by decide +kernel
theorem d_M_set_41 : decode u_M_set.2.1 41 = .ok (.ifCond .ne 6, 3) := by decide +kernel
theorem d_M_set_44 : decode u_M_set.2.1 44 = .ok (.bipush (-2), 2) := by decide +kernel
theorem d_M_set_46 : decode u_M_set.2.1 46 = .ok (.ireturn, 1) := by decide +kernel
theorem d_M_set_47 : decode u_M_set.2.1 47 = .ok (.aload_n 0, 1) := by decide +kernel
theorem d_M_set_48 : decode u_M_set.2.1 48 = .ok (.getfield 34, 3) := by decide +kernel
theorem d_M_set_51 : decode u_M_set.2.1 51 = .ok (.iload_n 1, 1) := by decide +kernel
theorem d_M_set_52 : decode u_M_set.2.1 52 = .ok (.iaload, 1) := by decide +kernel
theorem d_M_set_53 : decode u_M_set.2.1 53 = .ok (.istore_n 3, 1) := by decide +kernel
theorem d_M_set_54 : decode u_M_set.2.1 54 = .ok (.aload_n 0, 1) := by decide +kernel
theorem d_M_set_55 : decode u_M_set.2.1 55 = .ok (.getfield 34, 3) := by decide +kernel
theorem d_M_set_58 : decode u_M_set.2.1 58 = .ok (.iload_n 1, 1) := by decide +kernel
theorem d_M_set_59 : decode u_M_set.2.1 59 = .ok (.iload_n 2, 1) := by decide +kernel
theorem d_M_set_60 : decode u_M_set.2.1 60 = .ok (.iastore, 1) := by decide +kernel
theorem d_M_set_61 : decode u_M_set.2.1 61 = .ok (.iload_n 3, 1) := by decide +kernel
theorem d_M_set_62 : decode u_M_set.2.1 62 = .ok (.ireturn, 1) := by decide +kernel
theorem d_M_isDrawing_0 : decode u_M_isDrawing.2.1 0 = .ok (.iload_n 1, 1) := by decide +kernel
theorem d_M_isDrawing_1 : decode u_M_isDrawing.2.1 1 = .ok (.i2l, 1) := by decide +kernel
theorem d_M_isDrawing_2 : decode u_M_isDrawing.2.1 2 = .ok (.lconst 0, 1) := by decide +kernel
theorem d_M_isDrawing_3 : decode u_M_isDrawing.2.1 3 = .ok (.aload_n 0, 1) := by decide +kernel
theorem d_M_isDrawing_4 : decode u_M_isDrawing.2.1 4 = .ok (.getfield 157, 3) := by decide +kernel
theorem d_M_isDrawing_7 : decode u_M_isDrawing.2.1 7 = .ok (.iconst 1, 1) := by decide +kernel
theorem d_M_isDrawing_8 : decode u_M_isDrawing.2.1 8 = .ok (.isub, 1) := by decide +kernel
theorem d_M_isDrawing_9 : decode u_M_isDrawing.2.1 9 = .ok (.i2l, 1) := by decide +kernel
theorem d_M_isDrawing_10 : decode u_M_isDrawing.2.1 10 = .ok (.invokestatic 69, 3) := by decide +kernel
theorem d_M_isDrawing_13 : decode u_M_isDrawing.2.1 13 = .ok (.ireturn, 1) := by decide +kernel
theorem d_M_isLate_0 : decode u_M_isLate.2.1 0 = .ok (.iload_n 1, 1) := by decide +kernel
theorem d_M_isLate_1 : decode u_M_isLate.2.1 1 = .ok (.i2l, 1) := by decide +kernel
theorem d_M_isLate_2 : decode u_M_isLate.2.1 2 = .ok (.aload_n 0, 1) := by decide +kernel
theorem d_M_isLate_3 : decode u_M_isLate.2.1 3 = .ok (.getfield 157, 3) := by decide +kernel
theorem d_M_isLate_6 : decode u_M_isLate.2.1 6 = .ok (.ifCond .ne 7, 3) := by decide +kernel
theorem d_M_isLate_9 : decode u_M_isLate.2.1 9 = .ok (.lconst 0, 1) := by decide +kernel
theorem d_M_isLate_10 : decode u_M_isLate.2.1 10 = .ok (.goto 15, 3) := by decide +kernel
theorem d_M_isLate_13 : decode u_M_isLate.2.1 13 = .ok (.aload_n 0, 1) := by decide +kernel
theorem d_M_isLate_14 : decode u_M_isLate.2.1 14 = .ok (.getfield 40, 3) := by decide +kernel
theorem d_M_isLate_17 : decode u_M_isLate.2.1 17 = .ok (.aload_n 0, 1) := by decide +kernel
theorem d_M_isLate_18 : decode u_M_isLate.2.1 18 = .ok (.getfield 157, 3) := by decide +kernel
theorem d_M_isLate_21 : decode u_M_isLate.2.1 21 = .ok (.iconst 1, 1) := by decide +kernel
theorem d_M_isLate_22 : decode u_M_isLate.2.1 22 = .ok (.isub, 1) := by decide +kernel
theorem d_M_isLate_23 : decode u_M_isLate.2.1 23 = .ok (.iaload, 1) := by decide +kernel
theorem d_M_isLate_24 : decode u_M_isLate.2.1 24 = .ok (.i2l, 1) := by decide +kernel
theorem d_M_isLate_25 : decode u_M_isLate.2.1 25 = .ok (.ldc2_w 109, 3) := by decide +kernel
theorem d_M_isLate_28 : decode u_M_isLate.2.1 28 = .ok (.invokestatic 69, 3) := by decide +kernel
theorem d_M_isLate_31 : decode u_M_isLate.2.1 31 = .ok (.ireturn, 1) := by decide +kernel
theorem d_M_draw_0 : decode u_M_draw.2.1 0 = .ok (.iload_n 1, 1) := by decide +kernel
theorem d_M_draw_1 : decode u_M_draw.2.1 1 = .ok (.invokestatic 120, 3) := by decide +kernel
theorem d_M_draw_4 : decode u_M_draw.2.1 4 = .ok (.ifCond .eq 28, 3) := by decide +kernel
theorem d_M_draw_7 : decode u_M_draw.2.1 7 = .ok (.aload_n 0, 1) := by decide +kernel
theorem d_M_draw_8 : decode u_M_draw.2.1 8 = .ok (.iload_n 2, 1) := by decide +kernel
theorem d_M_draw_9 : decode u_M_draw.2.1 9 = .ok (.invokevirtual 103, 3) := by decide +kernel
theorem d_M_draw_12 : decode u_M_draw.2.1 12 = .ok (.ifCond .eq 20, 3) := by decide +kernel
theorem d_M_draw_15 : decode u_M_draw.2.1 15 = .ok (.aload_n 0, 1) := by decide +kernel
theorem d_M_draw_16 : decode u_M_draw.2.1 16 = .ok (.iload_n 3, 1) := by decide +kernel
theorem d_M_draw_17 : decode u_M_draw.2.1 17 = .ok (.invokevirtual 114, 3) := by decide +kernel
theorem d_M_draw_20 : decode u_M_draw.2.1 20 = .ok (.ifCond .eq 12, 3) := by decide +kernel
theorem d_M_draw_23 : decode u_M_draw.2.1 23 = .ok (.aload_n 0, 1) := by decide +kernel
theorem d_M_draw_24 : decode u_M_draw.2.1 24 = .ok (.iload 4, 2) := by decide +kernel
theorem d_M_draw_26 : decode u_M_draw.2.1 26 = .ok (.invokevirtual 160, 3) := by decide +kernel
theorem d_M_draw_29 : decode u_M_draw.2.1 29 = .ok (.ifCond .ne 6, 3) := by decide +kernel
theorem d_M_draw_32 : decode u_M_draw.2.1 32 = .ok (.bipush (-2), 2) := by decide +kernel
theorem d_M_draw_34 : decode u_M_draw.2.1 34 = .ok (.ireturn, 1) := by decide +kernel
theorem d_M_draw_35 : decode u_M_draw.2.1 35 = .ok (.aload_n 0, 1) := by decide +kernel
theorem d_M_draw_36 : decode u_M_draw.2.1 36 = .ok (.getfield 157, 3) := by decide +kernel
theorem d_M_draw_39 : decode u_M_draw.2.1 39 = .ok (.bipush 30, 2) := by decide +kernel
theorem d_M_draw_41 : decode u_M_draw.2.1 41 = .ok (.if_icmp .ne 6, 3) := by decide +kernel
theorem d_M_draw_44 : decode u_M_draw.2.1 44 = .ok (.bipush (-4), 2) := by decide +kernel
theorem d_M_draw_46 : decode u_M_draw.2.1 46 = .ok (.ireturn, 1) := by decide +kernel
theorem d_M_draw_47 : decode u_M_draw.2.1 47 = .ok (.aload_n 0, 1) := by decide +kernel
theorem d_M_draw_48 : decode u_M_draw.2.1 48 = .ok (.iload_n 1, 1) := by decide +kernel
theorem d_M_draw_49 : decode u_M_draw.2.1 49 = .ok (.invokevirtual 146, 3) := by decide +kernel
theorem d_M_draw_52 : decode u_M_draw.2.1 52 = .ok (.pop, 1) := by decide +kernel
theorem d_M_draw_53 : decode u_M_draw.2.1 53 = .ok (.iconst 0, 1) := by decide +kernel
theorem d_M_draw_54 : decode u_M_draw.2.1 54 = .ok (.istore 5, 2) := by decide +kernel
theorem d_M_draw_56 : decode u_M_draw.2.1 56 = .ok (.iconst 1, 1) := by decide +kernel
theorem d_M_draw_57 : decode u_M_draw.2.1 57 = .ok (.istore 6, 2) := by decide +kernel
theorem d_M_draw_59 : decode u_M_draw.2.1 59 = .ok (.iconst 0, 1) := by decide +kernel
theorem d_M_draw_60 : decode u_M_draw.2.1 60 = .ok (.istore 7, 2) := by decide +kernel
theorem d_M_draw_62 : decode u_M_draw.2.1 62 = .ok (.iconst 0, 1) := by decide +kernel
theorem d_M_draw_63 : decode u_M_draw.2.1 63 = .ok (.istore 8, 2) := by decide +kernel
theorem d_M_draw_65 : decode u_M_draw.2.1 65 = .ok (.iload 8, 2) := by decide +kernel
theorem d_M_draw_67 : decode u_M_draw.2.1 67 = .ok (.bipush 8, 2) := by decide +kernel
theorem d_M_draw_69 : decode u_M_draw.2.1 69 = .ok (.if_icmp .ge 163, 3) := by decide +kernel
theorem d_M_draw_72 : decode u_M_draw.2.1 72 = .ok (.aload_n 0, 1) := by decide +kernel
theorem d_M_draw_73 : decode u_M_draw.2.1 73 = .ok (.getfield 22, 3) := by decide +kernel
theorem d_M_draw_76 : decode u_M_draw.2.1 76 = .ok (.bipush 8, 2) := by decide +kernel
theorem d_M_draw_78 : decode u_M_draw.2.1 78 = .ok (.iload_n 2, 1) := by decide +kernel
theorem d_M_draw_79 : decode u_M_draw.2.1 79 = .ok (.imul, 1) := by decide +kernel
theorem d_M_draw_80 : decode u_M_draw.2.1 80 = .ok (.iload 8, 2) := by decide +kernel
theorem d_M_draw_82 : decode u_M_draw.2.1 82 = .ok (.iadd, 1) := by decide +kernel
theorem d_M_draw_83 : decode u_M_draw.2.1 83 = .ok (.iaload, 1) := by decide +kernel
theorem d_M_draw_84 : decode u_M_draw.2.1 84 = .ok (.istore 9, 2) := by decide +kernel
theorem d_M_draw_86 : decode u_M_draw.2.1 86 = .ok (.aload_n 0, 1) := by decide +kernel
theorem d_M_draw_87 : decode u_M_draw.2.1 87 = .ok (.iload_n 3, 1) := by decide +kernel
theorem d_M_draw_88 : decode u_M_draw.2.1 88 = .ok (.iload 8, 2) := by decide +kernel
theorem d_M_draw_90 : decode u_M_draw.2.1 90 = .ok (.invokevirtual 117, 3) := by decide +kernel
theorem d_M_draw_93 : decode u_M_draw.2.1 93 = .ok (.istore 10, 2) := by decide +kernel
theorem d_M_draw_95 : decode u_M_draw.2.1 95 = .ok (.iload 9, 2) := by decide +kernel
theorem d_M_draw_97 : decode u_M_draw.2.1 97 = .ok (.iload 10, 2) := by decide +kernel
theorem d_M_draw_99 : decode u_M_draw.2.1 99 = .ok (.aload_n 0, 1) := by decide +kernel
theorem d_M_draw_100 : decode u_M_draw.2.1 100 = .ok (.getfield 31, 3) := by decide +kernel
theorem d_M_draw_103 : decode u_M_draw.2.1 103 = .ok (.iload 8, 2) := by decide +kernel
theorem d_M_draw_105 : decode u_M_draw.2.1 105 = .ok (.iaload, 1) := by decide +kernel
theorem d_M_draw_106 : decode u_M_draw.2.1 106 = .ok (.invokestatic 152, 3) := by decide +kernel
theorem d_M_draw_109 : decode u_M_draw.2.1 109 = .ok (.istore 11, 2) := by decide +kernel
theorem d_M_draw_111 : decode u_M_draw.2.1 111 = .ok (.aload_n 0, 1) := by decide +kernel
theorem d_M_draw_112 : decode u_M_draw.2.1 112 = .ok (.getfield 52, 3) := by decide +kernel
theorem d_M_draw_115 : decode u_M_draw.2.1 115 = .ok (.bipush 8, 2) := by decide +kernel
theorem d_M_draw_117 : decode u_M_draw.2.1 117 = .ok (.aload_n 0, 1) := by decide +kernel
theorem d_M_draw_118 : decode u_M_draw.2.1 118 = .ok (.getfield 157, 3) := by decide +kernel
theorem d_M_draw_121 : decode u_M_draw.2.1 121 = .ok (.imul, 1) := by decide +kernel
theorem d_M_draw_122 : decode u_M_draw.2.1 122 = .ok (.iload 8, 2) := by decide +kernel
theorem d_M_draw_124 : decode u_M_draw.2.1 124 = .ok (.iadd, 1) := by decide +kernel
theorem d_M_draw_125 : decode u_M_draw.2.1 125 = .ok (.iload 10, 2) := by decide +kernel
theorem d_M_draw_127 : decode u_M_draw.2.1 127 = .ok (.iastore, 1) := by decide +kernel
theorem d_M_draw_128 : decode u_M_draw.2.1 128 = .ok (.aload_n 0, 1) := by decide +kernel
theorem d_M_draw_129 : decode u_M_draw.2.1 129 = .ok (.getfield 49, 3) := by decide +kernel
theorem d_M_draw_132 : decode u_M_draw.2.1 132 = .ok (.bipush 8, 2) := by decide +kernel
theorem d_M_draw_134 : decode u_M_draw.2.1 134 = .ok (.aload_n 0, 1) := by decide +kernel
theorem d_M_draw_135 : decode u_M_draw.2.1 135 = .ok (.getfield 157, 3) := by decide +kernel
theorem d_M_draw_138 : decode u_M_draw.2.1 138 = .ok (.imul, 1) := by decide +kernel
theorem d_M_draw_139 : decode u_M_draw.2.1 139 = .ok (.iload 8, 2) := by decide +kernel
theorem d_M_draw_141 : decode u_M_draw.2.1 141 = .ok (.iadd, 1) := by decide +kernel
theorem d_M_draw_142 : decode u_M_draw.2.1 142 = .ok (.iload 11, 2) := by decide +kernel
theorem d_M_draw_144 : decode u_M_draw.2.1 144 = .ok (.iastore, 1) := by decide +kernel
theorem d_M_draw_145 : decode u_M_draw.2.1 145 = .ok (.iload 5, 2) := by decide +kernel
theorem d_M_draw_147 : decode u_M_draw.2.1 147 = .ok (.ifCond .ne 11, 3) := by decide +kernel
theorem d_M_draw_150 : decode u_M_draw.2.1 150 = .ok (.iload 11, 2) := by decide +kernel
theorem d_M_draw_152 : decode u_M_draw.2.1 152 = .ok (.sipush (-9999), 3) := by decide +kernel
theorem d_M_draw_155 : decode u_M_draw.2.1 155 = .ok (.if_icmp .ne 7, 3) := by decide +kernel
theorem d_M_draw_158 : decode u_M_draw.2.1 158 = .ok (.iconst 1, 1) := by decide +kernel
theorem d_M_draw_159 : decode u_M_draw.2.1 159 = .ok (.goto 4, 3) := by decide +kernel
theorem d_M_draw_162 : decode u_M_draw.2.1 162 = .ok (.iconst 0, 1) := by decide +kernel
theorem d_M_draw_163 : decode u_M_draw.2.1 163 = .ok (.istore 5, 2) := by decide +kernel
theorem d_M_draw_165 : decode u_M_draw.2.1 165 = .ok (.iload 6, 2) := by decide +kernel
theorem d_M_draw_167 : decode u_M_draw.2.1 167 = .ok (.ifCond .eq 14, 3) := by decide +kernel
theorem d_M_draw_170 : decode u_M_draw.2.1 170 = .ok (.iload 11, 2) := by decide +kernel
theorem d_M_draw_172 : decode u_M_draw.2.1 172 = .ok (.iload 9, 2) := by decide +kernel
theorem d_M_draw_174 : decode u_M_draw.2.1 174 = .ok (.if_icmp .ne 7, 3) := by decide +kernel
theorem d_M_draw_177 : decode u_M_draw.2.1 177 = .ok (.iconst 1, 1) := by decide +kernel
theorem d_M_draw_178 : decode u_M_draw.2.1 178 = .ok (.goto 4, 3) := by decide +kernel
theorem d_M_draw_181 : decode u_M_draw.2.1 181 = .ok (.iconst 0, 1) := by decide +kernel
theorem d_M_draw_182 : decode u_M_draw.2.1 182 = .ok (.istore 6, 2) := by decide +kernel
theorem d_M_draw_184 : decode u_M_draw.2.1 184 = .ok (.iload 7, 2) := by decide +kernel
theorem d_M_draw_186 : decode u_M_draw.2.1 186 = .ok (.ifCond .ne 33, 3) := by decide +kernel
theorem d_M_draw_189 : decode u_M_draw.2.1 189 = .ok (.iload 9, 2) := by decide +kernel
theorem d_M_draw_191 : decode u_M_draw.2.1 191 = .ok (.iload 10, 2) := by decide +kernel
theorem d_M_draw_193 : decode u_M_draw.2.1 193 = .ok (.if_icmp .eq 30, 3) := by decide +kernel
theorem d_M_draw_196 : decode u_M_draw.2.1 196 = .ok (.aload_n 0, 1) := by decide +kernel
theorem d_M_draw_197 : decode u_M_draw.2.1 197 = .ok (.getfield 31, 3) := by decide +kernel
theorem d_M_draw_200 : decode u_M_draw.2.1 200 = .ok (.iload 8, 2) := by decide +kernel
theorem d_M_draw_202 : decode u_M_draw.2.1 202 = .ok (.iaload, 1) := by decide +kernel
theorem d_M_draw_203 : decode u_M_draw.2.1 203 = .ok (.ifCond .ge 20, 3) := by decide +kernel
theorem d_M_draw_206 : decode u_M_draw.2.1 206 = .ok (.aload_n 0, 1) := by decide +kernel
theorem d_M_draw_207 : decode u_M_draw.2.1 207 = .ok (.getfield 31, 3) := by decide +kernel
theorem d_M_draw_210 : decode u_M_draw.2.1 210 = .ok (.iload 8, 2) := by decide +kernel
theorem d_M_draw_212 : decode u_M_draw.2.1 212 = .ok (.iaload, 1) := by decide +kernel
theorem d_M_draw_213 : decode u_M_draw.2.1 213 = .ok (.sipush (-9999), 3) := by decide +kernel
theorem d_M_draw_216 : decode u_M_draw.2.1 216 = .ok (.if_icmp .eq 7, 3) := by decide +kernel
theorem d_M_draw_219 : decode u_M_draw.2.1 219 = .ok (.iconst 1, 1) := by decide +kernel
theorem d_M_draw_220 : decode u_M_draw.2.1 220 = .ok (.goto 4, 3) := by decide +kernel
theorem d_M_draw_223 : decode u_M_draw.2.1 223 = .ok (.iconst 0, 1) := by decide +kernel
theorem d_M_draw_224 : decode u_M_draw.2.1 224 = .ok (.istore 7, 2) := by decide +kernel
theorem d_M_draw_226 : decode u_M_draw.2.1 226 = .ok (.iinc 8 1, 3) := by decide +kernel
theorem d_M_draw_229 : decode u_M_draw.2.1 229 = .ok (.goto (-164), 3) := by decide +kernel
theorem d_M_draw_232 : decode u_M_draw.2.1 232 = .ok (.aload_n 0, 1) := by decide +kernel
theorem d_M_draw_233 : decode u_M_draw.2.1 233 = .ok (.getfield 37, 3) := by decide +kernel
theorem d_M_draw_236 : decode u_M_draw.2.1 236 = .ok (.aload_n 0, 1) := by decide +kernel
theorem d_M_draw_237 : decode u_M_draw.2.1 237 = .ok (.getfield 157, 3) := by decide +kernel
theorem d_M_draw_240 : decode u_M_draw.2.1 240 = .ok (.iload_n 2, 1) := by decide +kernel
theorem d_M_draw_241 : decode u_M_draw.2.1 241 = .ok (.iastore, 1) := by decide +kernel
theorem d_M_draw_242 : decode u_M_draw.2.1 242 = .ok (.aload_n 0, 1) := by decide +kernel
theorem d_M_draw_243 : decode u_M_draw.2.1 243 = .ok (.getfield 40, 3) := by decide +kernel
theorem d_M_draw_246 : decode u_M_draw.2.1 246 = .ok (.aload_n 0, 1) := by decide +kernel
theorem d_M_draw_247 : decode u_M_draw.2.1 247 = .ok (.getfield 157, 3) := by decide +kernel
theorem d_M_draw_250 : decode u_M_draw.2.1 250 = .ok (.iload 4, 2) := by decide +kernel
theorem d_M_draw_252 : decode u_M_draw.2.1 252 = .ok (.iastore, 1) := by decide +kernel
theorem d_M_draw_253 : decode u_M_draw.2.1 253 = .ok (.aload_n 0, 1) := by decide +kernel
theorem d_M_draw_254 : decode u_M_draw.2.1 254 = .ok (.getfield 43, 3) := by decide +kernel
theorem d_M_draw_257 : decode u_M_draw.2.1 257 = .ok (.aload_n 0, 1) := by decide +kernel
theorem d_M_draw_258 : decode u_M_draw.2.1 258 = .ok (.getfield 157, 3) := by decide +kernel
theorem d_M_draw_261 : decode u_M_draw.2.1 261 = .ok (.iload 5, 2) := by decide +kernel
theorem d_M_draw_263 : decode u_M_draw.2.1 263 = .ok (.ifCond .eq 7, 3) := by decide +kernel
theorem d_M_draw_266 : decode u_M_draw.2.1 266 = .ok (.iconst 3, 1) := by decide +kernel
theorem d_M_draw_267 : decode u_M_draw.2.1 267 = .ok (.goto 22, 3) := by decide +kernel
theorem d_M_draw_270 : decode u_M_draw.2.1 270 = .ok (.iload 6, 2) := by decide +kernel
theorem d_M_draw_272 : decode u_M_draw.2.1 272 = .ok (.ifCond .eq 7, 3) := by decide +kernel
theorem d_M_draw_275 : decode u_M_draw.2.1 275 = .ok (.iconst 0, 1) := by decide +kernel
theorem d_M_draw_276 : decode u_M_draw.2.1 276 = .ok (.goto 13, 3) := by decide +kernel
theorem d_M_draw_279 : decode u_M_draw.2.1 279 = .ok (.iload 7, 2) := by decide +kernel
theorem d_M_draw_281 : decode u_M_draw.2.1 281 = .ok (.ifCond .eq 7, 3) := by decide +kernel
theorem d_M_draw_284 : decode u_M_draw.2.1 284 = .ok (.iconst 2, 1) := by decide +kernel
theorem d_M_draw_285 : decode u_M_draw.2.1 285 = .ok (.goto 4, 3) := by decide +kernel
theorem d_M_draw_288 : decode u_M_draw.2.1 288 = .ok (.iconst 1, 1) := by decide +kernel
theorem d_M_draw_289 : decode u_M_draw.2.1 289 = .ok (.iastore, 1) := by decide +kernel
theorem d_M_draw_290 : decode u_M_draw.2.1 290 = .ok (.aload_n 0, 1) := by decide +kernel
theorem d_M_draw_291 : decode u_M_draw.2.1 291 = .ok (.getfield 46, 3) := by decide +kernel
theorem d_M_draw_294 : decode u_M_draw.2.1 294 = .ok (.aload_n 0, 1) := by decide +kernel
theorem d_M_draw_295 : decode u_M_draw.2.1 295 = .ok (.getfield 157, 3) := by decide +kernel
theorem d_M_draw_298 : decode u_M_draw.2.1 298 = .ok (.iconst (-1), 1) := by decide +kernel
theorem d_M_draw_299 : decode u_M_draw.2.1 299 = .ok (.iastore, 1) := by decide +kernel
theorem d_M_draw_300 : decode u_M_draw.2.1 300 = .ok (.aload_n 0, 1) := by decide +kernel
theorem d_M_draw_301 : decode u_M_draw.2.1 301 = .ok (.dup, 1) := by decide +kernel
theorem d_M_draw_302 : decode u_M_draw.2.1 302 = .ok (.getfield 157, 3) := by decide +kernel
theorem d_M_draw_305 : decode u_M_draw.2.1 305 = .ok (.iconst 1, 1) := by decide +kernel
theorem d_M_draw_306 : decode u_M_draw.2.1 306 = .ok (.iadd, 1) := by decide +kernel
theorem d_M_draw_307 : decode u_M_draw.2.1 307 = .ok (.putfield 157, 3) := by decide +kernel
theorem d_M_draw_310 : decode u_M_draw.2.1 310 = .ok (.aload_n 0, 1) := by decide +kernel
theorem d_M_draw_311 : decode u_M_draw.2.1 311 = .ok (.getfield 157, 3) := by decide +kernel
theorem d_M_draw_314 : decode u_M_draw.2.1 314 = .ok (.iconst 1, 1) := by decide +kernel
theorem d_M_draw_315 : decode u_M_draw.2.1 315 = .ok (.isub, 1) := by decide +kernel
theorem d_M_draw_316 : decode u_M_draw.2.1 316 = .ok (.ireturn, 1) := by decide +kernel
theorem d_M_copied_0 : decode u_M_copied.2.1 0 = .ok (.iload_n 1, 1) := by decide +kernel
theorem d_M_copied_1 : decode u_M_copied.2.1 1 = .ok (.invokestatic 120, 3) := by decide +kernel
theorem d_M_copied_4 : decode u_M_copied.2.1 4 = .ok (.ifCond .eq 19, 3) := by decide +kernel
theorem d_M_copied_7 : decode u_M_copied.2.1 7 = .ok (.aload_n 0, 1) := by decide +kernel
theorem d_M_copied_8 : decode u_M_copied.2.1 8 = .ok (.iload_n 2, 1) := by decide +kernel
theorem d_M_copied_9 : decode u_M_copied.2.1 9 = .ok (.invokevirtual 163, 3) := by decide +kernel
theorem d_M_copied_12 : decode u_M_copied.2.1 12 = .ok (.ifCond .eq 11, 3) := by decide +kernel
theorem d_M_copied_15 : decode u_M_copied.2.1 15 = .ok (.aload_n 0, 1) := by decide +kernel
theorem d_M_copied_16 : decode u_M_copied.2.1 16 = .ok (.iload_n 3, 1) := by decide +kernel
theorem d_M_copied_17 : decode u_M_copied.2.1 17 = .ok (.invokevirtual 160, 3) := by decide +kernel
theorem d_M_copied_20 : decode u_M_copied.2.1 20 = .ok (.ifCond .ne 6, 3) := by decide +kernel
theorem d_M_copied_23 : decode u_M_copied.2.1 23 = .ok (.bipush (-2), 2) := by decide +kernel
theorem d_M_copied_25 : decode u_M_copied.2.1 25 = .ok (.ireturn, 1) := by decide +kernel
theorem d_M_copied_26 : decode u_M_copied.2.1 26 = .ok (.aload_n 0, 1) := by decide +kernel
theorem d_M_copied_27 : decode u_M_copied.2.1 27 = .ok (.getfield 157, 3) := by decide +kernel
theorem d_M_copied_30 : decode u_M_copied.2.1 30 = .ok (.bipush 30, 2) := by decide +kernel
theorem d_M_copied_32 : decode u_M_copied.2.1 32 = .ok (.if_icmp .ne 6, 3) := by decide +kernel
theorem d_M_copied_35 : decode u_M_copied.2.1 35 = .ok (.bipush (-4), 2) := by decide +kernel
theorem d_M_copied_37 : decode u_M_copied.2.1 37 = .ok (.ireturn, 1) := by decide +kernel
theorem d_M_copied_38 : decode u_M_copied.2.1 38 = .ok (.aload_n 0, 1) := by decide +kernel
theorem d_M_copied_39 : decode u_M_copied.2.1 39 = .ok (.iload_n 1, 1) := by decide +kernel
theorem d_M_copied_40 : decode u_M_copied.2.1 40 = .ok (.invokevirtual 146, 3) := by decide +kernel
theorem d_M_copied_43 : decode u_M_copied.2.1 43 = .ok (.pop, 1) := by decide +kernel
theorem d_M_copied_44 : decode u_M_copied.2.1 44 = .ok (.iconst 0, 1) := by decide +kernel
theorem d_M_copied_45 : decode u_M_copied.2.1 45 = .ok (.istore 4, 2) := by decide +kernel
theorem d_M_copied_47 : decode u_M_copied.2.1 47 = .ok (.iload 4, 2) := by decide +kernel
theorem d_M_copied_49 : decode u_M_copied.2.1 49 = .ok (.bipush 8, 2) := by decide +kernel
theorem d_M_copied_51 : decode u_M_copied.2.1 51 = .ok (.if_icmp .ge 79, 3) := by decide +kernel
theorem d_M_copied_54 : decode u_M_copied.2.1 54 = .ok (.aload_n 0, 1) := by decide +kernel
theorem d_M_copied_55 : decode u_M_copied.2.1 55 = .ok (.getfield 52, 3) := by decide +kernel
theorem d_M_copied_58 : decode u_M_copied.2.1 58 = .ok (.bipush 8, 2) := by decide +kernel
theorem d_M_copied_60 : decode u_M_copied.2.1 60 = .ok (.iload_n 2, 1) := by decide +kernel
theorem d_M_copied_61 : decode u_M_copied.2.1 61 = .ok (.imul, 1) := by decide +kernel
theorem d_M_copied_62 : decode u_M_copied.2.1 62 = .ok (.iload 4, 2) := by decide +kernel
theorem d_M_copied_64 : decode u_M_copied.2.1 64 = .ok (.iadd, 1) := by decide +kernel
theorem d_M_copied_65 : decode u_M_copied.2.1 65 = .ok (.iaload, 1) := by decide +kernel
theorem d_M_copied_66 : decode u_M_copied.2.1 66 = .ok (.istore 5, 2) := by decide +kernel
theorem d_M_copied_68 : decode u_M_copied.2.1 68 = .ok (.aload_n 0, 1) := by decide +kernel
theorem d_M_copied_69 : decode u_M_copied.2.1 69 = .ok (.getfield 52, 3) := by decide +kernel
theorem d_M_copied_72 : decode u_M_copied.2.1 72 = .ok (.bipush 8, 2) := by decide +kernel
theorem d_M_copied_74 : decode u_M_copied.2.1 74 = .ok (.aload_n 0, 1) := by decide +kernel
theorem d_M_copied_75 : decode u_M_copied.2.1 75 = .ok (.getfield 157, 3) := by decide +kernel
theorem d_M_copied_78 : decode u_M_copied.2.1 78 = .ok (.imul, 1) := by decide +kernel
theorem d_M_copied_79 : decode u_M_copied.2.1 79 = .ok (.iload 4, 2) := by decide +kernel
theorem d_M_copied_81 : decode u_M_copied.2.1 81 = .ok (.iadd, 1) := by decide +kernel
theorem d_M_copied_82 : decode u_M_copied.2.1 82 = .ok (.iload 5, 2) := by decide +kernel
theorem d_M_copied_84 : decode u_M_copied.2.1 84 = .ok (.iastore, 1) := by decide +kernel
theorem d_M_copied_85 : decode u_M_copied.2.1 85 = .ok (.aload_n 0, 1) := by decide +kernel
theorem d_M_copied_86 : decode u_M_copied.2.1 86 = .ok (.getfield 49, 3) := by decide +kernel
theorem d_M_copied_89 : decode u_M_copied.2.1 89 = .ok (.bipush 8, 2) := by decide +kernel
theorem d_M_copied_91 : decode u_M_copied.2.1 91 = .ok (.aload_n 0, 1) := by decide +kernel
theorem d_M_copied_92 : decode u_M_copied.2.1 92 = .ok (.getfield 157, 3) := by decide +kernel
theorem d_M_copied_95 : decode u_M_copied.2.1 95 = .ok (.imul, 1) := by decide +kernel
theorem d_M_copied_96 : decode u_M_copied.2.1 96 = .ok (.iload 4, 2) := by decide +kernel
theorem d_M_copied_98 : decode u_M_copied.2.1 98 = .ok (.iadd, 1) := by decide +kernel
theorem d_M_copied_99 : decode u_M_copied.2.1 99 = .ok (.aload_n 0, 1) := by decide +kernel
theorem d_M_copied_100 : decode u_M_copied.2.1 100 = .ok (.getfield 49, 3) := by decide +kernel
theorem d_M_copied_103 : decode u_M_copied.2.1 103 = .ok (.bipush 8, 2) := by decide +kernel
theorem d_M_copied_105 : decode u_M_copied.2.1 105 = .ok (.iload_n 2, 1) := by decide +kernel
theorem d_M_copied_106 : decode u_M_copied.2.1 106 = .ok (.imul, 1) := by decide +kernel
theorem d_M_copied_107 : decode u_M_copied.2.1 107 = .ok (.iload 4, 2) := by decide +kernel
theorem d_M_copied_109 : decode u_M_copied.2.1 109 = .ok (.iadd, 1) := by decide +kernel
theorem d_M_copied_110 : decode u_M_copied.2.1 110 = .ok (.iaload, 1) := by decide +kernel
theorem d_M_copied_111 : decode u_M_copied.2.1 111 = .ok (.iload 5, 2) := by decide +kernel
theorem d_M_copied_113 : decode u_M_copied.2.1 113 = .ok (.aload_n 0, 1) := by decide +kernel
theorem d_M_copied_114 : decode u_M_copied.2.1 114 = .ok (.getfield 31, 3) := by decide +kernel
theorem d_M_copied_117 : decode u_M_copied.2.1 117 = .ok (.iload 4, 2) := by decide +kernel
theorem d_M_copied_119 : decode u_M_copied.2.1 119 = .ok (.iaload, 1) := by decide +kernel
theorem d_M_copied_120 : decode u_M_copied.2.1 120 = .ok (.invokestatic 152, 3) := by decide +kernel
theorem d_M_copied_123 : decode u_M_copied.2.1 123 = .ok (.iastore, 1) := by decide +kernel
theorem d_M_copied_124 : decode u_M_copied.2.1 124 = .ok (.iinc 4 1, 3) := by decide +kernel
theorem d_M_copied_127 : decode u_M_copied.2.1 127 = .ok (.goto (-80), 3) := by decide +kernel
theorem d_M_copied_130 : decode u_M_copied.2.1 130 = .ok (.aload_n 0, 1) := by decide +kernel
theorem d_M_copied_131 : decode u_M_copied.2.1 131 = .ok (.getfield 37, 3) := by decide +kernel
theorem d_M_copied_134 : decode u_M_copied.2.1 134 = .ok (.aload_n 0, 1) := by decide +kernel
theorem d_M_copied_135 : decode u_M_copied.2.1 135 = .ok (.getfield 157, 3) := by decide +kernel
theorem d_M_copied_138 : decode u_M_copied.2.1 138 = .ok (.aload_n 0, 1) := by decide +kernel
theorem d_M_copied_139 : decode u_M_copied.2.1 139 = .ok (.getfield 37, 3) := by decide +kernel
theorem d_M_copied_142 : decode u_M_copied.2.1 142 = .ok (.iload_n 2, 1) := by decide +kernel
theorem d_M_copied_143 : decode u_M_copied.2.1 143 = .ok (.iaload, 1) := by decide +kernel
theorem d_M_copied_144 : decode u_M_copied.2.1 144 = .ok (.iastore, 1) := by decide +kernel
theorem d_M_copied_145 : decode u_M_copied.2.1 145 = .ok (.aload_n 0, 1) := by decide +kernel
theorem d_M_copied_146 : decode u_M_copied.2.1 146 = .ok (.getfield 40, 3) := by decide +kernel
theorem d_M_copied_149 : decode u_M_copied.2.1 149 = .ok (.aload_n 0, 1) := by decide +kernel
theorem d_M_copied_150 : decode u_M_copied.2.1 150 = .ok (.getfield 157, 3) := by decide +kernel
theorem d_M_copied_153 : decode u_M_copied.2.1 153 = .ok (.iload_n 3, 1) := by decide +kernel
theorem d_M_copied_154 : decode u_M_copied.2.1 154 = .ok (.iastore, 1) := by decide +kernel
theorem d_M_copied_155 : decode u_M_copied.2.1 155 = .ok (.aload_n 0, 1) := by decide +kernel
theorem d_M_copied_156 : decode u_M_copied.2.1 156 = .ok (.getfield 43, 3) := by decide +kernel
theorem d_M_copied_159 : decode u_M_copied.2.1 159 = .ok (.aload_n 0, 1) := by decide +kernel
theorem d_M_copied_160 : decode u_M_copied.2.1 160 = .ok (.getfield 157, 3) := by decide +kernel
theorem d_M_copied_163 : decode u_M_copied.2.1 163 = .ok (.iconst 4, 1) := by decide +kernel
theorem d_M_copied_164 : decode u_M_copied.2.1 164 = .ok (.iastore, 1) := by decide +kernel
theorem d_M_copied_165 : decode u_M_copied.2.1 165 = .ok (.aload_n 0, 1) := by decide +kernel
theorem d_M_copied_166 : decode u_M_copied.2.1 166 = .ok (.getfield 46, 3) := by decide +kernel
theorem d_M_copied_169 : decode u_M_copied.2.1 169 = .ok (.aload_n 0, 1) := by decide +kernel
theorem d_M_copied_170 : decode u_M_copied.2.1 170 = .ok (.getfield 157, 3) := by decide +kernel
theorem d_M_copied_173 : decode u_M_copied.2.1 173 = .ok (.iload_n 2, 1) := by decide +kernel
theorem d_M_copied_174 : decode u_M_copied.2.1 174 = .ok (.iastore, 1) := by decide +kernel
theorem d_M_copied_175 : decode u_M_copied.2.1 175 = .ok (.aload_n 0, 1) := by decide +kernel
theorem d_M_copied_176 : decode u_M_copied.2.1 176 = .ok (.dup, 1) := by decide +kernel
theorem d_M_copied_177 : decode u_M_copied.2.1 177 = .ok (.getfield 157, 3) := by decide +kernel
theorem d_M_copied_180 : decode u_M_copied.2.1 180 = .ok (.iconst 1, 1) := by decide +kernel
theorem d_M_copied_181 : decode u_M_copied.2.1 181 = .ok (.iadd, 1) := by decide +kernel
theorem d_M_copied_182 : decode u_M_copied.2.1 182 = .ok (.putfield 157, 3) := by decide +kernel
theorem d_M_copied_185 : decode u_M_copied.2.1 185 = .ok (.aload_n 0, 1) := by decide +kernel
theorem d_M_copied_186 : decode u_M_copied.2.1 186 = .ok (.getfield 157, 3) := by decide +kernel
theorem d_M_copied_189 : decode u_M_copied.2.1 189 = .ok (.iconst 1, 1) := by decide +kernel
theorem d_M_copied_190 : decode u_M_copied.2.1 190 = .ok (.isub, 1) := by decide +kernel
theorem d_M_copied_191 : decode u_M_copied.2.1 191 = .ok (.ireturn, 1) := by decide +kernel
theorem d_M_line_0 : decode u_M_line.2.1 0 = .ok (.aload_n 0, 1) := by decide +kernel
theorem d_M_line_1 : decode u_M_line.2.1 1 = .ok (.iload_n 1, 1) := by decide +kernel
theorem d_M_line_2 : decode u_M_line.2.1 2 = .ok (.invokevirtual 163, 3) := by decide +kernel
theorem d_M_line_5 : decode u_M_line.2.1 5 = .ok (.ifCond .eq 24, 3) := by decide +kernel
theorem d_M_line_8 : decode u_M_line.2.1 8 = .ok (.iload_n 2, 1) := by decide +kernel
theorem d_M_line_9 : decode u_M_line.2.1 9 = .ok (.invokestatic 106, 3) := by decide +kernel
theorem d_M_line_12 : decode u_M_line.2.1 12 = .ok (.ifCond .eq 17, 3) := by decide +kernel
theorem d_M_line_15 : decode u_M_line.2.1 15 = .ok (.aload_n 0, 1) := by decide +kernel
theorem d_M_line_16 : decode u_M_line.2.1 16 = .ok (.getfield 49, 3) := by decide +kernel
theorem d_M_line_19 : decode u_M_line.2.1 19 = .ok (.bipush 8, 2) := by decide +kernel
theorem d_M_line_21 : decode u_M_line.2.1 21 = .ok (.iload_n 1, 1) := by decide +kernel
theorem d_M_line_22 : decode u_M_line.2.1 22 = .ok (.imul, 1) := by decide +kernel
theorem d_M_line_23 : decode u_M_line.2.1 23 = .ok (.iload_n 2, 1) := by decide +kernel
theorem d_M_line_24 : decode u_M_line.2.1 24 = .ok (.iadd, 1) := by decide +kernel
theorem d_M_line_25 : decode u_M_line.2.1 25 = .ok (.iaload, 1) := by decide +kernel
theorem d_M_line_26 : decode u_M_line.2.1 26 = .ok (.goto 8, 3) := by decide +kernel
theorem d_M_line_29 : decode u_M_line.2.1 29 = .ok (.bipush (-2), 2) := by decide +kernel
theorem d_M_line_31 : decode u_M_line.2.1 31 = .ok (.invokestatic 149, 3) := by decide +kernel
theorem d_M_line_34 : decode u_M_line.2.1 34 = .ok (.ireturn, 1) := by decide +kernel
theorem d_M_isMonster_0 : decode u_M_isMonster.2.1 0 = .ok (.iconst 0, 1) := by decide +kernel
theorem d_M_isMonster_1 : decode u_M_isMonster.2.1 1 = .ok (.istore_n 2, 1) := by decide +kernel
theorem d_M_isMonster_2 : decode u_M_isMonster.2.1 2 = .ok (.iconst 0, 1) := by decide +kernel
theorem d_M_isMonster_3 : decode u_M_isMonster.2.1 3 = .ok (.istore_n 3, 1) := by decide +kernel
theorem d_M_isMonster_4 : decode u_M_isMonster.2.1 4 = .ok (.iload_n 3, 1) := by decide +kernel
theorem d_M_isMonster_5 : decode u_M_isMonster.2.1 5 = .ok (.bipush 8, 2) := by decide +kernel
theorem d_M_isMonster_7 : decode u_M_isMonster.2.1 7 = .ok (.if_icmp .ge 66, 3) := by decide +kernel
theorem d_M_isMonster_10 : decode u_M_isMonster.2.1 10 = .ok (.aload_n 0, 1) := by decide +kernel
theorem d_M_isMonster_11 : decode u_M_isMonster.2.1 11 = .ok (.getfield 49, 3) := by decide +kernel
theorem d_M_isMonster_14 : decode u_M_isMonster.2.1 14 = .ok (.bipush 8, 2) := by decide +kernel
theorem d_M_isMonster_16 : decode u_M_isMonster.2.1 16 = .ok (.iload_n 1, 1) := by decide +kernel
theorem d_M_isMonster_17 : decode u_M_isMonster.2.1 17 = .ok (.imul, 1) := by decide +kernel
theorem d_M_isMonster_18 : decode u_M_isMonster.2.1 18 = .ok (.iload_n 3, 1) := by decide +kernel
theorem d_M_isMonster_19 : decode u_M_isMonster.2.1 19 = .ok (.iadd, 1) := by decide +kernel
theorem d_M_isMonster_20 : decode u_M_isMonster.2.1 20 = .ok (.iaload, 1) := by decide +kernel
theorem d_M_isMonster_21 : decode u_M_isMonster.2.1 21 = .ok (.istore 4, 2) := by decide +kernel
theorem d_M_isMonster_23 : decode u_M_isMonster.2.1 23 = .ok (.iload_n 2, 1) := by decide +kernel
theorem d_M_isMonster_24 : decode u_M_isMonster.2.1 24 = .ok (.ifCond .ne 37, 3) := by decide +kernel
theorem d_M_isMonster_27 : decode u_M_isMonster.2.1 27 = .ok (.iload 4, 2) := by decide +kernel
theorem d_M_isMonster_29 : decode u_M_isMonster.2.1 29 = .ok (.sipush (-9999), 3) := by decide +kernel
theorem d_M_isMonster_32 : decode u_M_isMonster.2.1 32 = .ok (.if_icmp .eq 33, 3) := by decide +kernel
theorem d_M_isMonster_35 : decode u_M_isMonster.2.1 35 = .ok (.iload 4, 2) := by decide +kernel
theorem d_M_isMonster_37 : decode u_M_isMonster.2.1 37 = .ok (.aload_n 0, 1) := by decide +kernel
theorem d_M_isMonster_38 : decode u_M_isMonster.2.1 38 = .ok (.getfield 52, 3) := by decide +kernel
theorem d_M_isMonster_41 : decode u_M_isMonster.2.1 41 = .ok (.bipush 8, 2) := by decide +kernel
theorem d_M_isMonster_43 : decode u_M_isMonster.2.1 43 = .ok (.iload_n 1, 1) := by decide +kernel
theorem d_M_isMonster_44 : decode u_M_isMonster.2.1 44 = .ok (.imul, 1) := by decide +kernel
theorem d_M_isMonster_45 : decode u_M_isMonster.2.1 45 = .ok (.iload_n 3, 1) := by decide +kernel
theorem d_M_isMonster_46 : decode u_M_isMonster.2.1 46 = .ok (.iadd, 1) := by decide +kernel
theorem d_M_isMonster_47 : decode u_M_isMonster.2.1 47 = .ok (.iaload, 1) := by decide +kernel
theorem d_M_isMonster_48 : decode u_M_isMonster.2.1 48 = .ok (.isub, 1) := by decide +kernel
theorem d_M_isMonster_49 : decode u_M_isMonster.2.1 49 = .ok (.invokestatic 166, 3) := by decide +kernel
theorem d_M_isMonster_52 : decode u_M_isMonster.2.1 52 = .ok (.aload_n 0, 1) := by decide +kernel
theorem d_M_isMonster_53 : decode u_M_isMonster.2.1 53 = .ok (.getfield 34, 3) := by decide +kernel
theorem d_M_isMonster_56 : decode u_M_isMonster.2.1 56 = .ok (.iconst 0, 1) := by decide +kernel
theorem d_M_isMonster_57 : decode u_M_isMonster.2.1 57 = .ok (.iaload, 1) := by decide +kernel
theorem d_M_isMonster_58 : decode u_M_isMonster.2.1 58 = .ok (.if_icmp .le 7, 3) := by decide +kernel
theorem d_M_isMonster_61 : decode u_M_isMonster.2.1 61 = .ok (.iconst 1, 1) := by decide +kernel
theorem d_M_isMonster_62 : decode u_M_isMonster.2.1 62 = .ok (.goto 4, 3) := by decide +kernel
theorem d_M_isMonster_65 : decode u_M_isMonster.2.1 65 = .ok (.iconst 0, 1) := by decide +kernel
theorem d_M_isMonster_66 : decode u_M_isMonster.2.1 66 = .ok (.istore_n 2, 1) := by decide +kernel
theorem d_M_isMonster_67 : decode u_M_isMonster.2.1 67 = .ok (.iinc 3 1, 3) := by decide +kernel
theorem d_M_isMonster_70 : decode u_M_isMonster.2.1 70 = .ok (.goto (-66), 3) := by decide +kernel
theorem d_M_isMonster_73 : decode u_M_isMonster.2.1 73 = .ok (.iload_n 2, 1) := by decide +kernel
theorem d_M_isMonster_74 : decode u_M_isMonster.2.1 74 = .ok (.ireturn, 1) := by decide +kernel
theorem d_M_unlikeBy_0 : decode u_M_unlikeBy.2.1 0 = .ok (.iload_n 1, 1) := by decide +kernel
theorem d_M_unlikeBy_1 : decode u_M_unlikeBy.2.1 1 = .ok (.sipush (-9999), 3) := by decide +kernel
theorem d_M_unlikeBy_4 : decode u_M_unlikeBy.2.1 4 = .ok (.if_icmp .eq 10, 3) := by decide +kernel
theorem d_M_unlikeBy_7 : decode u_M_unlikeBy.2.1 7 = .ok (.iload_n 2, 1) := by decide +kernel
theorem d_M_unlikeBy_8 : decode u_M_unlikeBy.2.1 8 = .ok (.sipush (-9999), 3) := by decide +kernel
theorem d_M_unlikeBy_11 : decode u_M_unlikeBy.2.1 11 = .ok (.if_icmp .ne 19, 3) := by decide +kernel
theorem d_M_unlikeBy_14 : decode u_M_unlikeBy.2.1 14 = .ok (.iload_n 1, 1) := by decide +kernel
theorem d_M_unlikeBy_15 : decode u_M_unlikeBy.2.1 15 = .ok (.iload_n 2, 1) := by decide +kernel
theorem d_M_unlikeBy_16 : decode u_M_unlikeBy.2.1 16 = .ok (.if_icmp .ne 7, 3) := by decide +kernel
theorem d_M_unlikeBy_19 : decode u_M_unlikeBy.2.1 19 = .ok (.iconst 0, 1) := by decide +kernel
theorem d_M_unlikeBy_20 : decode u_M_unlikeBy.2.1 20 = .ok (.goto 9, 3) := by decide +kernel
theorem d_M_unlikeBy_23 : decode u_M_unlikeBy.2.1 23 = .ok (.aload_n 0, 1) := by decide +kernel
theorem d_M_unlikeBy_24 : decode u_M_unlikeBy.2.1 24 = .ok (.getfield 34, 3) := by decide +kernel
theorem d_M_unlikeBy_27 : decode u_M_unlikeBy.2.1 27 = .ok (.iconst 2, 1) := by decide +kernel
theorem d_M_unlikeBy_28 : decode u_M_unlikeBy.2.1 28 = .ok (.iaload, 1) := by decide +kernel
theorem d_M_unlikeBy_29 : decode u_M_unlikeBy.2.1 29 = .ok (.ireturn, 1) := by decide +kernel
theorem d_M_unlikeBy_30 : decode u_M_unlikeBy.2.1 30 = .ok (.iload_n 1, 1) := by decide +kernel
theorem d_M_unlikeBy_31 : decode u_M_unlikeBy.2.1 31 = .ok (.iload_n 2, 1) := by decide +kernel
theorem d_M_unlikeBy_32 : decode u_M_unlikeBy.2.1 32 = .ok (.isub, 1) := by decide +kernel
theorem d_M_unlikeBy_33 : decode u_M_unlikeBy.2.1 33 = .ok (.invokestatic 166, 3) := by decide +kernel
theorem d_M_unlikeBy_36 : decode u_M_unlikeBy.2.1 36 = .ok (.ireturn, 1) := by decide +kernel
theorem d_M_unlikeOf_0 : decode u_M_unlikeOf.2.1 0 = .ok (.iconst 0, 1) := by decide +kernel
theorem d_M_unlikeOf_1 : decode u_M_unlikeOf.2.1 1 = .ok (.istore_n 3, 1) := by decide +kernel
theorem d_M_unlikeOf_2 : decode u_M_unlikeOf.2.1 2 = .ok (.iconst 0, 1) := by decide +kernel
theorem d_M_unlikeOf_3 : decode u_M_unlikeOf.2.1 3 = .ok (.istore 4, 2) := by decide +kernel
theorem d_M_unlikeOf_5 : decode u_M_unlikeOf.2.1 5 = .ok (.iload 4, 2) := by decide +kernel
theorem d_M_unlikeOf_7 : decode u_M_unlikeOf.2.1 7 = .ok (.bipush 8, 2) := by decide +kernel
theorem d_M_unlikeOf_9 : decode u_M_unlikeOf.2.1 9 = .ok (.if_icmp .ge 40, 3) := by decide +kernel
theorem d_M_unlikeOf_12 : decode u_M_unlikeOf.2.1 12 = .ok (.iload_n 3, 1) := by decide +kernel
theorem d_M_unlikeOf_13 : decode u_M_unlikeOf.2.1 13 = .ok (.aload_n 0, 1) := by decide +kernel
theorem d_M_unlikeOf_14 : decode u_M_unlikeOf.2.1 14 = .ok (.aload_n 0, 1) := by decide +kernel
theorem d_M_unlikeOf_15 : decode u_M_unlikeOf.2.1 15 = .ok (.getfield 49, 3) := by decide +kernel
theorem d_M_unlikeOf_18 : decode u_M_unlikeOf.2.1 18 = .ok (.bipush 8, 2) := by decide +kernel
theorem d_M_unlikeOf_20 : decode u_M_unlikeOf.2.1 20 = .ok (.iload_n 1, 1) := by decide +kernel
theorem d_M_unlikeOf_21 : decode u_M_unlikeOf.2.1 21 = .ok (.imul, 1) := by decide +kernel
theorem d_M_unlikeOf_22 : decode u_M_unlikeOf.2.1 22 = .ok (.iload 4, 2) := by decide +kernel
theorem d_M_unlikeOf_24 : decode u_M_unlikeOf.2.1 24 = .ok (.iadd, 1) := by decide +kernel
theorem d_M_unlikeOf_25 : decode u_M_unlikeOf.2.1 25 = .ok (.iaload, 1) := by decide +kernel
theorem d_M_unlikeOf_26 : decode u_M_unlikeOf.2.1 26 = .ok (.aload_n 0, 1) := by decide +kernel
theorem d_M_unlikeOf_27 : decode u_M_unlikeOf.2.1 27 = .ok (.getfield 49, 3) := by decide +kernel
theorem d_M_unlikeOf_30 : decode u_M_unlikeOf.2.1 30 = .ok (.bipush 8, 2) := by decide +kernel
theorem d_M_unlikeOf_32 : decode u_M_unlikeOf.2.1 32 = .ok (.iload_n 2, 1) := by decide +kernel
theorem d_M_unlikeOf_33 : decode u_M_unlikeOf.2.1 33 = .ok (.imul, 1) := by decide +kernel
theorem d_M_unlikeOf_34 : decode u_M_unlikeOf.2.1 34 = .ok (.iload 4, 2) := by decide +kernel
theorem d_M_unlikeOf_36 : decode u_M_unlikeOf.2.1 36 = .ok (.iadd, 1) := by decide +kernel
theorem d_M_unlikeOf_37 : decode u_M_unlikeOf.2.1 37 = .ok (.iaload, 1) := by decide +kernel
theorem d_M_unlikeOf_38 : decode u_M_unlikeOf.2.1 38 = .ok (.invokevirtual 169, 3) := by decide +kernel
theorem d_M_unlikeOf_41 : decode u_M_unlikeOf.2.1 41 = .ok (.iadd, 1) := by decide +kernel
theorem d_M_unlikeOf_42 : decode u_M_unlikeOf.2.1 42 = .ok (.istore_n 3, 1) := by decide +kernel
theorem d_M_unlikeOf_43 : decode u_M_unlikeOf.2.1 43 = .ok (.iinc 4 1, 3) := by decide +kernel
theorem d_M_unlikeOf_46 : decode u_M_unlikeOf.2.1 46 = .ok (.goto (-41), 3) := by decide +kernel
theorem d_M_unlikeOf_49 : decode u_M_unlikeOf.2.1 49 = .ok (.iload_n 3, 1) := by decide +kernel
theorem d_M_unlikeOf_50 : decode u_M_unlikeOf.2.1 50 = .ok (.ireturn, 1) := by decide +kernel
theorem d_M_unlike_0 : decode u_M_unlike.2.1 0 = .ok (.aload_n 0, 1) := by decide +kernel
theorem d_M_unlike_1 : decode u_M_unlike.2.1 1 = .ok (.iload_n 1, 1) := by decide +kernel
theorem d_M_unlike_2 : decode u_M_unlike.2.1 2 = .ok (.invokevirtual 163, 3) := by decide +kernel
theorem d_M_unlike_5 : decode u_M_unlike.2.1 5 = .ok (.ifCond .eq 20, 3) := by decide +kernel
theorem d_M_unlike_8 : decode u_M_unlike.2.1 8 = .ok (.aload_n 0, 1) := by decide +kernel
theorem d_M_unlike_9 : decode u_M_unlike.2.1 9 = .ok (.iload_n 2, 1) := by decide +kernel
theorem d_M_unlike_10 : decode u_M_unlike.2.1 10 = .ok (.invokevirtual 163, 3) := by decide +kernel
theorem d_M_unlike_13 : decode u_M_unlike.2.1 13 = .ok (.ifCond .eq 12, 3) := by decide +kernel
theorem d_M_unlike_16 : decode u_M_unlike.2.1 16 = .ok (.aload_n 0, 1) := by decide +kernel
theorem d_M_unlike_17 : decode u_M_unlike.2.1 17 = .ok (.iload_n 1, 1) := by decide +kernel
theorem d_M_unlike_18 : decode u_M_unlike.2.1 18 = .ok (.iload_n 2, 1) := by decide +kernel
theorem d_M_unlike_19 : decode u_M_unlike.2.1 19 = .ok (.invokevirtual 172, 3) := by decide +kernel
theorem d_M_unlike_22 : decode u_M_unlike.2.1 22 = .ok (.goto 5, 3) := by decide +kernel
theorem d_M_unlike_25 : decode u_M_unlike.2.1 25 = .ok (.bipush (-2), 2) := by decide +kernel
theorem d_M_unlike_27 : decode u_M_unlike.2.1 27 = .ok (.ireturn, 1) := by decide +kernel
theorem d_M_fromOf_0 : decode u_M_fromOf.2.1 0 = .ok (.iconst (-1), 1) := by decide +kernel
theorem d_M_fromOf_1 : decode u_M_fromOf.2.1 1 = .ok (.istore_n 2, 1) := by decide +kernel
theorem d_M_fromOf_2 : decode u_M_fromOf.2.1 2 = .ok (.iconst 0, 1) := by decide +kernel
theorem d_M_fromOf_3 : decode u_M_fromOf.2.1 3 = .ok (.istore_n 3, 1) := by decide +kernel
theorem d_M_fromOf_4 : decode u_M_fromOf.2.1 4 = .ok (.iload_n 3, 1) := by decide +kernel
theorem d_M_fromOf_5 : decode u_M_fromOf.2.1 5 = .ok (.iload_n 1, 1) := by decide +kernel
theorem d_M_fromOf_6 : decode u_M_fromOf.2.1 6 = .ok (.if_icmp .ge 62, 3) := by decide +kernel
theorem d_M_fromOf_9 : decode u_M_fromOf.2.1 9 = .ok (.aload_n 0, 1) := by decide +kernel
theorem d_M_fromOf_10 : decode u_M_fromOf.2.1 10 = .ok (.getfield 37, 3) := by decide +kernel
theorem d_M_fromOf_13 : decode u_M_fromOf.2.1 13 = .ok (.iload_n 3, 1) := by decide +kernel
theorem d_M_fromOf_14 : decode u_M_fromOf.2.1 14 = .ok (.iaload, 1) := by decide +kernel
theorem d_M_fromOf_15 : decode u_M_fromOf.2.1 15 = .ok (.aload_n 0, 1) := by decide +kernel
theorem d_M_fromOf_16 : decode u_M_fromOf.2.1 16 = .ok (.getfield 37, 3) := by decide +kernel
theorem d_M_fromOf_19 : decode u_M_fromOf.2.1 19 = .ok (.iload_n 1, 1) := by decide +kernel
theorem d_M_fromOf_20 : decode u_M_fromOf.2.1 20 = .ok (.iaload, 1) := by decide +kernel
theorem d_M_fromOf_21 : decode u_M_fromOf.2.1 21 = .ok (.if_icmp .ne 7, 3) := by decide +kernel
theorem d_M_fromOf_24 : decode u_M_fromOf.2.1 24 = .ok (.iconst 1, 1) := by decide +kernel
theorem d_M_fromOf_25 : decode u_M_fromOf.2.1 25 = .ok (.goto 4, 3) := by decide +kernel
theorem d_M_fromOf_28 : decode u_M_fromOf.2.1 28 = .ok (.iconst 0, 1) := by decide +kernel
theorem d_M_fromOf_29 : decode u_M_fromOf.2.1 29 = .ok (.istore 4, 2) := by decide +kernel
theorem d_M_fromOf_31 : decode u_M_fromOf.2.1 31 = .ok (.iload 4, 2) := by decide +kernel
theorem d_M_fromOf_33 : decode u_M_fromOf.2.1 33 = .ok (.ifCond .eq 27, 3) := by decide +kernel
theorem d_M_fromOf_36 : decode u_M_fromOf.2.1 36 = .ok (.iload_n 2, 1) := by decide +kernel
theorem d_M_fromOf_37 : decode u_M_fromOf.2.1 37 = .ok (.iconst (-1), 1) := by decide +kernel
theorem d_M_fromOf_38 : decode u_M_fromOf.2.1 38 = .ok (.if_icmp .eq 18, 3) := by decide +kernel
theorem d_M_fromOf_41 : decode u_M_fromOf.2.1 41 = .ok (.aload_n 0, 1) := by decide +kernel
theorem d_M_fromOf_42 : decode u_M_fromOf.2.1 42 = .ok (.iload_n 3, 1) := by decide +kernel
theorem d_M_fromOf_43 : decode u_M_fromOf.2.1 43 = .ok (.iload_n 1, 1) := by decide +kernel
theorem d_M_fromOf_44 : decode u_M_fromOf.2.1 44 = .ok (.invokevirtual 172, 3) := by decide +kernel
theorem d_M_fromOf_47 : decode u_M_fromOf.2.1 47 = .ok (.aload_n 0, 1) := by decide +kernel
theorem d_M_fromOf_48 : decode u_M_fromOf.2.1 48 = .ok (.iload_n 2, 1) := by decide +kernel
theorem d_M_fromOf_49 : decode u_M_fromOf.2.1 49 = .ok (.iload_n 1, 1) := by decide +kernel
theorem d_M_fromOf_50 : decode u_M_fromOf.2.1 50 = .ok (.invokevirtual 172, 3) := by decide +kernel
theorem d_M_fromOf_53 : decode u_M_fromOf.2.1 53 = .ok (.if_icmp .ge 7, 3) := by decide +kernel
theorem d_M_fromOf_56 : decode u_M_fromOf.2.1 56 = .ok (.iload_n 3, 1) := by decide +kernel
theorem d_M_fromOf_57 : decode u_M_fromOf.2.1 57 = .ok (.goto 4, 3) := by decide +kernel
theorem d_M_fromOf_60 : decode u_M_fromOf.2.1 60 = .ok (.iload_n 2, 1) := by decide +kernel
theorem d_M_fromOf_61 : decode u_M_fromOf.2.1 61 = .ok (.istore_n 2, 1) := by decide +kernel
theorem d_M_fromOf_62 : decode u_M_fromOf.2.1 62 = .ok (.iinc 3 1, 3) := by decide +kernel
theorem d_M_fromOf_65 : decode u_M_fromOf.2.1 65 = .ok (.goto (-61), 3) := by decide +kernel
theorem d_M_fromOf_68 : decode u_M_fromOf.2.1 68 = .ok (.iload_n 2, 1) := by decide +kernel
theorem d_M_fromOf_69 : decode u_M_fromOf.2.1 69 = .ok (.ireturn, 1) := by decide +kernel
theorem d_M_agesOf_0 : decode u_M_agesOf.2.1 0 = .ok (.iconst 0, 1) := by decide +kernel
theorem d_M_agesOf_1 : decode u_M_agesOf.2.1 1 = .ok (.istore_n 2, 1) := by decide +kernel
theorem d_M_agesOf_2 : decode u_M_agesOf.2.1 2 = .ok (.aload_n 0, 1) := by decide +kernel
theorem d_M_agesOf_3 : decode u_M_agesOf.2.1 3 = .ok (.iload_n 1, 1) := by decide +kernel
theorem d_M_agesOf_4 : decode u_M_agesOf.2.1 4 = .ok (.invokevirtual 175, 3) := by decide +kernel
theorem d_M_agesOf_7 : decode u_M_agesOf.2.1 7 = .ok (.istore_n 3, 1) := by decide +kernel
theorem d_M_agesOf_8 : decode u_M_agesOf.2.1 8 = .ok (.iload_n 3, 1) := by decide +kernel
theorem d_M_agesOf_9 : decode u_M_agesOf.2.1 9 = .ok (.iconst (-1), 1) := by decide +kernel
theorem d_M_agesOf_10 : decode u_M_agesOf.2.1 10 = .ok (.if_icmp .eq 15, 3) := by decide +kernel
theorem d_M_agesOf_13 : decode u_M_agesOf.2.1 13 = .ok (.iinc 2 1, 3) := by decide +kernel
theorem d_M_agesOf_16 : decode u_M_agesOf.2.1 16 = .ok (.aload_n 0, 1) := by decide +kernel
theorem d_M_agesOf_17 : decode u_M_agesOf.2.1 17 = .ok (.iload_n 3, 1) := by decide +kernel
theorem d_M_agesOf_18 : decode u_M_agesOf.2.1 18 = .ok (.invokevirtual 175, 3) := by decide +kernel
theorem d_M_agesOf_21 : decode u_M_agesOf.2.1 21 = .ok (.istore_n 3, 1) := by decide +kernel
theorem d_M_agesOf_22 : decode u_M_agesOf.2.1 22 = .ok (.goto (-14), 3) := by decide +kernel
theorem d_M_agesOf_25 : decode u_M_agesOf.2.1 25 = .ok (.iload_n 2, 1) := by decide +kernel
theorem d_M_agesOf_26 : decode u_M_agesOf.2.1 26 = .ok (.ireturn, 1) := by decide +kernel
theorem d_M_whoseOf_0 : decode u_M_whoseOf.2.1 0 = .ok (.iconst 0, 1) := by decide +kernel
theorem d_M_whoseOf_1 : decode u_M_whoseOf.2.1 1 = .ok (.istore_n 2, 1) := by decide +kernel
theorem d_M_whoseOf_2 : decode u_M_whoseOf.2.1 2 = .ok (.iconst 0, 1) := by decide +kernel
theorem d_M_whoseOf_3 : decode u_M_whoseOf.2.1 3 = .ok (.istore_n 3, 1) := by decide +kernel
theorem d_M_whoseOf_4 : decode u_M_whoseOf.2.1 4 = .ok (.iconst 0, 1) := by decide +kernel
theorem d_M_whoseOf_5 : decode u_M_whoseOf.2.1 5 = .ok (.istore 4, 2) := by decide +kernel
theorem d_M_whoseOf_7 : decode u_M_whoseOf.2.1 7 = .ok (.iload 4, 2) := by decide +kernel
theorem d_M_whoseOf_9 : decode u_M_whoseOf.2.1 9 = .ok (.iconst 4, 1) := by decide +kernel
theorem d_M_whoseOf_10 : decode u_M_whoseOf.2.1 10 = .ok (.if_icmp .ge 116, 3) := by decide +kernel
theorem d_M_whoseOf_13 : decode u_M_whoseOf.2.1 13 = .ok (.aload_n 0, 1) := by decide +kernel
theorem d_M_whoseOf_14 : decode u_M_whoseOf.2.1 14 = .ok (.iload 4, 2) := by decide +kernel
theorem d_M_whoseOf_16 : decode u_M_whoseOf.2.1 16 = .ok (.invokevirtual 146, 3) := by decide +kernel
theorem d_M_whoseOf_19 : decode u_M_whoseOf.2.1 19 = .ok (.pop, 1) := by decide +kernel
theorem d_M_whoseOf_20 : decode u_M_whoseOf.2.1 20 = .ok (.iconst 0, 1) := by decide +kernel
theorem d_M_whoseOf_21 : decode u_M_whoseOf.2.1 21 = .ok (.istore 5, 2) := by decide +kernel
theorem d_M_whoseOf_23 : decode u_M_whoseOf.2.1 23 = .ok (.iconst 0, 1) := by decide +kernel
theorem d_M_whoseOf_24 : decode u_M_whoseOf.2.1 24 = .ok (.istore 6, 2) := by decide +kernel
theorem d_M_whoseOf_26 : decode u_M_whoseOf.2.1 26 = .ok (.iload 6, 2) := by decide +kernel
theorem d_M_whoseOf_28 : decode u_M_whoseOf.2.1 28 = .ok (.bipush 8, 2) := by decide +kernel
theorem d_M_whoseOf_30 : decode u_M_whoseOf.2.1 30 = .ok (.if_icmp .ge 73, 3) := by decide +kernel
theorem d_M_whoseOf_33 : decode u_M_whoseOf.2.1 33 = .ok (.aload_n 0, 1) := by decide +kernel
theorem d_M_whoseOf_34 : decode u_M_whoseOf.2.1 34 = .ok (.getfield 22, 3) := by decide +kernel
theorem d_M_whoseOf_37 : decode u_M_whoseOf.2.1 37 = .ok (.bipush 8, 2) := by decide +kernel
theorem d_M_whoseOf_39 : decode u_M_whoseOf.2.1 39 = .ok (.aload_n 0, 1) := by decide +kernel
theorem d_M_whoseOf_40 : decode u_M_whoseOf.2.1 40 = .ok (.getfield 37, 3) := by decide +kernel
theorem d_M_whoseOf_43 : decode u_M_whoseOf.2.1 43 = .ok (.iload_n 1, 1) := by decide +kernel
theorem d_M_whoseOf_44 : decode u_M_whoseOf.2.1 44 = .ok (.iaload, 1) := by decide +kernel
theorem d_M_whoseOf_45 : decode u_M_whoseOf.2.1 45 = .ok (.imul, 1) := by decide +kernel
theorem d_M_whoseOf_46 : decode u_M_whoseOf.2.1 46 = .ok (.iload 6, 2) := by decide +kernel
theorem d_M_whoseOf_48 : decode u_M_whoseOf.2.1 48 = .ok (.iadd, 1) := by decide +kernel
theorem d_M_whoseOf_49 : decode u_M_whoseOf.2.1 49 = .ok (.iaload, 1) := by decide +kernel
theorem d_M_whoseOf_50 : decode u_M_whoseOf.2.1 50 = .ok (.aload_n 0, 1) := by decide +kernel
theorem d_M_whoseOf_51 : decode u_M_whoseOf.2.1 51 = .ok (.getfield 52, 3) := by decide +kernel
theorem d_M_whoseOf_54 : decode u_M_whoseOf.2.1 54 = .ok (.bipush 8, 2) := by decide +kernel
theorem d_M_whoseOf_56 : decode u_M_whoseOf.2.1 56 = .ok (.iload_n 1, 1) := by decide +kernel
theorem d_M_whoseOf_57 : decode u_M_whoseOf.2.1 57 = .ok (.imul, 1) := by decide +kernel
theorem d_M_whoseOf_58 : decode u_M_whoseOf.2.1 58 = .ok (.iload 6, 2) := by decide +kernel
theorem d_M_whoseOf_60 : decode u_M_whoseOf.2.1 60 = .ok (.iadd, 1) := by decide +kernel
theorem d_M_whoseOf_61 : decode u_M_whoseOf.2.1 61 = .ok (.iaload, 1) := by decide +kernel
theorem d_M_whoseOf_62 : decode u_M_whoseOf.2.1 62 = .ok (.aload_n 0, 1) := by decide +kernel
theorem d_M_whoseOf_63 : decode u_M_whoseOf.2.1 63 = .ok (.getfield 31, 3) := by decide +kernel
theorem d_M_whoseOf_66 : decode u_M_whoseOf.2.1 66 = .ok (.iload 6, 2) := by decide +kernel
theorem d_M_whoseOf_68 : decode u_M_whoseOf.2.1 68 = .ok (.iaload, 1) := by decide +kernel
theorem d_M_whoseOf_69 : decode u_M_whoseOf.2.1 69 = .ok (.invokestatic 152, 3) := by decide +kernel
theorem d_M_whoseOf_72 : decode u_M_whoseOf.2.1 72 = .ok (.istore 7, 2) := by decide +kernel
theorem d_M_whoseOf_74 : decode u_M_whoseOf.2.1 74 = .ok (.iload 5, 2) := by decide +kernel
theorem d_M_whoseOf_76 : decode u_M_whoseOf.2.1 76 = .ok (.aload_n 0, 1) := by decide +kernel
theorem d_M_whoseOf_77 : decode u_M_whoseOf.2.1 77 = .ok (.iload 7, 2) := by decide +kernel
theorem d_M_whoseOf_79 : decode u_M_whoseOf.2.1 79 = .ok (.aload_n 0, 1) := by decide +kernel
theorem d_M_whoseOf_80 : decode u_M_whoseOf.2.1 80 = .ok (.getfield 49, 3) := by decide +kernel
theorem d_M_whoseOf_83 : decode u_M_whoseOf.2.1 83 = .ok (.bipush 8, 2) := by decide +kernel
theorem d_M_whoseOf_85 : decode u_M_whoseOf.2.1 85 = .ok (.iload_n 1, 1) := by decide +kernel
theorem d_M_whoseOf_86 : decode u_M_whoseOf.2.1 86 = .ok (.imul, 1) := by decide +kernel
theorem d_M_whoseOf_87 : decode u_M_whoseOf.2.1 87 = .ok (.iload 6, 2) := by decide +kernel
theorem d_M_whoseOf_89 : decode u_M_whoseOf.2.1 89 = .ok (.iadd, 1) := by decide +kernel
theorem d_M_whoseOf_90 : decode u_M_whoseOf.2.1 90 = .ok (.iaload, 1) := by decide +kernel
theorem d_M_whoseOf_91 : decode u_M_whoseOf.2.1 91 = .ok (.invokevirtual 169, 3) := by decide +kernel
theorem d_M_whoseOf_94 : decode u_M_whoseOf.2.1 94 = .ok (.iadd, 1) := by decide +kernel
theorem d_M_whoseOf_95 : decode u_M_whoseOf.2.1 95 = .ok (.istore 5, 2) := by decide +kernel
theorem d_M_whoseOf_97 : decode u_M_whoseOf.2.1 97 = .ok (.iinc 6 1, 3) := by decide +kernel
theorem d_M_whoseOf_100 : decode u_M_whoseOf.2.1 100 = .ok (.goto (-74), 3) := by decide +kernel
theorem d_M_whoseOf_103 : decode u_M_whoseOf.2.1 103 = .ok (.iload 4, 2) := by decide +kernel
theorem d_M_whoseOf_105 : decode u_M_whoseOf.2.1 105 = .ok (.ifCond .eq 9, 3) := by decide +kernel
theorem d_M_whoseOf_108 : decode u_M_whoseOf.2.1 108 = .ok (.iload 5, 2) := by decide +kernel
theorem d_M_whoseOf_110 : decode u_M_whoseOf.2.1 110 = .ok (.iload_n 3, 1) := by decide +kernel
theorem d_M_whoseOf_111 : decode u_M_whoseOf.2.1 111 = .ok (.if_icmp .ge 9, 3) := by decide +kernel
theorem d_M_whoseOf_114 : decode u_M_whoseOf.2.1 114 = .ok (.iload 4, 2) := by decide +kernel
theorem d_M_whoseOf_116 : decode u_M_whoseOf.2.1 116 = .ok (.istore_n 2, 1) := by decide +kernel
theorem d_M_whoseOf_117 : decode u_M_whoseOf.2.1 117 = .ok (.iload 5, 2) := by decide +kernel
theorem d_M_whoseOf_119 : decode u_M_whoseOf.2.1 119 = .ok (.istore_n 3, 1) := by decide +kernel
theorem d_M_whoseOf_120 : decode u_M_whoseOf.2.1 120 = .ok (.iinc 4 1, 3) := by decide +kernel
theorem d_M_whoseOf_123 : decode u_M_whoseOf.2.1 123 = .ok (.goto (-116), 3) := by decide +kernel
theorem d_M_whoseOf_126 : decode u_M_whoseOf.2.1 126 = .ok (.iload_n 2, 1) := by decide +kernel
theorem d_M_whoseOf_127 : decode u_M_whoseOf.2.1 127 = .ok (.ireturn, 1) := by decide +kernel
theorem d_M_aboutOf_0 : decode u_M_aboutOf.2.1 0 = .ok (.iload_n 2, 1) := by decide +kernel
theorem d_M_aboutOf_1 : decode u_M_aboutOf.2.1 1 = .ok (.tableswitch 96 0 6 #[43, 50, 57, 64, 78, 84, 90], 43) := by decide +kernel
theorem d_M_aboutOf_44 : decode u_M_aboutOf.2.1 44 = .ok (.aload_n 0, 1) := by decide +kernel
theorem d_M_aboutOf_45 : decode u_M_aboutOf.2.1 45 = .ok (.getfield 37, 3) := by decide +kernel
theorem d_M_aboutOf_48 : decode u_M_aboutOf.2.1 48 = .ok (.iload_n 1, 1) := by decide +kernel
theorem d_M_aboutOf_49 : decode u_M_aboutOf.2.1 49 = .ok (.iaload, 1) := by decide +kernel
theorem d_M_aboutOf_50 : decode u_M_aboutOf.2.1 50 = .ok (.ireturn, 1) := by decide +kernel
theorem d_M_aboutOf_51 : decode u_M_aboutOf.2.1 51 = .ok (.aload_n 0, 1) := by decide +kernel
theorem d_M_aboutOf_52 : decode u_M_aboutOf.2.1 52 = .ok (.getfield 40, 3) := by decide +kernel
theorem d_M_aboutOf_55 : decode u_M_aboutOf.2.1 55 = .ok (.iload_n 1, 1) := by decide +kernel
theorem d_M_aboutOf_56 : decode u_M_aboutOf.2.1 56 = .ok (.iaload, 1) := by decide +kernel
theorem d_M_aboutOf_57 : decode u_M_aboutOf.2.1 57 = .ok (.ireturn, 1) := by decide +kernel
theorem d_M_aboutOf_58 : decode u_M_aboutOf.2.1 58 = .ok (.aload_n 0, 1) := by decide +kernel
theorem d_M_aboutOf_59 : decode u_M_aboutOf.2.1 59 = .ok (.getfield 43, 3) := by decide +kernel
theorem d_M_aboutOf_62 : decode u_M_aboutOf.2.1 62 = .ok (.iload_n 1, 1) := by decide +kernel
theorem d_M_aboutOf_63 : decode u_M_aboutOf.2.1 63 = .ok (.iaload, 1) := by decide +kernel
theorem d_M_aboutOf_64 : decode u_M_aboutOf.2.1 64 = .ok (.ireturn, 1) := by decide +kernel
theorem d_M_aboutOf_65 : decode u_M_aboutOf.2.1 65 = .ok (.aload_n 0, 1) := by decide +kernel
theorem d_M_aboutOf_66 : decode u_M_aboutOf.2.1 66 = .ok (.iload_n 1, 1) := by decide +kernel
theorem d_M_aboutOf_67 : decode u_M_aboutOf.2.1 67 = .ok (.invokevirtual 178, 3) := by decide +kernel
theorem d_M_aboutOf_70 : decode u_M_aboutOf.2.1 70 = .ok (.ifCond .eq 7, 3) := by decide +kernel
theorem d_M_aboutOf_73 : decode u_M_aboutOf.2.1 73 = .ok (.iconst 1, 1) := by decide +kernel
theorem d_M_aboutOf_74 : decode u_M_aboutOf.2.1 74 = .ok (.goto 4, 3) := by decide +kernel
theorem d_M_aboutOf_77 : decode u_M_aboutOf.2.1 77 = .ok (.iconst 0, 1) := by decide +kernel
theorem d_M_aboutOf_78 : decode u_M_aboutOf.2.1 78 = .ok (.ireturn, 1) := by decide +kernel
theorem d_M_aboutOf_79 : decode u_M_aboutOf.2.1 79 = .ok (.aload_n 0, 1) := by decide +kernel
theorem d_M_aboutOf_80 : decode u_M_aboutOf.2.1 80 = .ok (.iload_n 1, 1) := by decide +kernel
theorem d_M_aboutOf_81 : decode u_M_aboutOf.2.1 81 = .ok (.invokevirtual 175, 3) := by decide +kernel
theorem d_M_aboutOf_84 : decode u_M_aboutOf.2.1 84 = .ok (.ireturn, 1) := by decide +kernel
theorem d_M_aboutOf_85 : decode u_M_aboutOf.2.1 85 = .ok (.aload_n 0, 1) := by decide +kernel
theorem d_M_aboutOf_86 : decode u_M_aboutOf.2.1 86 = .ok (.iload_n 1, 1) := by decide +kernel
theorem d_M_aboutOf_87 : decode u_M_aboutOf.2.1 87 = .ok (.invokevirtual 181, 3) := by decide +kernel
theorem d_M_aboutOf_90 : decode u_M_aboutOf.2.1 90 = .ok (.ireturn, 1) := by decide +kernel
theorem d_M_aboutOf_91 : decode u_M_aboutOf.2.1 91 = .ok (.aload_n 0, 1) := by decide +kernel
theorem d_M_aboutOf_92 : decode u_M_aboutOf.2.1 92 = .ok (.iload_n 1, 1) := by decide +kernel
theorem d_M_aboutOf_93 : decode u_M_aboutOf.2.1 93 = .ok (.invokevirtual 184, 3) := by decide +kernel
theorem d_M_aboutOf_96 : decode u_M_aboutOf.2.1 96 = .ok (.ireturn, 1) := by decide +kernel
theorem d_M_aboutOf_97 : decode u_M_aboutOf.2.1 97 = .ok (.aload_n 0, 1) := by decide +kernel
theorem d_M_aboutOf_98 : decode u_M_aboutOf.2.1 98 = .ok (.getfield 46, 3) := by decide +kernel
theorem d_M_aboutOf_101 : decode u_M_aboutOf.2.1 101 = .ok (.iload_n 1, 1) := by decide +kernel
theorem d_M_aboutOf_102 : decode u_M_aboutOf.2.1 102 = .ok (.iaload, 1) := by decide +kernel
theorem d_M_aboutOf_103 : decode u_M_aboutOf.2.1 103 = .ok (.ireturn, 1) := by decide +kernel
theorem d_M_about_0 : decode u_M_about.2.1 0 = .ok (.aload_n 0, 1) := by decide +kernel
theorem d_M_about_1 : decode u_M_about.2.1 1 = .ok (.iload_n 1, 1) := by decide +kernel
theorem d_M_about_2 : decode u_M_about.2.1 2 = .ok (.invokevirtual 163, 3) := by decide +kernel
theorem d_M_about_5 : decode u_M_about.2.1 5 = .ok (.ifCond .eq 24, 3) := by decide +kernel
theorem d_M_about_8 : decode u_M_about.2.1 8 = .ok (.iload_n 2, 1) := by decide +kernel
theorem d_M_about_9 : decode u_M_about.2.1 9 = .ok (.i2l, 1) := by decide +kernel
theorem d_M_about_10 : decode u_M_about.2.1 10 = .ok (.lconst 0, 1) := by decide +kernel
theorem d_M_about_11 : decode u_M_about.2.1 11 = .ok (.ldc2_w 101, 3) := by decide +kernel
theorem d_M_about_14 : decode u_M_about.2.1 14 = .ok (.invokestatic 69, 3) := by decide +kernel
theorem d_M_about_17 : decode u_M_about.2.1 17 = .ok (.ifCond .eq 12, 3) := by decide +kernel
theorem d_M_about_20 : decode u_M_about.2.1 20 = .ok (.aload_n 0, 1) := by decide +kernel
theorem d_M_about_21 : decode u_M_about.2.1 21 = .ok (.iload_n 1, 1) := by decide +kernel
theorem d_M_about_22 : decode u_M_about.2.1 22 = .ok (.iload_n 2, 1) := by decide +kernel
theorem d_M_about_23 : decode u_M_about.2.1 23 = .ok (.invokevirtual 187, 3) := by decide +kernel
theorem d_M_about_26 : decode u_M_about.2.1 26 = .ok (.goto 5, 3) := by decide +kernel
theorem d_M_about_29 : decode u_M_about.2.1 29 = .ok (.bipush (-2), 2) := by decide +kernel
theorem d_M_about_31 : decode u_M_about.2.1 31 = .ok (.ireturn, 1) := by decide +kernel
theorem d_M_isKnower_0 : decode u_M_isKnower.2.1 0 = .ok (.iload_n 1, 1) := by decide +kernel
theorem d_M_isKnower_1 : decode u_M_isKnower.2.1 1 = .ok (.i2l, 1) := by decide +kernel
theorem d_M_isKnower_2 : decode u_M_isKnower.2.1 2 = .ok (.lconst 0, 1) := by decide +kernel
theorem d_M_isKnower_3 : decode u_M_isKnower.2.1 3 = .ok (.aload_n 0, 1) := by decide +kernel
theorem d_M_isKnower_4 : decode u_M_isKnower.2.1 4 = .ok (.getfield 190, 3) := by decide +kernel
theorem d_M_isKnower_7 : decode u_M_isKnower.2.1 7 = .ok (.iconst 1, 1) := by decide +kernel
theorem d_M_isKnower_8 : decode u_M_isKnower.2.1 8 = .ok (.isub, 1) := by decide +kernel
theorem d_M_isKnower_9 : decode u_M_isKnower.2.1 9 = .ok (.i2l, 1) := by decide +kernel
theorem d_M_isKnower_10 : decode u_M_isKnower.2.1 10 = .ok (.invokestatic 69, 3) := by decide +kernel
theorem d_M_isKnower_13 : decode u_M_isKnower.2.1 13 = .ok (.ireturn, 1) := by decide +kernel
theorem d_M_doesKnow_0 : decode u_M_doesKnow.2.1 0 = .ok (.aload_n 0, 1) := by decide +kernel
theorem d_M_doesKnow_1 : decode u_M_doesKnow.2.1 1 = .ok (.getfield 55, 3) := by decide +kernel
theorem d_M_doesKnow_4 : decode u_M_doesKnow.2.1 4 = .ok (.iload_n 1, 1) := by decide +kernel
theorem d_M_doesKnow_5 : decode u_M_doesKnow.2.1 5 = .ok (.iaload, 1) := by decide +kernel
theorem d_M_doesKnow_6 : decode u_M_doesKnow.2.1 6 = .ok (.iload_n 2, 1) := by decide +kernel
theorem d_M_doesKnow_7 : decode u_M_doesKnow.2.1 7 = .ok (.ishr, 1) := by decide +kernel
theorem d_M_doesKnow_8 : decode u_M_doesKnow.2.1 8 = .ok (.iconst 1, 1) := by decide +kernel
theorem d_M_doesKnow_9 : decode u_M_doesKnow.2.1 9 = .ok (.iand, 1) := by decide +kernel
theorem d_M_doesKnow_10 : decode u_M_doesKnow.2.1 10 = .ok (.iconst 1, 1) := by decide +kernel
theorem d_M_doesKnow_11 : decode u_M_doesKnow.2.1 11 = .ok (.if_icmp .ne 7, 3) := by decide +kernel
theorem d_M_doesKnow_14 : decode u_M_doesKnow.2.1 14 = .ok (.iconst 1, 1) := by decide +kernel
theorem d_M_doesKnow_15 : decode u_M_doesKnow.2.1 15 = .ok (.goto 4, 3) := by decide +kernel
theorem d_M_doesKnow_18 : decode u_M_doesKnow.2.1 18 = .ok (.iconst 0, 1) := by decide +kernel
theorem d_M_doesKnow_19 : decode u_M_doesKnow.2.1 19 = .ok (.ireturn, 1) := by decide +kernel
theorem d_M_knower_0 : decode u_M_knower.2.1 0 = .ok (.aload_n 0, 1) := by decide +kernel
theorem d_M_knower_1 : decode u_M_knower.2.1 1 = .ok (.iload_n 1, 1) := by decide +kernel
theorem d_M_knower_2 : decode u_M_knower.2.1 2 = .ok (.invokevirtual 114, 3) := by decide +kernel
theorem d_M_knower_5 : decode u_M_knower.2.1 5 = .ok (.ifCond .eq 21, 3) := by decide +kernel
theorem d_M_knower_8 : decode u_M_knower.2.1 8 = .ok (.iload_n 2, 1) := by decide +kernel
theorem d_M_knower_9 : decode u_M_knower.2.1 9 = .ok (.i2l, 1) := by decide +kernel
theorem d_M_knower_10 : decode u_M_knower.2.1 10 = .ok (.lconst 0, 1) := by decide +kernel
theorem d_M_knower_11 : decode u_M_knower.2.1 11 = .ok (.iconst 1, 1) := by decide +kernel
theorem d_M_knower_12 : decode u_M_knower.2.1 12 = .ok (.aload_n 0, 1) := by decide +kernel
theorem d_M_knower_13 : decode u_M_knower.2.1 13 = .ok (.getfield 98, 3) := by decide +kernel
theorem d_M_knower_16 : decode u_M_knower.2.1 16 = .ok (.ishl, 1) := by decide +kernel
theorem d_M_knower_17 : decode u_M_knower.2.1 17 = .ok (.iconst 1, 1) := by decide +kernel
theorem d_M_knower_18 : decode u_M_knower.2.1 18 = .ok (.isub, 1) := by decide +kernel
theorem d_M_knower_19 : decode u_M_knower.2.1 19 = .ok (.i2l, 1) := by decide +kernel
theorem d_M_knower_20 : decode u_M_knower.2.1 20 = .ok (.invokestatic 69, 3) := by decide +kernel
theorem d_M_knower_23 : decode u_M_knower.2.1 23 = .ok (.ifCond .ne 6, 3) := by decide +kernel
theorem d_M_knower_26 : decode u_M_knower.2.1 26 = .ok (.bipush (-2), 2) := by decide +kernel
