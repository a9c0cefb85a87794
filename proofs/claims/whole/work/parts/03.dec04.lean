theorem dX12_undo_7 : decode cX12_undo 7 = .ok (.bipush (-3), 2) := by decide +kernel
theorem dX12_undo_9 : decode cX12_undo 9 = .ok (.ireturn, 1) := by decide +kernel
theorem dX12_undo_10 : decode cX12_undo 10 = .ok (.aload_n 0, 1) := by decide +kernel
theorem dX12_undo_11 : decode cX12_undo 11 = .ok (.dup, 1) := by decide +kernel
theorem dX12_undo_12 : decode cX12_undo 12 = .ok (.getfield 88, 3) := by decide +kernel
theorem dX12_undo_15 : decode cX12_undo 15 = .ok (.iconst 1, 1) := by decide +kernel
theorem dX12_undo_16 : decode cX12_undo 16 = .ok (.isub, 1) := by decide +kernel
theorem dX12_undo_17 : decode cX12_undo 17 = .ok (.putfield 88, 3) := by decide +kernel
theorem dX12_undo_20 : decode cX12_undo 20 = .ok (.iconst 0, 1) := by decide +kernel
theorem dX12_undo_21 : decode cX12_undo 21 = .ok (.istore_n 1, 1) := by decide +kernel
theorem dX12_undo_22 : decode cX12_undo 22 = .ok (.iload_n 1, 1) := by decide +kernel
theorem dX12_undo_23 : decode cX12_undo 23 = .ok (.sipush 2412, 3) := by decide +kernel
theorem dX12_undo_26 : decode cX12_undo 26 = .ok (.if_icmp .ge 30, 3) := by decide +kernel
theorem dX12_undo_29 : decode cX12_undo 29 = .ok (.aload_n 0, 1) := by decide +kernel
theorem dX12_undo_30 : decode cX12_undo 30 = .ok (.getfield 7, 3) := by decide +kernel
theorem dX12_undo_33 : decode cX12_undo 33 = .ok (.iload_n 1, 1) := by decide +kernel
theorem dX12_undo_34 : decode cX12_undo 34 = .ok (.aload_n 0, 1) := by decide +kernel
theorem dX12_undo_35 : decode cX12_undo 35 = .ok (.getfield 13, 3) := by decide +kernel
theorem dX12_undo_38 : decode cX12_undo 38 = .ok (.sipush 2412, 3) := by decide +kernel
theorem dX12_undo_41 : decode cX12_undo 41 = .ok (.aload_n 0, 1) := by decide +kernel
theorem dX12_undo_42 : decode cX12_undo 42 = .ok (.getfield 88, 3) := by decide +kernel
theorem dX12_undo_45 : decode cX12_undo 45 = .ok (.imul, 1) := by decide +kernel
theorem dX12_undo_46 : decode cX12_undo 46 = .ok (.iload_n 1, 1) := by decide +kernel
theorem dX12_undo_47 : decode cX12_undo 47 = .ok (.iadd, 1) := by decide +kernel
theorem dX12_undo_48 : decode cX12_undo 48 = .ok (.iaload, 1) := by decide +kernel
theorem dX12_undo_49 : decode cX12_undo 49 = .ok (.iastore, 1) := by decide +kernel
theorem dX12_undo_50 : decode cX12_undo 50 = .ok (.iinc 1 1, 3) := by decide +kernel
theorem dX12_undo_53 : decode cX12_undo 53 = .ok (.goto (-31), 3) := by decide +kernel
theorem dX12_undo_56 : decode cX12_undo 56 = .ok (.aload_n 0, 1) := by decide +kernel
theorem dX12_undo_57 : decode cX12_undo 57 = .ok (.iconst 0, 1) := by decide +kernel
theorem dX12_undo_58 : decode cX12_undo 58 = .ok (.putfield 91, 3) := by decide +kernel
theorem dX12_undo_61 : decode cX12_undo 61 = .ok (.aload_n 0, 1) := by decide +kernel
theorem dX12_undo_62 : decode cX12_undo 62 = .ok (.getfield 88, 3) := by decide +kernel
theorem dX12_undo_65 : decode cX12_undo 65 = .ok (.ireturn, 1) := by decide +kernel
theorem dX12_cachePlace_0 : decode cX12_cachePlace 0 = .ok (.iconst 0, 1) := by decide +kernel
theorem dX12_cachePlace_1 : decode cX12_cachePlace 1 = .ok (.istore_n 3, 1) := by decide +kernel
theorem dX12_cachePlace_2 : decode cX12_cachePlace 2 = .ok (.iload_n 3, 1) := by decide +kernel
theorem dX12_cachePlace_3 : decode cX12_cachePlace 3 = .ok (.aload_n 0, 1) := by decide +kernel
theorem dX12_cachePlace_4 : decode cX12_cachePlace 4 = .ok (.getfield 91, 3) := by decide +kernel
theorem dX12_cachePlace_7 : decode cX12_cachePlace 7 = .ok (.if_icmp .ge 31, 3) := by decide +kernel
theorem dX12_cachePlace_10 : decode cX12_cachePlace 10 = .ok (.aload_n 0, 1) := by decide +kernel
theorem dX12_cachePlace_11 : decode cX12_cachePlace 11 = .ok (.getfield 16, 3) := by decide +kernel
theorem dX12_cachePlace_14 : decode cX12_cachePlace 14 = .ok (.iload_n 3, 1) := by decide +kernel
theorem dX12_cachePlace_15 : decode cX12_cachePlace 15 = .ok (.iaload, 1) := by decide +kernel
theorem dX12_cachePlace_16 : decode cX12_cachePlace 16 = .ok (.iload_n 1, 1) := by decide +kernel
theorem dX12_cachePlace_17 : decode cX12_cachePlace 17 = .ok (.if_icmp .ne 15, 3) := by decide +kernel
theorem dX12_cachePlace_20 : decode cX12_cachePlace 20 = .ok (.aload_n 0, 1) := by decide +kernel
theorem dX12_cachePlace_21 : decode cX12_cachePlace 21 = .ok (.getfield 19, 3) := by decide +kernel
theorem dX12_cachePlace_24 : decode cX12_cachePlace 24 = .ok (.iload_n 3, 1) := by decide +kernel
theorem dX12_cachePlace_25 : decode cX12_cachePlace 25 = .ok (.iaload, 1) := by decide +kernel
theorem dX12_cachePlace_26 : decode cX12_cachePlace 26 = .ok (.iload_n 2, 1) := by decide +kernel
theorem dX12_cachePlace_27 : decode cX12_cachePlace 27 = .ok (.if_icmp .ne 5, 3) := by decide +kernel
theorem dX12_cachePlace_30 : decode cX12_cachePlace 30 = .ok (.iload_n 3, 1) := by decide +kernel
theorem dX12_cachePlace_31 : decode cX12_cachePlace 31 = .ok (.ireturn, 1) := by decide +kernel
theorem dX12_cachePlace_32 : decode cX12_cachePlace 32 = .ok (.iinc 3 1, 3) := by decide +kernel
theorem dX12_cachePlace_35 : decode cX12_cachePlace 35 = .ok (.goto (-33), 3) := by decide +kernel
theorem dX12_cachePlace_38 : decode cX12_cachePlace 38 = .ok (.iconst (-1), 1) := by decide +kernel
theorem dX12_cachePlace_39 : decode cX12_cachePlace 39 = .ok (.ireturn, 1) := by decide +kernel
theorem dX12_looks_0 : decode cX12_looks 0 = .ok (.aload_n 0, 1) := by decide +kernel
theorem dX12_looks_1 : decode cX12_looks 1 = .ok (.iload_n 1, 1) := by decide +kernel
theorem dX12_looks_2 : decode cX12_looks 2 = .ok (.iload_n 2, 1) := by decide +kernel
theorem dX12_looks_3 : decode cX12_looks 3 = .ok (.invokevirtual 94, 3) := by decide +kernel
theorem dX12_looks_6 : decode cX12_looks 6 = .ok (.istore_n 3, 1) := by decide +kernel
theorem dX12_looks_7 : decode cX12_looks 7 = .ok (.aload_n 0, 1) := by decide +kernel
theorem dX12_looks_8 : decode cX12_looks 8 = .ok (.dup, 1) := by decide +kernel
theorem dX12_looks_9 : decode cX12_looks 9 = .ok (.getfield 97, 3) := by decide +kernel
theorem dX12_looks_12 : decode cX12_looks 12 = .ok (.iload_n 3, 1) := by decide +kernel
theorem dX12_looks_13 : decode cX12_looks 13 = .ok (.iconst (-1), 1) := by decide +kernel
theorem dX12_looks_14 : decode cX12_looks 14 = .ok (.if_icmp .ne 7, 3) := by decide +kernel
theorem dX12_looks_17 : decode cX12_looks 17 = .ok (.iconst 0, 1) := by decide +kernel
theorem dX12_looks_18 : decode cX12_looks 18 = .ok (.goto 4, 3) := by decide +kernel
theorem dX12_looks_21 : decode cX12_looks 21 = .ok (.iconst 1, 1) := by decide +kernel
theorem dX12_looks_22 : decode cX12_looks 22 = .ok (.iadd, 1) := by decide +kernel
theorem dX12_looks_23 : decode cX12_looks 23 = .ok (.putfield 97, 3) := by decide +kernel
theorem dX12_looks_26 : decode cX12_looks 26 = .ok (.aload_n 0, 1) := by decide +kernel
theorem dX12_looks_27 : decode cX12_looks 27 = .ok (.dup, 1) := by decide +kernel
theorem dX12_looks_28 : decode cX12_looks 28 = .ok (.getfield 100, 3) := by decide +kernel
theorem dX12_looks_31 : decode cX12_looks 31 = .ok (.iload_n 3, 1) := by decide +kernel
theorem dX12_looks_32 : decode cX12_looks 32 = .ok (.iconst (-1), 1) := by decide +kernel
theorem dX12_looks_33 : decode cX12_looks 33 = .ok (.if_icmp .ne 7, 3) := by decide +kernel
theorem dX12_looks_36 : decode cX12_looks 36 = .ok (.iconst 1, 1) := by decide +kernel
theorem dX12_looks_37 : decode cX12_looks 37 = .ok (.goto 4, 3) := by decide +kernel
theorem dX12_looks_40 : decode cX12_looks 40 = .ok (.iconst 0, 1) := by decide +kernel
theorem dX12_looks_41 : decode cX12_looks 41 = .ok (.iadd, 1) := by decide +kernel
theorem dX12_looks_42 : decode cX12_looks 42 = .ok (.putfield 100, 3) := by decide +kernel
theorem dX12_looks_45 : decode cX12_looks 45 = .ok (.iload_n 3, 1) := by decide +kernel
theorem dX12_looks_46 : decode cX12_looks 46 = .ok (.iconst (-1), 1) := by decide +kernel
theorem dX12_looks_47 : decode cX12_looks 47 = .ok (.if_icmp .eq 7, 3) := by decide +kernel
theorem dX12_looks_50 : decode cX12_looks 50 = .ok (.iload_n 3, 1) := by decide +kernel
theorem dX12_looks_51 : decode cX12_looks 51 = .ok (.goto 16, 3) := by decide +kernel
theorem dX12_looks_54 : decode cX12_looks 54 = .ok (.aload_n 0, 1) := by decide +kernel
theorem dX12_looks_55 : decode cX12_looks 55 = .ok (.getfield 91, 3) := by decide +kernel
theorem dX12_looks_58 : decode cX12_looks 58 = .ok (.iconst 4, 1) := by decide +kernel
theorem dX12_looks_59 : decode cX12_looks 59 = .ok (.if_icmp .ne 7, 3) := by decide +kernel
theorem dX12_looks_62 : decode cX12_looks 62 = .ok (.iconst 0, 1) := by decide +kernel
theorem dX12_looks_63 : decode cX12_looks 63 = .ok (.goto 4, 3) := by decide +kernel
theorem dX12_looks_66 : decode cX12_looks 66 = .ok (.iconst (-1), 1) := by decide +kernel
theorem dX12_looks_67 : decode cX12_looks 67 = .ok (.istore 4, 2) := by decide +kernel
theorem dX12_looks_69 : decode cX12_looks 69 = .ok (.iload 4, 2) := by decide +kernel
theorem dX12_looks_71 : decode cX12_looks 71 = .ok (.iconst (-1), 1) := by decide +kernel
theorem dX12_looks_72 : decode cX12_looks 72 = .ok (.if_icmp .eq 64, 3) := by decide +kernel
theorem dX12_looks_75 : decode cX12_looks 75 = .ok (.aload_n 0, 1) := by decide +kernel
theorem dX12_looks_76 : decode cX12_looks 76 = .ok (.dup, 1) := by decide +kernel
theorem dX12_looks_77 : decode cX12_looks 77 = .ok (.getfield 91, 3) := by decide +kernel
theorem dX12_looks_80 : decode cX12_looks 80 = .ok (.iconst 1, 1) := by decide +kernel
theorem dX12_looks_81 : decode cX12_looks 81 = .ok (.isub, 1) := by decide +kernel
theorem dX12_looks_82 : decode cX12_looks 82 = .ok (.putfield 91, 3) := by decide +kernel
theorem dX12_looks_85 : decode cX12_looks 85 = .ok (.iload 4, 2) := by decide +kernel
theorem dX12_looks_87 : decode cX12_looks 87 = .ok (.istore 5, 2) := by decide +kernel
theorem dX12_looks_89 : decode cX12_looks 89 = .ok (.iload 5, 2) := by decide +kernel
theorem dX12_looks_91 : decode cX12_looks 91 = .ok (.aload_n 0, 1) := by decide +kernel
theorem dX12_looks_92 : decode cX12_looks 92 = .ok (.getfield 91, 3) := by decide +kernel
theorem dX12_looks_95 : decode cX12_looks 95 = .ok (.if_icmp .ge 41, 3) := by decide +kernel
theorem dX12_looks_98 : decode cX12_looks 98 = .ok (.aload_n 0, 1) := by decide +kernel
theorem dX12_looks_99 : decode cX12_looks 99 = .ok (.getfield 16, 3) := by decide +kernel
theorem dX12_looks_102 : decode cX12_looks 102 = .ok (.iload 5, 2) := by decide +kernel
theorem dX12_looks_104 : decode cX12_looks 104 = .ok (.aload_n 0, 1) := by decide +kernel
theorem dX12_looks_105 : decode cX12_looks 105 = .ok (.getfield 16, 3) := by decide +kernel
theorem dX12_looks_108 : decode cX12_looks 108 = .ok (.iload 5, 2) := by decide +kernel
theorem dX12_looks_110 : decode cX12_looks 110 = .ok (.iconst 1, 1) := by decide +kernel
theorem dX12_looks_111 : decode cX12_looks 111 = .ok (.iadd, 1) := by decide +kernel
theorem dX12_looks_112 : decode cX12_looks 112 = .ok (.iaload, 1) := by decide +kernel
theorem dX12_looks_113 : decode cX12_looks 113 = .ok (.iastore, 1) := by decide +kernel
theorem dX12_looks_114 : decode cX12_looks 114 = .ok (.aload_n 0, 1) := by decide +kernel
theorem dX12_looks_115 : decode cX12_looks 115 = .ok (.getfield 19, 3) := by decide +kernel
theorem dX12_looks_118 : decode cX12_looks 118 = .ok (.iload 5, 2) := by decide +kernel
theorem dX12_looks_120 : decode cX12_looks 120 = .ok (.aload_n 0, 1) := by decide +kernel
theorem dX12_looks_121 : decode cX12_looks 121 = .ok (.getfield 19, 3) := by decide +kernel
theorem dX12_looks_124 : decode cX12_looks 124 = .ok (.iload 5, 2) := by decide +kernel
theorem dX12_looks_126 : decode cX12_looks 126 = .ok (.iconst 1, 1) := by decide +kernel
theorem dX12_looks_127 : decode cX12_looks 127 = .ok (.iadd, 1) := by decide +kernel
theorem dX12_looks_128 : decode cX12_looks 128 = .ok (.iaload, 1) := by decide +kernel
theorem dX12_looks_129 : decode cX12_looks 129 = .ok (.iastore, 1) := by decide +kernel
theorem dX12_looks_130 : decode cX12_looks 130 = .ok (.iinc 5 1, 3) := by decide +kernel
theorem dX12_looks_133 : decode cX12_looks 133 = .ok (.goto (-44), 3) := by decide +kernel
theorem dX12_looks_136 : decode cX12_looks 136 = .ok (.aload_n 0, 1) := by decide +kernel
theorem dX12_looks_137 : decode cX12_looks 137 = .ok (.getfield 16, 3) := by decide +kernel
theorem dX12_looks_140 : decode cX12_looks 140 = .ok (.aload_n 0, 1) := by decide +kernel
theorem dX12_looks_141 : decode cX12_looks 141 = .ok (.getfield 91, 3) := by decide +kernel
theorem dX12_looks_144 : decode cX12_looks 144 = .ok (.iload_n 1, 1) := by decide +kernel
theorem dX12_looks_145 : decode cX12_looks 145 = .ok (.iastore, 1) := by decide +kernel
theorem dX12_looks_146 : decode cX12_looks 146 = .ok (.aload_n 0, 1) := by decide +kernel
theorem dX12_looks_147 : decode cX12_looks 147 = .ok (.getfield 19, 3) := by decide +kernel
theorem dX12_looks_150 : decode cX12_looks 150 = .ok (.aload_n 0, 1) := by decide +kernel
theorem dX12_looks_151 : decode cX12_looks 151 = .ok (.getfield 91, 3) := by decide +kernel
theorem dX12_looks_154 : decode cX12_looks 154 = .ok (.iload_n 2, 1) := by decide +kernel
theorem dX12_looks_155 : decode cX12_looks 155 = .ok (.iastore, 1) := by decide +kernel
theorem dX12_looks_156 : decode cX12_looks 156 = .ok (.aload_n 0, 1) := by decide +kernel
theorem dX12_looks_157 : decode cX12_looks 157 = .ok (.dup, 1) := by decide +kernel
theorem dX12_looks_158 : decode cX12_looks 158 = .ok (.getfield 91, 3) := by decide +kernel
theorem dX12_looks_161 : decode cX12_looks 161 = .ok (.iconst 1, 1) := by decide +kernel
theorem dX12_looks_162 : decode cX12_looks 162 = .ok (.iadd, 1) := by decide +kernel
theorem dX12_looks_163 : decode cX12_looks 163 = .ok (.putfield 91, 3) := by decide +kernel
theorem dX12_looks_166 : decode cX12_looks 166 = .ok (.return_, 1) := by decide +kernel
theorem dX12_bitsOf_0 : decode cX12_bitsOf 0 = .ok (.iconst 0, 1) := by decide +kernel
theorem dX12_bitsOf_1 : decode cX12_bitsOf 1 = .ok (.istore_n 1, 1) := by decide +kernel
theorem dX12_bitsOf_2 : decode cX12_bitsOf 2 = .ok (.iload_n 0, 1) := by decide +kernel
theorem dX12_bitsOf_3 : decode cX12_bitsOf 3 = .ok (.iload_n 1, 1) := by decide +kernel
theorem dX12_bitsOf_4 : decode cX12_bitsOf 4 = .ok (.ishr, 1) := by decide +kernel
theorem dX12_bitsOf_5 : decode cX12_bitsOf 5 = .ok (.ifCond .le 9, 3) := by decide +kernel
theorem dX12_bitsOf_8 : decode cX12_bitsOf 8 = .ok (.iinc 1 1, 3) := by decide +kernel
theorem dX12_bitsOf_11 : decode cX12_bitsOf 11 = .ok (.goto (-9), 3) := by decide +kernel
theorem dX12_bitsOf_14 : decode cX12_bitsOf 14 = .ok (.iload_n 1, 1) := by decide +kernel
theorem dX12_bitsOf_15 : decode cX12_bitsOf 15 = .ok (.ireturn, 1) := by decide +kernel
theorem dX12_gap_0 : decode cX12_gap 0 = .ok (.aload_n 0, 1) := by decide +kernel
theorem dX12_gap_1 : decode cX12_gap 1 = .ok (.iload_n 1, 1) := by decide +kernel
theorem dX12_gap_2 : decode cX12_gap 2 = .ok (.iload_n 2, 1) := by decide +kernel
theorem dX12_gap_3 : decode cX12_gap 3 = .ok (.invokevirtual 103, 3) := by decide +kernel
theorem dX12_gap_6 : decode cX12_gap 6 = .ok (.aload_n 0, 1) := by decide +kernel
theorem dX12_gap_7 : decode cX12_gap 7 = .ok (.iload_n 1, 1) := by decide +kernel
theorem dX12_gap_8 : decode cX12_gap 8 = .ok (.iload_n 2, 1) := by decide +kernel
theorem dX12_gap_9 : decode cX12_gap 9 = .ok (.iconst 1, 1) := by decide +kernel
theorem dX12_gap_10 : decode cX12_gap 10 = .ok (.isub, 1) := by decide +kernel
theorem dX12_gap_11 : decode cX12_gap 11 = .ok (.invokevirtual 103, 3) := by decide +kernel
theorem dX12_gap_14 : decode cX12_gap 14 = .ok (.isub, 1) := by decide +kernel
theorem dX12_gap_15 : decode cX12_gap 15 = .ok (.iconst 1, 1) := by decide +kernel
theorem dX12_gap_16 : decode cX12_gap 16 = .ok (.isub, 1) := by decide +kernel
theorem dX12_gap_17 : decode cX12_gap 17 = .ok (.ireturn, 1) := by decide +kernel
theorem dX12_counts_0 : decode cX12_counts 0 = .ok (.iconst 0, 1) := by decide +kernel
theorem dX12_counts_1 : decode cX12_counts 1 = .ok (.istore 4, 2) := by decide +kernel
theorem dX12_counts_3 : decode cX12_counts 3 = .ok (.iload 4, 2) := by decide +kernel
theorem dX12_counts_5 : decode cX12_counts 5 = .ok (.bipush 20, 2) := by decide +kernel
theorem dX12_counts_7 : decode cX12_counts 7 = .ok (.if_icmp .gt 17, 3) := by decide +kernel
theorem dX12_counts_10 : decode cX12_counts 10 = .ok (.aload_n 0, 1) := by decide +kernel
theorem dX12_counts_11 : decode cX12_counts 11 = .ok (.getfield 32, 3) := by decide +kernel
theorem dX12_counts_14 : decode cX12_counts 14 = .ok (.iload 4, 2) := by decide +kernel
theorem dX12_counts_16 : decode cX12_counts 16 = .ok (.iconst 0, 1) := by decide +kernel
theorem dX12_counts_17 : decode cX12_counts 17 = .ok (.iastore, 1) := by decide +kernel
theorem dX12_counts_18 : decode cX12_counts 18 = .ok (.iinc 4 1, 3) := by decide +kernel
theorem dX12_counts_21 : decode cX12_counts 21 = .ok (.goto (-18), 3) := by decide +kernel
theorem dX12_counts_24 : decode cX12_counts 24 = .ok (.iload_n 2, 1) := by decide +kernel
theorem dX12_counts_25 : decode cX12_counts 25 = .ok (.iconst 1, 1) := by decide +kernel
theorem dX12_counts_26 : decode cX12_counts 26 = .ok (.iadd, 1) := by decide +kernel
theorem dX12_counts_27 : decode cX12_counts 27 = .ok (.istore 4, 2) := by decide +kernel
theorem dX12_counts_29 : decode cX12_counts 29 = .ok (.iload 4, 2) := by decide +kernel
theorem dX12_counts_31 : decode cX12_counts 31 = .ok (.iload_n 3, 1) := by decide +kernel
theorem dX12_counts_32 : decode cX12_counts 32 = .ok (.if_icmp .gt 28, 3) := by decide +kernel
theorem dX12_counts_35 : decode cX12_counts 35 = .ok (.aload_n 0, 1) := by decide +kernel
theorem dX12_counts_36 : decode cX12_counts 36 = .ok (.getfield 32, 3) := by decide +kernel
theorem dX12_counts_39 : decode cX12_counts 39 = .ok (.aload_n 0, 1) := by decide +kernel
theorem dX12_counts_40 : decode cX12_counts 40 = .ok (.iload_n 1, 1) := by decide +kernel
theorem dX12_counts_41 : decode cX12_counts 41 = .ok (.iload 4, 2) := by decide +kernel
theorem dX12_counts_43 : decode cX12_counts 43 = .ok (.invokevirtual 106, 3) := by decide +kernel
theorem dX12_counts_46 : decode cX12_counts 46 = .ok (.invokestatic 109, 3) := by decide +kernel
theorem dX12_counts_49 : decode cX12_counts 49 = .ok (.dup2, 1) := by decide +kernel
theorem dX12_counts_50 : decode cX12_counts 50 = .ok (.iaload, 1) := by decide +kernel
theorem dX12_counts_51 : decode cX12_counts 51 = .ok (.iconst 1, 1) := by decide +kernel
theorem dX12_counts_52 : decode cX12_counts 52 = .ok (.iadd, 1) := by decide +kernel
theorem dX12_counts_53 : decode cX12_counts 53 = .ok (.iastore, 1) := by decide +kernel
theorem dX12_counts_54 : decode cX12_counts 54 = .ok (.iinc 4 1, 3) := by decide +kernel
theorem dX12_counts_57 : decode cX12_counts 57 = .ok (.goto (-28), 3) := by decide +kernel
theorem dX12_counts_60 : decode cX12_counts 60 = .ok (.return_, 1) := by decide +kernel
theorem dX12_above_0 : decode cX12_above 0 = .ok (.iconst 0, 1) := by decide +kernel
theorem dX12_above_1 : decode cX12_above 1 = .ok (.istore_n 2, 1) := by decide +kernel
theorem dX12_above_2 : decode cX12_above 2 = .ok (.iload_n 1, 1) := by decide +kernel
theorem dX12_above_3 : decode cX12_above 3 = .ok (.iconst 1, 1) := by decide +kernel
theorem dX12_above_4 : decode cX12_above 4 = .ok (.iadd, 1) := by decide +kernel
theorem dX12_above_5 : decode cX12_above 5 = .ok (.istore_n 3, 1) := by decide +kernel
theorem dX12_above_6 : decode cX12_above 6 = .ok (.iload_n 3, 1) := by decide +kernel
theorem dX12_above_7 : decode cX12_above 7 = .ok (.bipush 20, 2) := by decide +kernel
theorem dX12_above_9 : decode cX12_above 9 = .ok (.if_icmp .gt 18, 3) := by decide +kernel
theorem dX12_above_12 : decode cX12_above 12 = .ok (.iload_n 2, 1) := by decide +kernel
theorem dX12_above_13 : decode cX12_above 13 = .ok (.aload_n 0, 1) := by decide +kernel
theorem dX12_above_14 : decode cX12_above 14 = .ok (.getfield 32, 3) := by decide +kernel
theorem dX12_above_17 : decode cX12_above 17 = .ok (.iload_n 3, 1) := by decide +kernel
theorem dX12_above_18 : decode cX12_above 18 = .ok (.iaload, 1) := by decide +kernel
theorem dX12_above_19 : decode cX12_above 19 = .ok (.iadd, 1) := by decide +kernel
theorem dX12_above_20 : decode cX12_above 20 = .ok (.istore_n 2, 1) := by decide +kernel
theorem dX12_above_21 : decode cX12_above 21 = .ok (.iinc 3 1, 3) := by decide +kernel
theorem dX12_above_24 : decode cX12_above 24 = .ok (.goto (-18), 3) := by decide +kernel
theorem dX12_above_27 : decode cX12_above 27 = .ok (.iload_n 2, 1) := by decide +kernel
theorem dX12_above_28 : decode cX12_above 28 = .ok (.ireturn, 1) := by decide +kernel
theorem dX12_best_0 : decode cX12_best 0 = .ok (.iconst 0, 1) := by decide +kernel
theorem dX12_best_1 : decode cX12_best 1 = .ok (.istore_n 2, 1) := by decide +kernel
theorem dX12_best_2 : decode cX12_best 2 = .ok (.iconst 0, 1) := by decide +kernel
theorem dX12_best_3 : decode cX12_best 3 = .ok (.istore_n 3, 1) := by decide +kernel
theorem dX12_best_4 : decode cX12_best 4 = .ok (.iconst 0, 1) := by decide +kernel
theorem dX12_best_5 : decode cX12_best 5 = .ok (.istore 4, 2) := by decide +kernel
theorem dX12_best_7 : decode cX12_best 7 = .ok (.iload 4, 2) := by decide +kernel
theorem dX12_best_9 : decode cX12_best 9 = .ok (.bipush 20, 2) := by decide +kernel
theorem dX12_best_11 : decode cX12_best 11 = .ok (.if_icmp .gt 69, 3) := by decide +kernel
theorem dX12_best_14 : decode cX12_best 14 = .ok (.iload 4, 2) := by decide +kernel
theorem dX12_best_16 : decode cX12_best 16 = .ok (.iload_n 1, 1) := by decide +kernel
theorem dX12_best_17 : decode cX12_best 17 = .ok (.iconst 1, 1) := by decide +kernel
theorem dX12_best_18 : decode cX12_best 18 = .ok (.isub, 1) := by decide +kernel
theorem dX12_best_19 : decode cX12_best 19 = .ok (.imul, 1) := by decide +kernel
theorem dX12_best_20 : decode cX12_best 20 = .ok (.bipush 28, 2) := by decide +kernel
theorem dX12_best_22 : decode cX12_best 22 = .ok (.aload_n 0, 1) := by decide +kernel
theorem dX12_best_23 : decode cX12_best 23 = .ok (.iload 4, 2) := by decide +kernel
theorem dX12_best_25 : decode cX12_best 25 = .ok (.invokevirtual 112, 3) := by decide +kernel
theorem dX12_best_28 : decode cX12_best 28 = .ok (.imul, 1) := by decide +kernel
theorem dX12_best_29 : decode cX12_best 29 = .ok (.iadd, 1) := by decide +kernel
theorem dX12_best_30 : decode cX12_best 30 = .ok (.istore 5, 2) := by decide +kernel
theorem dX12_best_32 : decode cX12_best 32 = .ok (.iload 4, 2) := by decide +kernel
theorem dX12_best_34 : decode cX12_best 34 = .ok (.ifCond .eq 9, 3) := by decide +kernel
theorem dX12_best_37 : decode cX12_best 37 = .ok (.iload 5, 2) := by decide +kernel
theorem dX12_best_39 : decode cX12_best 39 = .ok (.iload_n 3, 1) := by decide +kernel
theorem dX12_best_40 : decode cX12_best 40 = .ok (.if_icmp .ge 7, 3) := by decide +kernel
theorem dX12_best_43 : decode cX12_best 43 = .ok (.iconst 1, 1) := by decide +kernel
theorem dX12_best_44 : decode cX12_best 44 = .ok (.goto 4, 3) := by decide +kernel
theorem dX12_best_47 : decode cX12_best 47 = .ok (.iconst 0, 1) := by decide +kernel
theorem dX12_best_48 : decode cX12_best 48 = .ok (.istore 6, 2) := by decide +kernel
theorem dX12_best_50 : decode cX12_best 50 = .ok (.iload 6, 2) := by decide +kernel
theorem dX12_best_52 : decode cX12_best 52 = .ok (.ifCond .eq 8, 3) := by decide +kernel
theorem dX12_best_55 : decode cX12_best 55 = .ok (.iload 4, 2) := by decide +kernel
theorem dX12_best_57 : decode cX12_best 57 = .ok (.goto 4, 3) := by decide +kernel
theorem dX12_best_60 : decode cX12_best 60 = .ok (.iload_n 2, 1) := by decide +kernel
theorem dX12_best_61 : decode cX12_best 61 = .ok (.istore_n 2, 1) := by decide +kernel
theorem dX12_best_62 : decode cX12_best 62 = .ok (.iload 6, 2) := by decide +kernel
theorem dX12_best_64 : decode cX12_best 64 = .ok (.ifCond .eq 8, 3) := by decide +kernel
theorem dX12_best_67 : decode cX12_best 67 = .ok (.iload 5, 2) := by decide +kernel
theorem dX12_best_69 : decode cX12_best 69 = .ok (.goto 4, 3) := by decide +kernel
theorem dX12_best_72 : decode cX12_best 72 = .ok (.iload_n 3, 1) := by decide +kernel
theorem dX12_best_73 : decode cX12_best 73 = .ok (.istore_n 3, 1) := by decide +kernel
theorem dX12_best_74 : decode cX12_best 74 = .ok (.iinc 4 1, 3) := by decide +kernel
theorem dX12_best_77 : decode cX12_best 77 = .ok (.goto (-70), 3) := by decide +kernel
theorem dX12_best_80 : decode cX12_best 80 = .ok (.iload_n 2, 1) := by decide +kernel
theorem dX12_best_81 : decode cX12_best 81 = .ok (.ireturn, 1) := by decide +kernel
theorem dX12_costOf_0 : decode cX12_costOf 0 = .ok (.bipush 32, 2) := by decide +kernel
theorem dX12_costOf_2 : decode cX12_costOf 2 = .ok (.iload_n 2, 1) := by decide +kernel
theorem dX12_costOf_3 : decode cX12_costOf 3 = .ok (.iload_n 1, 1) := by decide +kernel
theorem dX12_costOf_4 : decode cX12_costOf 4 = .ok (.iconst 1, 1) := by decide +kernel
theorem dX12_costOf_5 : decode cX12_costOf 5 = .ok (.isub, 1) := by decide +kernel
theorem dX12_costOf_6 : decode cX12_costOf 6 = .ok (.imul, 1) := by decide +kernel
theorem dX12_costOf_7 : decode cX12_costOf 7 = .ok (.iadd, 1) := by decide +kernel
theorem dX12_costOf_8 : decode cX12_costOf 8 = .ok (.bipush 28, 2) := by decide +kernel
theorem dX12_costOf_10 : decode cX12_costOf 10 = .ok (.aload_n 0, 1) := by decide +kernel
theorem dX12_costOf_11 : decode cX12_costOf 11 = .ok (.iload_n 2, 1) := by decide +kernel
theorem dX12_costOf_12 : decode cX12_costOf 12 = .ok (.invokevirtual 112, 3) := by decide +kernel
theorem dX12_costOf_15 : decode cX12_costOf 15 = .ok (.imul, 1) := by decide +kernel
theorem dX12_costOf_16 : decode cX12_costOf 16 = .ok (.iadd, 1) := by decide +kernel
theorem dX12_costOf_17 : decode cX12_costOf 17 = .ok (.ireturn, 1) := by decide +kernel
theorem dX12_width_0 : decode cX12_width 0 = .ok (.aload_n 0, 1) := by decide +kernel
theorem dX12_width_1 : decode cX12_width 1 = .ok (.iload_n 1, 1) := by decide +kernel
theorem dX12_width_2 : decode cX12_width 2 = .ok (.iload_n 2, 1) := by decide +kernel
theorem dX12_width_3 : decode cX12_width 3 = .ok (.invokevirtual 85, 3) := by decide +kernel
theorem dX12_width_6 : decode cX12_width 6 = .ok (.istore_n 3, 1) := by decide +kernel
theorem dX12_width_7 : decode cX12_width 7 = .ok (.aload_n 0, 1) := by decide +kernel
theorem dX12_width_8 : decode cX12_width 8 = .ok (.iload_n 1, 1) := by decide +kernel
theorem dX12_width_9 : decode cX12_width 9 = .ok (.iload_n 3, 1) := by decide +kernel
theorem dX12_width_10 : decode cX12_width 10 = .ok (.iload_n 3, 1) := by decide +kernel
theorem dX12_width_11 : decode cX12_width 11 = .ok (.aload_n 0, 1) := by decide +kernel
theorem dX12_width_12 : decode cX12_width 12 = .ok (.iload_n 1, 1) := by decide +kernel
theorem dX12_width_13 : decode cX12_width 13 = .ok (.iload_n 2, 1) := by decide +kernel
theorem dX12_width_14 : decode cX12_width 14 = .ok (.invokevirtual 81, 3) := by decide +kernel
theorem dX12_width_17 : decode cX12_width 17 = .ok (.iadd, 1) := by decide +kernel
theorem dX12_width_18 : decode cX12_width 18 = .ok (.iconst 1, 1) := by decide +kernel
theorem dX12_width_19 : decode cX12_width 19 = .ok (.isub, 1) := by decide +kernel
theorem dX12_width_20 : decode cX12_width 20 = .ok (.invokevirtual 115, 3) := by decide +kernel
theorem dX12_width_23 : decode cX12_width 23 = .ok (.aload_n 0, 1) := by decide +kernel
theorem dX12_width_24 : decode cX12_width 24 = .ok (.aload_n 0, 1) := by decide +kernel
theorem dX12_width_25 : decode cX12_width 25 = .ok (.iload_n 1, 1) := by decide +kernel
theorem dX12_width_26 : decode cX12_width 26 = .ok (.iload_n 2, 1) := by decide +kernel
theorem dX12_width_27 : decode cX12_width 27 = .ok (.invokevirtual 81, 3) := by decide +kernel
theorem dX12_width_30 : decode cX12_width 30 = .ok (.invokevirtual 119, 3) := by decide +kernel
theorem dX12_width_33 : decode cX12_width 33 = .ok (.ireturn, 1) := by decide +kernel
theorem dX12_cost_0 : decode cX12_cost 0 = .ok (.aload_n 0, 1) := by decide +kernel
theorem dX12_cost_1 : decode cX12_cost 1 = .ok (.iload_n 1, 1) := by decide +kernel
theorem dX12_cost_2 : decode cX12_cost 2 = .ok (.iload_n 2, 1) := by decide +kernel
theorem dX12_cost_3 : decode cX12_cost 3 = .ok (.invokevirtual 122, 3) := by decide +kernel
theorem dX12_cost_6 : decode cX12_cost 6 = .ok (.istore_n 3, 1) := by decide +kernel
theorem dX12_cost_7 : decode cX12_cost 7 = .ok (.aload_n 0, 1) := by decide +kernel
theorem dX12_cost_8 : decode cX12_cost 8 = .ok (.aload_n 0, 1) := by decide +kernel
theorem dX12_cost_9 : decode cX12_cost 9 = .ok (.iload_n 1, 1) := by decide +kernel
theorem dX12_cost_10 : decode cX12_cost 10 = .ok (.iload_n 2, 1) := by decide +kernel
theorem dX12_cost_11 : decode cX12_cost 11 = .ok (.invokevirtual 81, 3) := by decide +kernel
theorem dX12_cost_14 : decode cX12_cost 14 = .ok (.iload_n 3, 1) := by decide +kernel
theorem dX12_cost_15 : decode cX12_cost 15 = .ok (.invokevirtual 125, 3) := by decide +kernel
theorem dX12_cost_18 : decode cX12_cost 18 = .ok (.ireturn, 1) := by decide +kernel
theorem dX12_costOfList_0 : decode cX12_costOfList 0 = .ok (.iconst 0, 1) := by decide +kernel
theorem dX12_costOfList_1 : decode cX12_costOfList 1 = .ok (.istore_n 2, 1) := by decide +kernel
theorem dX12_costOfList_2 : decode cX12_costOfList 2 = .ok (.iconst 0, 1) := by decide +kernel
theorem dX12_costOfList_3 : decode cX12_costOfList 3 = .ok (.istore_n 3, 1) := by decide +kernel
theorem dX12_costOfList_4 : decode cX12_costOfList 4 = .ok (.iload_n 3, 1) := by decide +kernel
theorem dX12_costOfList_5 : decode cX12_costOfList 5 = .ok (.aload_n 0, 1) := by decide +kernel
theorem dX12_costOfList_6 : decode cX12_costOfList 6 = .ok (.iload_n 1, 1) := by decide +kernel
theorem dX12_costOfList_7 : decode cX12_costOfList 7 = .ok (.invokevirtual 77, 3) := by decide +kernel
theorem dX12_costOfList_10 : decode cX12_costOfList 10 = .ok (.if_icmp .ge 18, 3) := by decide +kernel
theorem dX12_costOfList_13 : decode cX12_costOfList 13 = .ok (.iload_n 2, 1) := by decide +kernel
theorem dX12_costOfList_14 : decode cX12_costOfList 14 = .ok (.aload_n 0, 1) := by decide +kernel
theorem dX12_costOfList_15 : decode cX12_costOfList 15 = .ok (.iload_n 1, 1) := by decide +kernel
theorem dX12_costOfList_16 : decode cX12_costOfList 16 = .ok (.iload_n 3, 1) := by decide +kernel
theorem dX12_costOfList_17 : decode cX12_costOfList 17 = .ok (.invokevirtual 128, 3) := by decide +kernel
theorem dX12_costOfList_20 : decode cX12_costOfList 20 = .ok (.iadd, 1) := by decide +kernel
theorem dX12_costOfList_21 : decode cX12_costOfList 21 = .ok (.istore_n 2, 1) := by decide +kernel
theorem dX12_costOfList_22 : decode cX12_costOfList 22 = .ok (.iinc 3 1, 3) := by decide +kernel
theorem dX12_costOfList_25 : decode cX12_costOfList 25 = .ok (.goto (-21), 3) := by decide +kernel
theorem dX12_costOfList_28 : decode cX12_costOfList 28 = .ok (.iload_n 2, 1) := by decide +kernel
theorem dX12_costOfList_29 : decode cX12_costOfList 29 = .ok (.ireturn, 1) := by decide +kernel
theorem dX12_exceptions_0 : decode cX12_exceptions 0 = .ok (.aload_n 0, 1) := by decide +kernel
theorem dX12_exceptions_1 : decode cX12_exceptions 1 = .ok (.iload_n 1, 1) := by decide +kernel
theorem dX12_exceptions_2 : decode cX12_exceptions 2 = .ok (.iload_n 2, 1) := by decide +kernel
theorem dX12_exceptions_3 : decode cX12_exceptions 3 = .ok (.invokevirtual 122, 3) := by decide +kernel
theorem dX12_exceptions_6 : decode cX12_exceptions 6 = .ok (.istore_n 3, 1) := by decide +kernel
theorem dX12_exceptions_7 : decode cX12_exceptions 7 = .ok (.aload_n 0, 1) := by decide +kernel
theorem dX12_exceptions_8 : decode cX12_exceptions 8 = .ok (.iload_n 3, 1) := by decide +kernel
theorem dX12_exceptions_9 : decode cX12_exceptions 9 = .ok (.invokevirtual 112, 3) := by decide +kernel
theorem dX12_exceptions_12 : decode cX12_exceptions 12 = .ok (.ireturn, 1) := by decide +kernel
theorem dX12_solves_0 : decode cX12_solves 0 = .ok (.iconst 0, 1) := by decide +kernel
theorem dX12_solves_1 : decode cX12_solves 1 = .ok (.istore_n 3, 1) := by decide +kernel
theorem dX12_solves_2 : decode cX12_solves 2 = .ok (.iload_n 3, 1) := by decide +kernel
theorem dX12_solves_3 : decode cX12_solves 3 = .ok (.bipush 20, 2) := by decide +kernel
theorem dX12_solves_5 : decode cX12_solves 5 = .ok (.if_icmp .gt 16, 3) := by decide +kernel
theorem dX12_solves_8 : decode cX12_solves 8 = .ok (.aload_n 0, 1) := by decide +kernel
theorem dX12_solves_9 : decode cX12_solves 9 = .ok (.getfield 32, 3) := by decide +kernel
theorem dX12_solves_12 : decode cX12_solves 12 = .ok (.iload_n 3, 1) := by decide +kernel
theorem dX12_solves_13 : decode cX12_solves 13 = .ok (.iconst 0, 1) := by decide +kernel
theorem dX12_solves_14 : decode cX12_solves 14 = .ok (.iastore, 1) := by decide +kernel
theorem dX12_solves_15 : decode cX12_solves 15 = .ok (.iinc 3 1, 3) := by decide +kernel
theorem dX12_solves_18 : decode cX12_solves 18 = .ok (.goto (-16), 3) := by decide +kernel
theorem dX12_solves_21 : decode cX12_solves 21 = .ok (.aload_n 0, 1) := by decide +kernel
theorem dX12_solves_22 : decode cX12_solves 22 = .ok (.iload_n 1, 1) := by decide +kernel
theorem dX12_solves_23 : decode cX12_solves 23 = .ok (.invokevirtual 131, 3) := by decide +kernel
theorem dX12_solves_26 : decode cX12_solves 26 = .ok (.istore_n 3, 1) := by decide +kernel
theorem dX12_solves_27 : decode cX12_solves 27 = .ok (.iconst 1, 1) := by decide +kernel
theorem dX12_solves_28 : decode cX12_solves 28 = .ok (.istore 4, 2) := by decide +kernel
theorem dX12_solves_30 : decode cX12_solves 30 = .ok (.iload 4, 2) := by decide +kernel
theorem dX12_solves_32 : decode cX12_solves 32 = .ok (.bipush 64, 2) := by decide +kernel
theorem dX12_solves_34 : decode cX12_solves 34 = .ok (.if_icmp .gt 195, 3) := by decide +kernel
theorem dX12_solves_37 : decode cX12_solves 37 = .ok (.iload_n 2, 1) := by decide +kernel
theorem dX12_solves_38 : decode cX12_solves 38 = .ok (.iload 4, 2) := by decide +kernel
theorem dX12_solves_40 : decode cX12_solves 40 = .ok (.iadd, 1) := by decide +kernel
theorem dX12_solves_41 : decode cX12_solves 41 = .ok (.iload_n 3, 1) := by decide +kernel
theorem dX12_solves_42 : decode cX12_solves 42 = .ok (.if_icmp .gt 187, 3) := by decide +kernel
theorem dX12_solves_45 : decode cX12_solves 45 = .ok (.iload 4, 2) := by decide +kernel
theorem dX12_solves_47 : decode cX12_solves 47 = .ok (.iconst 1, 1) := by decide +kernel
theorem dX12_solves_48 : decode cX12_solves 48 = .ok (.if_icmp .le 26, 3) := by decide +kernel
theorem dX12_solves_51 : decode cX12_solves 51 = .ok (.aload_n 0, 1) := by decide +kernel
theorem dX12_solves_52 : decode cX12_solves 52 = .ok (.getfield 32, 3) := by decide +kernel
theorem dX12_solves_55 : decode cX12_solves 55 = .ok (.aload_n 0, 1) := by decide +kernel
theorem dX12_solves_56 : decode cX12_solves 56 = .ok (.iload_n 1, 1) := by decide +kernel
theorem dX12_solves_57 : decode cX12_solves 57 = .ok (.iload_n 2, 1) := by decide +kernel
theorem dX12_solves_58 : decode cX12_solves 58 = .ok (.iload 4, 2) := by decide +kernel
theorem dX12_solves_60 : decode cX12_solves 60 = .ok (.iadd, 1) := by decide +kernel
theorem dX12_solves_61 : decode cX12_solves 61 = .ok (.iconst 1, 1) := by decide +kernel
theorem dX12_solves_62 : decode cX12_solves 62 = .ok (.isub, 1) := by decide +kernel
theorem dX12_solves_63 : decode cX12_solves 63 = .ok (.invokevirtual 106, 3) := by decide +kernel
theorem dX12_solves_66 : decode cX12_solves 66 = .ok (.invokestatic 109, 3) := by decide +kernel
theorem dX12_solves_69 : decode cX12_solves 69 = .ok (.dup2, 1) := by decide +kernel
theorem dX12_solves_70 : decode cX12_solves 70 = .ok (.iaload, 1) := by decide +kernel
theorem dX12_solves_71 : decode cX12_solves 71 = .ok (.iconst 1, 1) := by decide +kernel
theorem dX12_solves_72 : decode cX12_solves 72 = .ok (.iadd, 1) := by decide +kernel
theorem dX12_solves_73 : decode cX12_solves 73 = .ok (.iastore, 1) := by decide +kernel
theorem dX12_solves_74 : decode cX12_solves 74 = .ok (.aload_n 0, 1) := by decide +kernel
theorem dX12_solves_75 : decode cX12_solves 75 = .ok (.iload 4, 2) := by decide +kernel
theorem dX12_solves_77 : decode cX12_solves 77 = .ok (.aload_n 0, 1) := by decide +kernel
theorem dX12_solves_78 : decode cX12_solves 78 = .ok (.iload 4, 2) := by decide +kernel
theorem dX12_solves_80 : decode cX12_solves 80 = .ok (.invokevirtual 119, 3) := by decide +kernel
theorem dX12_solves_83 : decode cX12_solves 83 = .ok (.invokevirtual 125, 3) := by decide +kernel
theorem dX12_solves_86 : decode cX12_solves 86 = .ok (.aload_n 0, 1) := by decide +kernel
theorem dX12_solves_87 : decode cX12_solves 87 = .ok (.getfield 38, 3) := by decide +kernel
theorem dX12_solves_90 : decode cX12_solves 90 = .ok (.iload_n 2, 1) := by decide +kernel
theorem dX12_solves_91 : decode cX12_solves 91 = .ok (.iload 4, 2) := by decide +kernel
theorem dX12_solves_93 : decode cX12_solves 93 = .ok (.iadd, 1) := by decide +kernel
theorem dX12_solves_94 : decode cX12_solves 94 = .ok (.iaload, 1) := by decide +kernel
theorem dX12_solves_95 : decode cX12_solves 95 = .ok (.iadd, 1) := by decide +kernel
theorem dX12_solves_96 : decode cX12_solves 96 = .ok (.istore 5, 2) := by decide +kernel
theorem dX12_solves_98 : decode cX12_solves 98 = .ok (.iconst 1, 1) := by decide +kernel
theorem dX12_solves_99 : decode cX12_solves 99 = .ok (.aload_n 0, 1) := by decide +kernel
theorem dX12_solves_100 : decode cX12_solves 100 = .ok (.getfield 41, 3) := by decide +kernel
theorem dX12_solves_103 : decode cX12_solves 103 = .ok (.iload_n 2, 1) := by decide +kernel
theorem dX12_solves_104 : decode cX12_solves 104 = .ok (.iload 4, 2) := by decide +kernel
theorem dX12_solves_106 : decode cX12_solves 106 = .ok (.iadd, 1) := by decide +kernel
theorem dX12_solves_107 : decode cX12_solves 107 = .ok (.iaload, 1) := by decide +kernel
theorem dX12_solves_108 : decode cX12_solves 108 = .ok (.iadd, 1) := by decide +kernel
theorem dX12_solves_109 : decode cX12_solves 109 = .ok (.istore 6, 2) := by decide +kernel
theorem dX12_solves_111 : decode cX12_solves 111 = .ok (.iload 4, 2) := by decide +kernel
theorem dX12_solves_113 : decode cX12_solves 113 = .ok (.iconst 1, 1) := by decide +kernel
theorem dX12_solves_114 : decode cX12_solves 114 = .ok (.if_icmp .eq 36, 3) := by decide +kernel
theorem dX12_solves_117 : decode cX12_solves 117 = .ok (.iload 5, 2) := by decide +kernel
theorem dX12_solves_119 : decode cX12_solves 119 = .ok (.aload_n 0, 1) := by decide +kernel
theorem dX12_solves_120 : decode cX12_solves 120 = .ok (.getfield 38, 3) := by decide +kernel
theorem dX12_solves_123 : decode cX12_solves 123 = .ok (.iload_n 2, 1) := by decide +kernel
theorem dX12_solves_124 : decode cX12_solves 124 = .ok (.iaload, 1) := by decide +kernel
theorem dX12_solves_125 : decode cX12_solves 125 = .ok (.if_icmp .lt 25, 3) := by decide +kernel
theorem dX12_solves_128 : decode cX12_solves 128 = .ok (.iload 5, 2) := by decide +kernel
theorem dX12_solves_130 : decode cX12_solves 130 = .ok (.aload_n 0, 1) := by decide +kernel
theorem dX12_solves_131 : decode cX12_solves 131 = .ok (.getfield 38, 3) := by decide +kernel
theorem dX12_solves_134 : decode cX12_solves 134 = .ok (.iload_n 2, 1) := by decide +kernel
theorem dX12_solves_135 : decode cX12_solves 135 = .ok (.iaload, 1) := by decide +kernel
theorem dX12_solves_136 : decode cX12_solves 136 = .ok (.if_icmp .ne 18, 3) := by decide +kernel
theorem dX12_solves_139 : decode cX12_solves 139 = .ok (.iload 6, 2) := by decide +kernel
theorem dX12_solves_141 : decode cX12_solves 141 = .ok (.aload_n 0, 1) := by decide +kernel
theorem dX12_solves_142 : decode cX12_solves 142 = .ok (.getfield 41, 3) := by decide +kernel
theorem dX12_solves_145 : decode cX12_solves 145 = .ok (.iload_n 2, 1) := by decide +kernel
theorem dX12_solves_146 : decode cX12_solves 146 = .ok (.iaload, 1) := by decide +kernel
theorem dX12_solves_147 : decode cX12_solves 147 = .ok (.if_icmp .ge 7, 3) := by decide +kernel
theorem dX12_solves_150 : decode cX12_solves 150 = .ok (.iconst 1, 1) := by decide +kernel
theorem dX12_solves_151 : decode cX12_solves 151 = .ok (.goto 4, 3) := by decide +kernel
theorem dX12_solves_154 : decode cX12_solves 154 = .ok (.iconst 0, 1) := by decide +kernel
theorem dX12_solves_155 : decode cX12_solves 155 = .ok (.istore 7, 2) := by decide +kernel
theorem dX12_solves_157 : decode cX12_solves 157 = .ok (.aload_n 0, 1) := by decide +kernel
theorem dX12_solves_158 : decode cX12_solves 158 = .ok (.getfield 38, 3) := by decide +kernel
theorem dX12_solves_161 : decode cX12_solves 161 = .ok (.iload_n 2, 1) := by decide +kernel
theorem dX12_solves_162 : decode cX12_solves 162 = .ok (.iload 7, 2) := by decide +kernel
theorem dX12_solves_164 : decode cX12_solves 164 = .ok (.ifCond .eq 8, 3) := by decide +kernel
theorem dX12_solves_167 : decode cX12_solves 167 = .ok (.iload 5, 2) := by decide +kernel
theorem dX12_solves_169 : decode cX12_solves 169 = .ok (.goto 9, 3) := by decide +kernel
theorem dX12_solves_172 : decode cX12_solves 172 = .ok (.aload_n 0, 1) := by decide +kernel
theorem dX12_solves_173 : decode cX12_solves 173 = .ok (.getfield 38, 3) := by decide +kernel
theorem dX12_solves_176 : decode cX12_solves 176 = .ok (.iload_n 2, 1) := by decide +kernel
theorem dX12_solves_177 : decode cX12_solves 177 = .ok (.iaload, 1) := by decide +kernel
theorem dX12_solves_178 : decode cX12_solves 178 = .ok (.iastore, 1) := by decide +kernel
theorem dX12_solves_179 : decode cX12_solves 179 = .ok (.aload_n 0, 1) := by decide +kernel
theorem dX12_solves_180 : decode cX12_solves 180 = .ok (.getfield 41, 3) := by decide +kernel
theorem dX12_solves_183 : decode cX12_solves 183 = .ok (.iload_n 2, 1) := by decide +kernel
theorem dX12_solves_184 : decode cX12_solves 184 = .ok (.iload 7, 2) := by decide +kernel
theorem dX12_solves_186 : decode cX12_solves 186 = .ok (.ifCond .eq 8, 3) := by decide +kernel
theorem dX12_solves_189 : decode cX12_solves 189 = .ok (.iload 6, 2) := by decide +kernel
theorem dX12_solves_191 : decode cX12_solves 191 = .ok (.goto 9, 3) := by decide +kernel
theorem dX12_solves_194 : decode cX12_solves 194 = .ok (.aload_n 0, 1) := by decide +kernel
theorem dX12_solves_195 : decode cX12_solves 195 = .ok (.getfield 41, 3) := by decide +kernel
theorem dX12_solves_198 : decode cX12_solves 198 = .ok (.iload_n 2, 1) := by decide +kernel
theorem dX12_solves_199 : decode cX12_solves 199 = .ok (.iaload, 1) := by decide +kernel
theorem dX12_solves_200 : decode cX12_solves 200 = .ok (.iastore, 1) := by decide +kernel
theorem dX12_solves_201 : decode cX12_solves 201 = .ok (.aload_n 0, 1) := by decide +kernel
theorem dX12_solves_202 : decode cX12_solves 202 = .ok (.getfield 44, 3) := by decide +kernel
theorem dX12_solves_205 : decode cX12_solves 205 = .ok (.iload_n 2, 1) := by decide +kernel
theorem dX12_solves_206 : decode cX12_solves 206 = .ok (.iload 7, 2) := by decide +kernel
theorem dX12_solves_208 : decode cX12_solves 208 = .ok (.ifCond .eq 8, 3) := by decide +kernel
theorem dX12_solves_211 : decode cX12_solves 211 = .ok (.iload 4, 2) := by decide +kernel
theorem dX12_solves_213 : decode cX12_solves 213 = .ok (.goto 9, 3) := by decide +kernel
theorem dX12_solves_216 : decode cX12_solves 216 = .ok (.aload_n 0, 1) := by decide +kernel
theorem dX12_solves_217 : decode cX12_solves 217 = .ok (.getfield 44, 3) := by decide +kernel
theorem dX12_solves_220 : decode cX12_solves 220 = .ok (.iload_n 2, 1) := by decide +kernel
theorem dX12_solves_221 : decode cX12_solves 221 = .ok (.iaload, 1) := by decide +kernel
theorem dX12_solves_222 : decode cX12_solves 222 = .ok (.iastore, 1) := by decide +kernel
theorem dX12_solves_223 : decode cX12_solves 223 = .ok (.iinc 4 1, 3) := by decide +kernel
theorem dX12_solves_226 : decode cX12_solves 226 = .ok (.goto (-196), 3) := by decide +kernel
theorem dX12_solves_229 : decode cX12_solves 229 = .ok (.return_, 1) := by decide +kernel
theorem dX12_plans_0 : decode cX12_plans 0 = .ok (.aload_n 0, 1) := by decide +kernel
theorem dX12_plans_1 : decode cX12_plans 1 = .ok (.iload_n 1, 1) := by decide +kernel
theorem dX12_plans_2 : decode cX12_plans 2 = .ok (.invokevirtual 131, 3) := by decide +kernel
theorem dX12_plans_5 : decode cX12_plans 5 = .ok (.istore_n 3, 1) := by decide +kernel
theorem dX12_plans_6 : decode cX12_plans 6 = .ok (.aload_n 0, 1) := by decide +kernel
theorem dX12_plans_7 : decode cX12_plans 7 = .ok (.iconst 0, 1) := by decide +kernel
theorem dX12_plans_8 : decode cX12_plans 8 = .ok (.putfield 134, 3) := by decide +kernel
theorem dX12_plans_11 : decode cX12_plans 11 = .ok (.iconst 0, 1) := by decide +kernel
theorem dX12_plans_12 : decode cX12_plans 12 = .ok (.istore 4, 2) := by decide +kernel
theorem dX12_plans_14 : decode cX12_plans 14 = .ok (.aload_n 0, 1) := by decide +kernel
theorem dX12_plans_15 : decode cX12_plans 15 = .ok (.getfield 38, 3) := by decide +kernel
theorem dX12_plans_18 : decode cX12_plans 18 = .ok (.iload_n 3, 1) := by decide +kernel
theorem dX12_plans_19 : decode cX12_plans 19 = .ok (.iconst 0, 1) := by decide +kernel
theorem dX12_plans_20 : decode cX12_plans 20 = .ok (.iastore, 1) := by decide +kernel
theorem dX12_plans_21 : decode cX12_plans 21 = .ok (.aload_n 0, 1) := by decide +kernel
theorem dX12_plans_22 : decode cX12_plans 22 = .ok (.getfield 41, 3) := by decide +kernel
theorem dX12_plans_25 : decode cX12_plans 25 = .ok (.iload_n 3, 1) := by decide +kernel
theorem dX12_plans_26 : decode cX12_plans 26 = .ok (.iconst 0, 1) := by decide +kernel
theorem dX12_plans_27 : decode cX12_plans 27 = .ok (.iastore, 1) := by decide +kernel
theorem dX12_plans_28 : decode cX12_plans 28 = .ok (.iload_n 3, 1) := by decide +kernel
theorem dX12_plans_29 : decode cX12_plans 29 = .ok (.iconst 1, 1) := by decide +kernel
theorem dX12_plans_30 : decode cX12_plans 30 = .ok (.isub, 1) := by decide +kernel
theorem dX12_plans_31 : decode cX12_plans 31 = .ok (.istore 5, 2) := by decide +kernel
theorem dX12_plans_33 : decode cX12_plans 33 = .ok (.iload 5, 2) := by decide +kernel
theorem dX12_plans_35 : decode cX12_plans 35 = .ok (.ifCond .lt 20, 3) := by decide +kernel
theorem dX12_plans_38 : decode cX12_plans 38 = .ok (.iload_n 2, 1) := by decide +kernel
theorem dX12_plans_39 : decode cX12_plans 39 = .ok (.ifCond .ne 16, 3) := by decide +kernel
theorem dX12_plans_42 : decode cX12_plans 42 = .ok (.aload_n 0, 1) := by decide +kernel
theorem dX12_plans_43 : decode cX12_plans 43 = .ok (.iload_n 1, 1) := by decide +kernel
theorem dX12_plans_44 : decode cX12_plans 44 = .ok (.iload 5, 2) := by decide +kernel
theorem dX12_plans_46 : decode cX12_plans 46 = .ok (.invokevirtual 137, 3) := by decide +kernel
theorem dX12_plans_49 : decode cX12_plans 49 = .ok (.iinc 5 (-1), 3) := by decide +kernel
theorem dX12_plans_52 : decode cX12_plans 52 = .ok (.goto (-19), 3) := by decide +kernel
theorem dX12_plans_55 : decode cX12_plans 55 = .ok (.iconst 0, 1) := by decide +kernel
theorem dX12_plans_56 : decode cX12_plans 56 = .ok (.istore 5, 2) := by decide +kernel
theorem dX12_plans_58 : decode cX12_plans 58 = .ok (.iload 5, 2) := by decide +kernel
theorem dX12_plans_60 : decode cX12_plans 60 = .ok (.iload_n 3, 1) := by decide +kernel
theorem dX12_plans_61 : decode cX12_plans 61 = .ok (.if_icmp .ge 97, 3) := by decide +kernel
theorem dX12_plans_64 : decode cX12_plans 64 = .ok (.iload_n 2, 1) := by decide +kernel
theorem dX12_plans_65 : decode cX12_plans 65 = .ok (.ifCond .ne 13, 3) := by decide +kernel
theorem dX12_plans_68 : decode cX12_plans 68 = .ok (.aload_n 0, 1) := by decide +kernel
theorem dX12_plans_69 : decode cX12_plans 69 = .ok (.getfield 44, 3) := by decide +kernel
theorem dX12_plans_72 : decode cX12_plans 72 = .ok (.iload 5, 2) := by decide +kernel
theorem dX12_plans_74 : decode cX12_plans 74 = .ok (.iaload, 1) := by decide +kernel
theorem dX12_plans_75 : decode cX12_plans 75 = .ok (.goto 19, 3) := by decide +kernel
theorem dX12_plans_78 : decode cX12_plans 78 = .ok (.iload 5, 2) := by decide +kernel
theorem dX12_plans_80 : decode cX12_plans 80 = .ok (.iload_n 2, 1) := by decide +kernel
theorem dX12_plans_81 : decode cX12_plans 81 = .ok (.iadd, 1) := by decide +kernel
theorem dX12_plans_82 : decode cX12_plans 82 = .ok (.iload_n 3, 1) := by decide +kernel
theorem dX12_plans_83 : decode cX12_plans 83 = .ok (.if_icmp .le 10, 3) := by decide +kernel
theorem dX12_plans_86 : decode cX12_plans 86 = .ok (.iload_n 3, 1) := by decide +kernel
theorem dX12_plans_87 : decode cX12_plans 87 = .ok (.iload 5, 2) := by decide +kernel
theorem dX12_plans_89 : decode cX12_plans 89 = .ok (.isub, 1) := by decide +kernel
theorem dX12_plans_90 : decode cX12_plans 90 = .ok (.goto 4, 3) := by decide +kernel
theorem dX12_plans_93 : decode cX12_plans 93 = .ok (.iload_n 2, 1) := by decide +kernel
theorem dX12_plans_94 : decode cX12_plans 94 = .ok (.istore 6, 2) := by decide +kernel
theorem dX12_plans_96 : decode cX12_plans 96 = .ok (.aload_n 0, 1) := by decide +kernel
theorem dX12_plans_97 : decode cX12_plans 97 = .ok (.getfield 35, 3) := by decide +kernel
theorem dX12_plans_100 : decode cX12_plans 100 = .ok (.aload_n 0, 1) := by decide +kernel
theorem dX12_plans_101 : decode cX12_plans 101 = .ok (.getfield 134, 3) := by decide +kernel
theorem dX12_plans_104 : decode cX12_plans 104 = .ok (.iload 6, 2) := by decide +kernel
theorem dX12_plans_106 : decode cX12_plans 106 = .ok (.iastore, 1) := by decide +kernel
theorem dX12_plans_107 : decode cX12_plans 107 = .ok (.aload_n 0, 1) := by decide +kernel
theorem dX12_plans_108 : decode cX12_plans 108 = .ok (.dup, 1) := by decide +kernel
theorem dX12_plans_109 : decode cX12_plans 109 = .ok (.getfield 134, 3) := by decide +kernel
theorem dX12_plans_112 : decode cX12_plans 112 = .ok (.iconst 1, 1) := by decide +kernel
theorem dX12_plans_113 : decode cX12_plans 113 = .ok (.iadd, 1) := by decide +kernel
theorem dX12_plans_114 : decode cX12_plans 114 = .ok (.putfield 134, 3) := by decide +kernel
theorem dX12_plans_117 : decode cX12_plans 117 = .ok (.aload_n 0, 1) := by decide +kernel
theorem dX12_plans_118 : decode cX12_plans 118 = .ok (.iload_n 1, 1) := by decide +kernel
theorem dX12_plans_119 : decode cX12_plans 119 = .ok (.iload 5, 2) := by decide +kernel
theorem dX12_plans_121 : decode cX12_plans 121 = .ok (.iload 5, 2) := by decide +kernel
theorem dX12_plans_123 : decode cX12_plans 123 = .ok (.iload 6, 2) := by decide +kernel
theorem dX12_plans_125 : decode cX12_plans 125 = .ok (.iadd, 1) := by decide +kernel
theorem dX12_plans_126 : decode cX12_plans 126 = .ok (.iconst 1, 1) := by decide +kernel
theorem dX12_plans_127 : decode cX12_plans 127 = .ok (.isub, 1) := by decide +kernel
theorem dX12_plans_128 : decode cX12_plans 128 = .ok (.invokevirtual 115, 3) := by decide +kernel
theorem dX12_plans_131 : decode cX12_plans 131 = .ok (.iload 4, 2) := by decide +kernel
theorem dX12_plans_133 : decode cX12_plans 133 = .ok (.aload_n 0, 1) := by decide +kernel
theorem dX12_plans_134 : decode cX12_plans 134 = .ok (.iload 6, 2) := by decide +kernel
theorem dX12_plans_136 : decode cX12_plans 136 = .ok (.aload_n 0, 1) := by decide +kernel
theorem dX12_plans_137 : decode cX12_plans 137 = .ok (.iload 6, 2) := by decide +kernel
theorem dX12_plans_139 : decode cX12_plans 139 = .ok (.invokevirtual 119, 3) := by decide +kernel
theorem dX12_plans_142 : decode cX12_plans 142 = .ok (.invokevirtual 125, 3) := by decide +kernel
theorem dX12_plans_145 : decode cX12_plans 145 = .ok (.iadd, 1) := by decide +kernel
theorem dX12_plans_146 : decode cX12_plans 146 = .ok (.istore 4, 2) := by decide +kernel
theorem dX12_plans_148 : decode cX12_plans 148 = .ok (.iload 5, 2) := by decide +kernel
theorem dX12_plans_150 : decode cX12_plans 150 = .ok (.iload 6, 2) := by decide +kernel
theorem dX12_plans_152 : decode cX12_plans 152 = .ok (.iadd, 1) := by decide +kernel
theorem dX12_plans_153 : decode cX12_plans 153 = .ok (.istore 5, 2) := by decide +kernel
theorem dX12_plans_155 : decode cX12_plans 155 = .ok (.goto (-97), 3) := by decide +kernel
theorem dX12_plans_158 : decode cX12_plans 158 = .ok (.iload 4, 2) := by decide +kernel
theorem dX12_plans_160 : decode cX12_plans 160 = .ok (.ireturn, 1) := by decide +kernel
theorem dX12_packs_0 : decode cX12_packs 0 = .ok (.aload_n 0, 1) := by decide +kernel
theorem dX12_packs_1 : decode cX12_packs 1 = .ok (.iload_n 1, 1) := by decide +kernel
theorem dX12_packs_2 : decode cX12_packs 2 = .ok (.iload_n 2, 1) := by decide +kernel
theorem dX12_packs_3 : decode cX12_packs 3 = .ok (.invokevirtual 141, 3) := by decide +kernel
theorem dX12_packs_6 : decode cX12_packs 6 = .ok (.istore_n 3, 1) := by decide +kernel
theorem dX12_packs_7 : decode cX12_packs 7 = .ok (.aload_n 0, 1) := by decide +kernel
theorem dX12_packs_8 : decode cX12_packs 8 = .ok (.getfield 7, 3) := by decide +kernel
theorem dX12_packs_11 : decode cX12_packs 11 = .ok (.sipush 402, 3) := by decide +kernel
theorem dX12_packs_14 : decode cX12_packs 14 = .ok (.iload_n 1, 1) := by decide +kernel
theorem dX12_packs_15 : decode cX12_packs 15 = .ok (.imul, 1) := by decide +kernel
theorem dX12_packs_16 : decode cX12_packs 16 = .ok (.sipush 201, 3) := by decide +kernel
theorem dX12_packs_19 : decode cX12_packs 19 = .ok (.iadd, 1) := by decide +kernel
theorem dX12_packs_20 : decode cX12_packs 20 = .ok (.aload_n 0, 1) := by decide +kernel
theorem dX12_packs_21 : decode cX12_packs 21 = .ok (.getfield 134, 3) := by decide +kernel
theorem dX12_packs_24 : decode cX12_packs 24 = .ok (.iastore, 1) := by decide +kernel
theorem dX12_packs_25 : decode cX12_packs 25 = .ok (.iconst 0, 1) := by decide +kernel
theorem dX12_packs_26 : decode cX12_packs 26 = .ok (.istore 4, 2) := by decide +kernel
theorem dX12_packs_28 : decode cX12_packs 28 = .ok (.iload 4, 2) := by decide +kernel
theorem dX12_packs_30 : decode cX12_packs 30 = .ok (.aload_n 0, 1) := by decide +kernel
theorem dX12_packs_31 : decode cX12_packs 31 = .ok (.getfield 134, 3) := by decide +kernel
theorem dX12_packs_34 : decode cX12_packs 34 = .ok (.if_icmp .ge 33, 3) := by decide +kernel
theorem dX12_packs_37 : decode cX12_packs 37 = .ok (.aload_n 0, 1) := by decide +kernel
theorem dX12_packs_38 : decode cX12_packs 38 = .ok (.getfield 7, 3) := by decide +kernel
theorem dX12_packs_41 : decode cX12_packs 41 = .ok (.sipush 402, 3) := by decide +kernel
theorem dX12_packs_44 : decode cX12_packs 44 = .ok (.iload_n 1, 1) := by decide +kernel
theorem dX12_packs_45 : decode cX12_packs 45 = .ok (.imul, 1) := by decide +kernel
theorem dX12_packs_46 : decode cX12_packs 46 = .ok (.sipush 202, 3) := by decide +kernel
theorem dX12_packs_49 : decode cX12_packs 49 = .ok (.iadd, 1) := by decide +kernel
theorem dX12_packs_50 : decode cX12_packs 50 = .ok (.iload 4, 2) := by decide +kernel
theorem dX12_packs_52 : decode cX12_packs 52 = .ok (.iadd, 1) := by decide +kernel
theorem dX12_packs_53 : decode cX12_packs 53 = .ok (.aload_n 0, 1) := by decide +kernel
theorem dX12_packs_54 : decode cX12_packs 54 = .ok (.getfield 35, 3) := by decide +kernel
theorem dX12_packs_57 : decode cX12_packs 57 = .ok (.iload 4, 2) := by decide +kernel
theorem dX12_packs_59 : decode cX12_packs 59 = .ok (.iaload, 1) := by decide +kernel
theorem dX12_packs_60 : decode cX12_packs 60 = .ok (.iastore, 1) := by decide +kernel
theorem dX12_packs_61 : decode cX12_packs 61 = .ok (.iinc 4 1, 3) := by decide +kernel
theorem dX12_packs_64 : decode cX12_packs 64 = .ok (.goto (-36), 3) := by decide +kernel
theorem dX12_packs_67 : decode cX12_packs 67 = .ok (.iload_n 3, 1) := by decide +kernel
theorem dX12_packs_68 : decode cX12_packs 68 = .ok (.ireturn, 1) := by decide +kernel
theorem dX12_place_0 : decode cX12_place 0 = .ok (.iconst 0, 1) := by decide +kernel
theorem dX12_place_1 : decode cX12_place 1 = .ok (.istore_n 3, 1) := by decide +kernel
theorem dX12_place_2 : decode cX12_place 2 = .ok (.iload_n 3, 1) := by decide +kernel
theorem dX12_place_3 : decode cX12_place 3 = .ok (.aload_n 0, 1) := by decide +kernel
theorem dX12_place_4 : decode cX12_place 4 = .ok (.iload_n 1, 1) := by decide +kernel
theorem dX12_place_5 : decode cX12_place 5 = .ok (.invokevirtual 131, 3) := by decide +kernel
theorem dX12_place_8 : decode cX12_place 8 = .ok (.if_icmp .ge 19, 3) := by decide +kernel
theorem dX12_place_11 : decode cX12_place 11 = .ok (.aload_n 0, 1) := by decide +kernel
theorem dX12_place_12 : decode cX12_place 12 = .ok (.iload_n 1, 1) := by decide +kernel
theorem dX12_place_13 : decode cX12_place 13 = .ok (.iload_n 3, 1) := by decide +kernel
theorem dX12_place_14 : decode cX12_place 14 = .ok (.invokevirtual 103, 3) := by decide +kernel
theorem dX12_place_17 : decode cX12_place 17 = .ok (.iload_n 2, 1) := by decide +kernel
theorem dX12_place_18 : decode cX12_place 18 = .ok (.if_icmp .ge 9, 3) := by decide +kernel
theorem dX12_place_21 : decode cX12_place 21 = .ok (.iinc 3 1, 3) := by decide +kernel
theorem dX12_place_24 : decode cX12_place 24 = .ok (.goto (-22), 3) := by decide +kernel
theorem dX12_place_27 : decode cX12_place 27 = .ok (.iload_n 3, 1) := by decide +kernel
theorem dX12_place_28 : decode cX12_place 28 = .ok (.ireturn, 1) := by decide +kernel
theorem dX12_has_0 : decode cX12_has 0 = .ok (.aload_n 0, 1) := by decide +kernel
theorem dX12_has_1 : decode cX12_has 1 = .ok (.iload_n 1, 1) := by decide +kernel
theorem dX12_has_2 : decode cX12_has 2 = .ok (.iload_n 2, 1) := by decide +kernel
theorem dX12_has_3 : decode cX12_has 3 = .ok (.invokevirtual 144, 3) := by decide +kernel
theorem dX12_has_6 : decode cX12_has 6 = .ok (.istore_n 3, 1) := by decide +kernel
theorem dX12_has_7 : decode cX12_has 7 = .ok (.iload_n 3, 1) := by decide +kernel
theorem dX12_has_8 : decode cX12_has 8 = .ok (.aload_n 0, 1) := by decide +kernel
theorem dX12_has_9 : decode cX12_has 9 = .ok (.iload_n 1, 1) := by decide +kernel
theorem dX12_has_10 : decode cX12_has 10 = .ok (.invokevirtual 131, 3) := by decide +kernel
theorem dX12_has_13 : decode cX12_has 13 = .ok (.if_icmp .ge 17, 3) := by decide +kernel
theorem dX12_has_16 : decode cX12_has 16 = .ok (.aload_n 0, 1) := by decide +kernel
theorem dX12_has_17 : decode cX12_has 17 = .ok (.iload_n 1, 1) := by decide +kernel
theorem dX12_has_18 : decode cX12_has 18 = .ok (.iload_n 3, 1) := by decide +kernel
theorem dX12_has_19 : decode cX12_has 19 = .ok (.invokevirtual 103, 3) := by decide +kernel
theorem dX12_has_22 : decode cX12_has 22 = .ok (.iload_n 2, 1) := by decide +kernel
theorem dX12_has_23 : decode cX12_has 23 = .ok (.if_icmp .ne 7, 3) := by decide +kernel
theorem dX12_has_26 : decode cX12_has 26 = .ok (.iconst 1, 1) := by decide +kernel
theorem dX12_has_27 : decode cX12_has 27 = .ok (.goto 4, 3) := by decide +kernel
theorem dX12_has_30 : decode cX12_has 30 = .ok (.iconst 0, 1) := by decide +kernel
theorem dX12_has_31 : decode cX12_has 31 = .ok (.ireturn, 1) := by decide +kernel
theorem dX12_lastBlock_0 : decode cX12_lastBlock 0 = .ok (.iconst (-1), 1) := by decide +kernel
theorem dX12_lastBlock_1 : decode cX12_lastBlock 1 = .ok (.istore_n 3, 1) := by decide +kernel
theorem dX12_lastBlock_2 : decode cX12_lastBlock 2 = .ok (.iconst 0, 1) := by decide +kernel
theorem dX12_lastBlock_3 : decode cX12_lastBlock 3 = .ok (.istore 4, 2) := by decide +kernel
theorem dX12_lastBlock_5 : decode cX12_lastBlock 5 = .ok (.iload 4, 2) := by decide +kernel
theorem dX12_lastBlock_7 : decode cX12_lastBlock 7 = .ok (.aload_n 0, 1) := by decide +kernel
theorem dX12_lastBlock_8 : decode cX12_lastBlock 8 = .ok (.iload_n 1, 1) := by decide +kernel
theorem dX12_lastBlock_9 : decode cX12_lastBlock 9 = .ok (.invokevirtual 77, 3) := by decide +kernel
theorem dX12_lastBlock_12 : decode cX12_lastBlock 12 = .ok (.if_icmp .ge 32, 3) := by decide +kernel
theorem dX12_lastBlock_15 : decode cX12_lastBlock 15 = .ok (.aload_n 0, 1) := by decide +kernel
theorem dX12_lastBlock_16 : decode cX12_lastBlock 16 = .ok (.iload_n 1, 1) := by decide +kernel
theorem dX12_lastBlock_17 : decode cX12_lastBlock 17 = .ok (.aload_n 0, 1) := by decide +kernel
theorem dX12_lastBlock_18 : decode cX12_lastBlock 18 = .ok (.iload_n 1, 1) := by decide +kernel
theorem dX12_lastBlock_19 : decode cX12_lastBlock 19 = .ok (.iload 4, 2) := by decide +kernel
theorem dX12_lastBlock_21 : decode cX12_lastBlock 21 = .ok (.invokevirtual 85, 3) := by decide +kernel
theorem dX12_lastBlock_24 : decode cX12_lastBlock 24 = .ok (.invokevirtual 103, 3) := by decide +kernel
theorem dX12_lastBlock_27 : decode cX12_lastBlock 27 = .ok (.iload_n 2, 1) := by decide +kernel
theorem dX12_lastBlock_28 : decode cX12_lastBlock 28 = .ok (.if_icmp .gt 8, 3) := by decide +kernel
theorem dX12_lastBlock_31 : decode cX12_lastBlock 31 = .ok (.iload 4, 2) := by decide +kernel
theorem dX12_lastBlock_33 : decode cX12_lastBlock 33 = .ok (.goto 4, 3) := by decide +kernel
theorem dX12_lastBlock_36 : decode cX12_lastBlock 36 = .ok (.iload_n 3, 1) := by decide +kernel
theorem dX12_lastBlock_37 : decode cX12_lastBlock 37 = .ok (.istore_n 3, 1) := by decide +kernel
theorem dX12_lastBlock_38 : decode cX12_lastBlock 38 = .ok (.iinc 4 1, 3) := by decide +kernel
theorem dX12_lastBlock_41 : decode cX12_lastBlock 41 = .ok (.goto (-36), 3) := by decide +kernel
theorem dX12_lastBlock_44 : decode cX12_lastBlock 44 = .ok (.iload_n 3, 1) := by decide +kernel
theorem dX12_lastBlock_45 : decode cX12_lastBlock 45 = .ok (.ireturn, 1) := by decide +kernel
theorem dX12_splits_0 : decode cX12_splits 0 = .ok (.sipush 402, 3) := by decide +kernel
theorem dX12_splits_3 : decode cX12_splits 3 = .ok (.iload_n 1, 1) := by decide +kernel
theorem dX12_splits_4 : decode cX12_splits 4 = .ok (.imul, 1) := by decide +kernel
theorem dX12_splits_5 : decode cX12_splits 5 = .ok (.sipush 202, 3) := by decide +kernel
theorem dX12_splits_8 : decode cX12_splits 8 = .ok (.iadd, 1) := by decide +kernel
theorem dX12_splits_9 : decode cX12_splits 9 = .ok (.istore_n 3, 1) := by decide +kernel
theorem dX12_splits_10 : decode cX12_splits 10 = .ok (.aload_n 0, 1) := by decide +kernel
theorem dX12_splits_11 : decode cX12_splits 11 = .ok (.iload_n 1, 1) := by decide +kernel
theorem dX12_splits_12 : decode cX12_splits 12 = .ok (.invokevirtual 77, 3) := by decide +kernel
theorem dX12_splits_15 : decode cX12_splits 15 = .ok (.istore 4, 2) := by decide +kernel
theorem dX12_splits_17 : decode cX12_splits 17 = .ok (.iload 4, 2) := by decide +kernel
theorem dX12_splits_19 : decode cX12_splits 19 = .ok (.iload_n 2, 1) := by decide +kernel
theorem dX12_splits_20 : decode cX12_splits 20 = .ok (.iconst 1, 1) := by decide +kernel
theorem dX12_splits_21 : decode cX12_splits 21 = .ok (.iadd, 1) := by decide +kernel
theorem dX12_splits_22 : decode cX12_splits 22 = .ok (.if_icmp .le 29, 3) := by decide +kernel
theorem dX12_splits_25 : decode cX12_splits 25 = .ok (.aload_n 0, 1) := by decide +kernel
theorem dX12_splits_26 : decode cX12_splits 26 = .ok (.getfield 7, 3) := by decide +kernel
theorem dX12_splits_29 : decode cX12_splits 29 = .ok (.iload_n 3, 1) := by decide +kernel
theorem dX12_splits_30 : decode cX12_splits 30 = .ok (.iload 4, 2) := by decide +kernel
theorem dX12_splits_32 : decode cX12_splits 32 = .ok (.iadd, 1) := by decide +kernel
theorem dX12_splits_33 : decode cX12_splits 33 = .ok (.aload_n 0, 1) := by decide +kernel
theorem dX12_splits_34 : decode cX12_splits 34 = .ok (.getfield 7, 3) := by decide +kernel
theorem dX12_splits_37 : decode cX12_splits 37 = .ok (.iload_n 3, 1) := by decide +kernel
theorem dX12_splits_38 : decode cX12_splits 38 = .ok (.iload 4, 2) := by decide +kernel
theorem dX12_splits_40 : decode cX12_splits 40 = .ok (.iadd, 1) := by decide +kernel
theorem dX12_splits_41 : decode cX12_splits 41 = .ok (.iconst 1, 1) := by decide +kernel
theorem dX12_splits_42 : decode cX12_splits 42 = .ok (.isub, 1) := by decide +kernel
theorem dX12_splits_43 : decode cX12_splits 43 = .ok (.iaload, 1) := by decide +kernel
theorem dX12_splits_44 : decode cX12_splits 44 = .ok (.iastore, 1) := by decide +kernel
theorem dX12_splits_45 : decode cX12_splits 45 = .ok (.iinc 4 (-1), 3) := by decide +kernel
theorem dX12_splits_48 : decode cX12_splits 48 = .ok (.goto (-31), 3) := by decide +kernel
theorem dX12_splits_51 : decode cX12_splits 51 = .ok (.aload_n 0, 1) := by decide +kernel
theorem dX12_splits_52 : decode cX12_splits 52 = .ok (.getfield 7, 3) := by decide +kernel
theorem dX12_splits_55 : decode cX12_splits 55 = .ok (.iload_n 3, 1) := by decide +kernel
theorem dX12_splits_56 : decode cX12_splits 56 = .ok (.iload_n 2, 1) := by decide +kernel
theorem dX12_splits_57 : decode cX12_splits 57 = .ok (.iadd, 1) := by decide +kernel
theorem dX12_splits_58 : decode cX12_splits 58 = .ok (.bipush 32, 2) := by decide +kernel
theorem dX12_splits_60 : decode cX12_splits 60 = .ok (.iastore, 1) := by decide +kernel
theorem dX12_splits_61 : decode cX12_splits 61 = .ok (.aload_n 0, 1) := by decide +kernel
theorem dX12_splits_62 : decode cX12_splits 62 = .ok (.getfield 7, 3) := by decide +kernel
theorem dX12_splits_65 : decode cX12_splits 65 = .ok (.iload_n 3, 1) := by decide +kernel
theorem dX12_splits_66 : decode cX12_splits 66 = .ok (.iload_n 2, 1) := by decide +kernel
theorem dX12_splits_67 : decode cX12_splits 67 = .ok (.iadd, 1) := by decide +kernel
theorem dX12_splits_68 : decode cX12_splits 68 = .ok (.iconst 1, 1) := by decide +kernel
theorem dX12_splits_69 : decode cX12_splits 69 = .ok (.iadd, 1) := by decide +kernel
theorem dX12_splits_70 : decode cX12_splits 70 = .ok (.bipush 33, 2) := by decide +kernel
theorem dX12_splits_72 : decode cX12_splits 72 = .ok (.iastore, 1) := by decide +kernel
theorem dX12_splits_73 : decode cX12_splits 73 = .ok (.aload_n 0, 1) := by decide +kernel
theorem dX12_splits_74 : decode cX12_splits 74 = .ok (.getfield 7, 3) := by decide +kernel
theorem dX12_splits_77 : decode cX12_splits 77 = .ok (.sipush 402, 3) := by decide +kernel
theorem dX12_splits_80 : decode cX12_splits 80 = .ok (.iload_n 1, 1) := by decide +kernel
theorem dX12_splits_81 : decode cX12_splits 81 = .ok (.imul, 1) := by decide +kernel
theorem dX12_splits_82 : decode cX12_splits 82 = .ok (.sipush 201, 3) := by decide +kernel
theorem dX12_splits_85 : decode cX12_splits 85 = .ok (.iadd, 1) := by decide +kernel
theorem dX12_splits_86 : decode cX12_splits 86 = .ok (.dup2, 1) := by decide +kernel
theorem dX12_splits_87 : decode cX12_splits 87 = .ok (.iaload, 1) := by decide +kernel
theorem dX12_splits_88 : decode cX12_splits 88 = .ok (.iconst 1, 1) := by decide +kernel
theorem dX12_splits_89 : decode cX12_splits 89 = .ok (.iadd, 1) := by decide +kernel
theorem dX12_splits_90 : decode cX12_splits 90 = .ok (.iastore, 1) := by decide +kernel
theorem dX12_splits_91 : decode cX12_splits 91 = .ok (.return_, 1) := by decide +kernel
theorem dX12_add_0 : decode cX12_add 0 = .ok (.iload_n 1, 1) := by decide +kernel
theorem dX12_add_1 : decode cX12_add 1 = .ok (.invokestatic 73, 3) := by decide +kernel
theorem dX12_add_4 : decode cX12_add 4 = .ok (.ifCond .eq 10, 3) := by decide +kernel
theorem dX12_add_7 : decode cX12_add 7 = .ok (.iload_n 2, 1) := by decide +kernel
theorem dX12_add_8 : decode cX12_add 8 = .ok (.invokestatic 147, 3) := by decide +kernel
theorem dX12_add_11 : decode cX12_add 11 = .ok (.ifCond .ne 6, 3) := by decide +kernel
theorem dX12_add_14 : decode cX12_add 14 = .ok (.bipush (-2), 2) := by decide +kernel
theorem dX12_add_16 : decode cX12_add 16 = .ok (.ireturn, 1) := by decide +kernel
theorem dX12_add_17 : decode cX12_add 17 = .ok (.aload_n 0, 1) := by decide +kernel
theorem dX12_add_18 : decode cX12_add 18 = .ok (.iload_n 1, 1) := by decide +kernel
theorem dX12_add_19 : decode cX12_add 19 = .ok (.iload_n 2, 1) := by decide +kernel
theorem dX12_add_20 : decode cX12_add 20 = .ok (.invokevirtual 150, 3) := by decide +kernel
theorem dX12_add_23 : decode cX12_add 23 = .ok (.ifCond .eq 6, 3) := by decide +kernel
theorem dX12_add_26 : decode cX12_add 26 = .ok (.bipush (-3), 2) := by decide +kernel
theorem dX12_add_28 : decode cX12_add 28 = .ok (.ireturn, 1) := by decide +kernel
theorem dX12_add_29 : decode cX12_add 29 = .ok (.aload_n 0, 1) := by decide +kernel
theorem dX12_add_30 : decode cX12_add 30 = .ok (.iload_n 1, 1) := by decide +kernel
theorem dX12_add_31 : decode cX12_add 31 = .ok (.invokevirtual 131, 3) := by decide +kernel
theorem dX12_add_34 : decode cX12_add 34 = .ok (.sipush 200, 3) := by decide +kernel
theorem dX12_add_37 : decode cX12_add 37 = .ok (.if_icmp .ne 6, 3) := by decide +kernel
theorem dX12_add_40 : decode cX12_add 40 = .ok (.bipush (-4), 2) := by decide +kernel
theorem dX12_add_42 : decode cX12_add 42 = .ok (.ireturn, 1) := by decide +kernel
theorem dX12_add_43 : decode cX12_add 43 = .ok (.aload_n 0, 1) := by decide +kernel
theorem dX12_add_44 : decode cX12_add 44 = .ok (.iload_n 1, 1) := by decide +kernel
theorem dX12_add_45 : decode cX12_add 45 = .ok (.invokevirtual 154, 3) := by decide +kernel
theorem dX12_add_48 : decode cX12_add 48 = .ok (.aload_n 0, 1) := by decide +kernel
theorem dX12_add_49 : decode cX12_add 49 = .ok (.iload_n 1, 1) := by decide +kernel
theorem dX12_add_50 : decode cX12_add 50 = .ok (.iload_n 2, 1) := by decide +kernel
theorem dX12_add_51 : decode cX12_add 51 = .ok (.invokevirtual 158, 3) := by decide +kernel
theorem dX12_add_54 : decode cX12_add 54 = .ok (.istore_n 3, 1) := by decide +kernel
theorem dX12_add_55 : decode cX12_add 55 = .ok (.iload_n 3, 1) := by decide +kernel
theorem dX12_add_56 : decode cX12_add 56 = .ok (.iconst (-1), 1) := by decide +kernel
theorem dX12_add_57 : decode cX12_add 57 = .ok (.if_icmp .ne 7, 3) := by decide +kernel
theorem dX12_add_60 : decode cX12_add 60 = .ok (.iconst 0, 1) := by decide +kernel
theorem dX12_add_61 : decode cX12_add 61 = .ok (.goto 4, 3) := by decide +kernel
theorem dX12_add_64 : decode cX12_add 64 = .ok (.iload_n 3, 1) := by decide +kernel
theorem dX12_add_65 : decode cX12_add 65 = .ok (.istore 4, 2) := by decide +kernel
theorem dX12_add_67 : decode cX12_add 67 = .ok (.aload_n 0, 1) := by decide +kernel
theorem dX12_add_68 : decode cX12_add 68 = .ok (.iload_n 1, 1) := by decide +kernel
theorem dX12_add_69 : decode cX12_add 69 = .ok (.iload_n 2, 1) := by decide +kernel
theorem dX12_add_70 : decode cX12_add 70 = .ok (.invokevirtual 144, 3) := by decide +kernel
theorem dX12_add_73 : decode cX12_add 73 = .ok (.istore 5, 2) := by decide +kernel
theorem dX12_add_75 : decode cX12_add 75 = .ok (.aload_n 0, 1) := by decide +kernel
theorem dX12_add_76 : decode cX12_add 76 = .ok (.iload_n 1, 1) := by decide +kernel
theorem dX12_add_77 : decode cX12_add 77 = .ok (.invokevirtual 131, 3) := by decide +kernel
theorem dX12_add_80 : decode cX12_add 80 = .ok (.istore 6, 2) := by decide +kernel
theorem dX12_add_82 : decode cX12_add 82 = .ok (.iload 6, 2) := by decide +kernel
theorem dX12_add_84 : decode cX12_add 84 = .ok (.iload 5, 2) := by decide +kernel
theorem dX12_add_86 : decode cX12_add 86 = .ok (.if_icmp .le 33, 3) := by decide +kernel
theorem dX12_add_89 : decode cX12_add 89 = .ok (.aload_n 0, 1) := by decide +kernel
theorem dX12_add_90 : decode cX12_add 90 = .ok (.getfield 7, 3) := by decide +kernel
theorem dX12_add_93 : decode cX12_add 93 = .ok (.sipush 402, 3) := by decide +kernel
theorem dX12_add_96 : decode cX12_add 96 = .ok (.iload_n 1, 1) := by decide +kernel
theorem dX12_add_97 : decode cX12_add 97 = .ok (.imul, 1) := by decide +kernel
theorem dX12_add_98 : decode cX12_add 98 = .ok (.iconst 1, 1) := by decide +kernel
theorem dX12_add_99 : decode cX12_add 99 = .ok (.iadd, 1) := by decide +kernel
theorem dX12_add_100 : decode cX12_add 100 = .ok (.iload 6, 2) := by decide +kernel
theorem dX12_add_102 : decode cX12_add 102 = .ok (.iadd, 1) := by decide +kernel
theorem dX12_add_103 : decode cX12_add 103 = .ok (.aload_n 0, 1) := by decide +kernel
theorem dX12_add_104 : decode cX12_add 104 = .ok (.iload_n 1, 1) := by decide +kernel
theorem dX12_add_105 : decode cX12_add 105 = .ok (.iload 6, 2) := by decide +kernel
theorem dX12_add_107 : decode cX12_add 107 = .ok (.iconst 1, 1) := by decide +kernel
theorem dX12_add_108 : decode cX12_add 108 = .ok (.isub, 1) := by decide +kernel
theorem dX12_add_109 : decode cX12_add 109 = .ok (.invokevirtual 103, 3) := by decide +kernel
theorem dX12_add_112 : decode cX12_add 112 = .ok (.iastore, 1) := by decide +kernel
theorem dX12_add_113 : decode cX12_add 113 = .ok (.iinc 6 (-1), 3) := by decide +kernel
theorem dX12_add_116 : decode cX12_add 116 = .ok (.goto (-34), 3) := by decide +kernel
theorem dX12_add_119 : decode cX12_add 119 = .ok (.aload_n 0, 1) := by decide +kernel
theorem dX12_add_120 : decode cX12_add 120 = .ok (.getfield 7, 3) := by decide +kernel
theorem dX12_add_123 : decode cX12_add 123 = .ok (.sipush 402, 3) := by decide +kernel
theorem dX12_add_126 : decode cX12_add 126 = .ok (.iload_n 1, 1) := by decide +kernel
theorem dX12_add_127 : decode cX12_add 127 = .ok (.imul, 1) := by decide +kernel
theorem dX12_add_128 : decode cX12_add 128 = .ok (.iconst 1, 1) := by decide +kernel
theorem dX12_add_129 : decode cX12_add 129 = .ok (.iadd, 1) := by decide +kernel
theorem dX12_add_130 : decode cX12_add 130 = .ok (.iload 5, 2) := by decide +kernel
theorem dX12_add_132 : decode cX12_add 132 = .ok (.iadd, 1) := by decide +kernel
theorem dX12_add_133 : decode cX12_add 133 = .ok (.iload_n 2, 1) := by decide +kernel
theorem dX12_add_134 : decode cX12_add 134 = .ok (.iastore, 1) := by decide +kernel
theorem dX12_add_135 : decode cX12_add 135 = .ok (.aload_n 0, 1) := by decide +kernel
theorem dX12_add_136 : decode cX12_add 136 = .ok (.getfield 7, 3) := by decide +kernel
theorem dX12_add_139 : decode cX12_add 139 = .ok (.sipush 402, 3) := by decide +kernel
theorem dX12_add_142 : decode cX12_add 142 = .ok (.iload_n 1, 1) := by decide +kernel
theorem dX12_add_143 : decode cX12_add 143 = .ok (.imul, 1) := by decide +kernel
theorem dX12_add_144 : decode cX12_add 144 = .ok (.dup2, 1) := by decide +kernel
theorem dX12_add_145 : decode cX12_add 145 = .ok (.iaload, 1) := by decide +kernel
theorem dX12_add_146 : decode cX12_add 146 = .ok (.iconst 1, 1) := by decide +kernel
theorem dX12_add_147 : decode cX12_add 147 = .ok (.iadd, 1) := by decide +kernel
theorem dX12_add_148 : decode cX12_add 148 = .ok (.iastore, 1) := by decide +kernel
theorem dX12_add_149 : decode cX12_add 149 = .ok (.aload_n 0, 1) := by decide +kernel
theorem dX12_add_150 : decode cX12_add 150 = .ok (.iload_n 1, 1) := by decide +kernel
theorem dX12_add_151 : decode cX12_add 151 = .ok (.invokevirtual 77, 3) := by decide +kernel
theorem dX12_add_154 : decode cX12_add 154 = .ok (.ifCond .ne 33, 3) := by decide +kernel
theorem dX12_add_157 : decode cX12_add 157 = .ok (.aload_n 0, 1) := by decide +kernel
theorem dX12_add_158 : decode cX12_add 158 = .ok (.getfield 7, 3) := by decide +kernel
theorem dX12_add_161 : decode cX12_add 161 = .ok (.sipush 402, 3) := by decide +kernel
theorem dX12_add_164 : decode cX12_add 164 = .ok (.iload_n 1, 1) := by decide +kernel
theorem dX12_add_165 : decode cX12_add 165 = .ok (.imul, 1) := by decide +kernel
theorem dX12_add_166 : decode cX12_add 166 = .ok (.sipush 201, 3) := by decide +kernel
theorem dX12_add_169 : decode cX12_add 169 = .ok (.iadd, 1) := by decide +kernel
theorem dX12_add_170 : decode cX12_add 170 = .ok (.iconst 1, 1) := by decide +kernel
theorem dX12_add_171 : decode cX12_add 171 = .ok (.iastore, 1) := by decide +kernel
theorem dX12_add_172 : decode cX12_add 172 = .ok (.aload_n 0, 1) := by decide +kernel
theorem dX12_add_173 : decode cX12_add 173 = .ok (.getfield 7, 3) := by decide +kernel
theorem dX12_add_176 : decode cX12_add 176 = .ok (.sipush 402, 3) := by decide +kernel
theorem dX12_add_179 : decode cX12_add 179 = .ok (.iload_n 1, 1) := by decide +kernel
theorem dX12_add_180 : decode cX12_add 180 = .ok (.imul, 1) := by decide +kernel
theorem dX12_add_181 : decode cX12_add 181 = .ok (.sipush 202, 3) := by decide +kernel
theorem dX12_add_184 : decode cX12_add 184 = .ok (.iadd, 1) := by decide +kernel
theorem dX12_add_185 : decode cX12_add 185 = .ok (.iconst 0, 1) := by decide +kernel
theorem dX12_add_186 : decode cX12_add 186 = .ok (.iastore, 1) := by decide +kernel
theorem dX12_add_187 : decode cX12_add 187 = .ok (.aload_n 0, 1) := by decide +kernel
theorem dX12_add_188 : decode cX12_add 188 = .ok (.getfield 7, 3) := by decide +kernel
theorem dX12_add_191 : decode cX12_add 191 = .ok (.sipush 402, 3) := by decide +kernel
theorem dX12_add_194 : decode cX12_add 194 = .ok (.iload_n 1, 1) := by decide +kernel
theorem dX12_add_195 : decode cX12_add 195 = .ok (.imul, 1) := by decide +kernel
theorem dX12_add_196 : decode cX12_add 196 = .ok (.sipush 202, 3) := by decide +kernel
theorem dX12_add_199 : decode cX12_add 199 = .ok (.iadd, 1) := by decide +kernel
theorem dX12_add_200 : decode cX12_add 200 = .ok (.iload 4, 2) := by decide +kernel
theorem dX12_add_202 : decode cX12_add 202 = .ok (.iadd, 1) := by decide +kernel
theorem dX12_add_203 : decode cX12_add 203 = .ok (.dup2, 1) := by decide +kernel
theorem dX12_add_204 : decode cX12_add 204 = .ok (.iaload, 1) := by decide +kernel
theorem dX12_add_205 : decode cX12_add 205 = .ok (.iconst 1, 1) := by decide +kernel
theorem dX12_add_206 : decode cX12_add 206 = .ok (.iadd, 1) := by decide +kernel
theorem dX12_add_207 : decode cX12_add 207 = .ok (.iastore, 1) := by decide +kernel
theorem dX12_add_208 : decode cX12_add 208 = .ok (.aload_n 0, 1) := by decide +kernel
theorem dX12_add_209 : decode cX12_add 209 = .ok (.iload_n 1, 1) := by decide +kernel
theorem dX12_add_210 : decode cX12_add 210 = .ok (.iload 4, 2) := by decide +kernel
theorem dX12_add_212 : decode cX12_add 212 = .ok (.invokevirtual 81, 3) := by decide +kernel
theorem dX12_add_215 : decode cX12_add 215 = .ok (.bipush 64, 2) := by decide +kernel
theorem dX12_add_217 : decode cX12_add 217 = .ok (.if_icmp .le 10, 3) := by decide +kernel
theorem dX12_add_220 : decode cX12_add 220 = .ok (.aload_n 0, 1) := by decide +kernel
theorem dX12_add_221 : decode cX12_add 221 = .ok (.iload_n 1, 1) := by decide +kernel
theorem dX12_add_222 : decode cX12_add 222 = .ok (.iload 4, 2) := by decide +kernel
theorem dX12_add_224 : decode cX12_add 224 = .ok (.invokevirtual 161, 3) := by decide +kernel
theorem dX12_add_227 : decode cX12_add 227 = .ok (.iload 5, 2) := by decide +kernel
theorem dX12_add_229 : decode cX12_add 229 = .ok (.ireturn, 1) := by decide +kernel
theorem dX12_remove_0 : decode cX12_remove 0 = .ok (.iload_n 1, 1) := by decide +kernel
theorem dX12_remove_1 : decode cX12_remove 1 = .ok (.invokestatic 73, 3) := by decide +kernel
theorem dX12_remove_4 : decode cX12_remove 4 = .ok (.ifCond .eq 10, 3) := by decide +kernel
theorem dX12_remove_7 : decode cX12_remove 7 = .ok (.iload_n 2, 1) := by decide +kernel
theorem dX12_remove_8 : decode cX12_remove 8 = .ok (.invokestatic 147, 3) := by decide +kernel
theorem dX12_remove_11 : decode cX12_remove 11 = .ok (.ifCond .ne 6, 3) := by decide +kernel
theorem dX12_remove_14 : decode cX12_remove 14 = .ok (.bipush (-2), 2) := by decide +kernel
theorem dX12_remove_16 : decode cX12_remove 16 = .ok (.ireturn, 1) := by decide +kernel
theorem dX12_remove_17 : decode cX12_remove 17 = .ok (.aload_n 0, 1) := by decide +kernel
theorem dX12_remove_18 : decode cX12_remove 18 = .ok (.iload_n 1, 1) := by decide +kernel
theorem dX12_remove_19 : decode cX12_remove 19 = .ok (.iload_n 2, 1) := by decide +kernel
theorem dX12_remove_20 : decode cX12_remove 20 = .ok (.invokevirtual 150, 3) := by decide +kernel
theorem dX12_remove_23 : decode cX12_remove 23 = .ok (.ifCond .ne 6, 3) := by decide +kernel
theorem dX12_remove_26 : decode cX12_remove 26 = .ok (.bipush (-3), 2) := by decide +kernel
theorem dX12_remove_28 : decode cX12_remove 28 = .ok (.ireturn, 1) := by decide +kernel
theorem dX12_remove_29 : decode cX12_remove 29 = .ok (.aload_n 0, 1) := by decide +kernel
theorem dX12_remove_30 : decode cX12_remove 30 = .ok (.iload_n 1, 1) := by decide +kernel
theorem dX12_remove_31 : decode cX12_remove 31 = .ok (.invokevirtual 154, 3) := by decide +kernel
theorem dX12_remove_34 : decode cX12_remove 34 = .ok (.aload_n 0, 1) := by decide +kernel
