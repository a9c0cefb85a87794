theorem dX12_remove_35 : decode cX12_remove 35 = .ok (.iload_n 1, 1) := by decide +kernel
theorem dX12_remove_36 : decode cX12_remove 36 = .ok (.iload_n 2, 1) := by decide +kernel
theorem dX12_remove_37 : decode cX12_remove 37 = .ok (.invokevirtual 144, 3) := by decide +kernel
theorem dX12_remove_40 : decode cX12_remove 40 = .ok (.istore_n 3, 1) := by decide +kernel
theorem dX12_remove_41 : decode cX12_remove 41 = .ok (.aload_n 0, 1) := by decide +kernel
theorem dX12_remove_42 : decode cX12_remove 42 = .ok (.iload_n 1, 1) := by decide +kernel
theorem dX12_remove_43 : decode cX12_remove 43 = .ok (.iload_n 3, 1) := by decide +kernel
theorem dX12_remove_44 : decode cX12_remove 44 = .ok (.invokevirtual 164, 3) := by decide +kernel
theorem dX12_remove_47 : decode cX12_remove 47 = .ok (.istore 4, 2) := by decide +kernel
theorem dX12_remove_49 : decode cX12_remove 49 = .ok (.aload_n 0, 1) := by decide +kernel
theorem dX12_remove_50 : decode cX12_remove 50 = .ok (.getfield 7, 3) := by decide +kernel
theorem dX12_remove_53 : decode cX12_remove 53 = .ok (.sipush 402, 3) := by decide +kernel
theorem dX12_remove_56 : decode cX12_remove 56 = .ok (.iload_n 1, 1) := by decide +kernel
theorem dX12_remove_57 : decode cX12_remove 57 = .ok (.imul, 1) := by decide +kernel
theorem dX12_remove_58 : decode cX12_remove 58 = .ok (.dup2, 1) := by decide +kernel
theorem dX12_remove_59 : decode cX12_remove 59 = .ok (.iaload, 1) := by decide +kernel
theorem dX12_remove_60 : decode cX12_remove 60 = .ok (.iconst 1, 1) := by decide +kernel
theorem dX12_remove_61 : decode cX12_remove 61 = .ok (.isub, 1) := by decide +kernel
theorem dX12_remove_62 : decode cX12_remove 62 = .ok (.iastore, 1) := by decide +kernel
theorem dX12_remove_63 : decode cX12_remove 63 = .ok (.iload_n 3, 1) := by decide +kernel
theorem dX12_remove_64 : decode cX12_remove 64 = .ok (.istore 5, 2) := by decide +kernel
theorem dX12_remove_66 : decode cX12_remove 66 = .ok (.iload 5, 2) := by decide +kernel
theorem dX12_remove_68 : decode cX12_remove 68 = .ok (.aload_n 0, 1) := by decide +kernel
theorem dX12_remove_69 : decode cX12_remove 69 = .ok (.iload_n 1, 1) := by decide +kernel
theorem dX12_remove_70 : decode cX12_remove 70 = .ok (.invokevirtual 131, 3) := by decide +kernel
theorem dX12_remove_73 : decode cX12_remove 73 = .ok (.if_icmp .ge 33, 3) := by decide +kernel
theorem dX12_remove_76 : decode cX12_remove 76 = .ok (.aload_n 0, 1) := by decide +kernel
theorem dX12_remove_77 : decode cX12_remove 77 = .ok (.getfield 7, 3) := by decide +kernel
theorem dX12_remove_80 : decode cX12_remove 80 = .ok (.sipush 402, 3) := by decide +kernel
theorem dX12_remove_83 : decode cX12_remove 83 = .ok (.iload_n 1, 1) := by decide +kernel
theorem dX12_remove_84 : decode cX12_remove 84 = .ok (.imul, 1) := by decide +kernel
theorem dX12_remove_85 : decode cX12_remove 85 = .ok (.iconst 1, 1) := by decide +kernel
theorem dX12_remove_86 : decode cX12_remove 86 = .ok (.iadd, 1) := by decide +kernel
theorem dX12_remove_87 : decode cX12_remove 87 = .ok (.iload 5, 2) := by decide +kernel
theorem dX12_remove_89 : decode cX12_remove 89 = .ok (.iadd, 1) := by decide +kernel
theorem dX12_remove_90 : decode cX12_remove 90 = .ok (.aload_n 0, 1) := by decide +kernel
theorem dX12_remove_91 : decode cX12_remove 91 = .ok (.iload_n 1, 1) := by decide +kernel
theorem dX12_remove_92 : decode cX12_remove 92 = .ok (.iload 5, 2) := by decide +kernel
theorem dX12_remove_94 : decode cX12_remove 94 = .ok (.iconst 1, 1) := by decide +kernel
theorem dX12_remove_95 : decode cX12_remove 95 = .ok (.iadd, 1) := by decide +kernel
theorem dX12_remove_96 : decode cX12_remove 96 = .ok (.invokevirtual 103, 3) := by decide +kernel
theorem dX12_remove_99 : decode cX12_remove 99 = .ok (.iastore, 1) := by decide +kernel
theorem dX12_remove_100 : decode cX12_remove 100 = .ok (.iinc 5 1, 3) := by decide +kernel
theorem dX12_remove_103 : decode cX12_remove 103 = .ok (.goto (-37), 3) := by decide +kernel
theorem dX12_remove_106 : decode cX12_remove 106 = .ok (.aload_n 0, 1) := by decide +kernel
theorem dX12_remove_107 : decode cX12_remove 107 = .ok (.getfield 7, 3) := by decide +kernel
theorem dX12_remove_110 : decode cX12_remove 110 = .ok (.sipush 402, 3) := by decide +kernel
theorem dX12_remove_113 : decode cX12_remove 113 = .ok (.iload_n 1, 1) := by decide +kernel
theorem dX12_remove_114 : decode cX12_remove 114 = .ok (.imul, 1) := by decide +kernel
theorem dX12_remove_115 : decode cX12_remove 115 = .ok (.sipush 202, 3) := by decide +kernel
theorem dX12_remove_118 : decode cX12_remove 118 = .ok (.iadd, 1) := by decide +kernel
theorem dX12_remove_119 : decode cX12_remove 119 = .ok (.iload 4, 2) := by decide +kernel
theorem dX12_remove_121 : decode cX12_remove 121 = .ok (.iadd, 1) := by decide +kernel
theorem dX12_remove_122 : decode cX12_remove 122 = .ok (.dup2, 1) := by decide +kernel
theorem dX12_remove_123 : decode cX12_remove 123 = .ok (.iaload, 1) := by decide +kernel
theorem dX12_remove_124 : decode cX12_remove 124 = .ok (.iconst 1, 1) := by decide +kernel
theorem dX12_remove_125 : decode cX12_remove 125 = .ok (.isub, 1) := by decide +kernel
theorem dX12_remove_126 : decode cX12_remove 126 = .ok (.iastore, 1) := by decide +kernel
theorem dX12_remove_127 : decode cX12_remove 127 = .ok (.aload_n 0, 1) := by decide +kernel
theorem dX12_remove_128 : decode cX12_remove 128 = .ok (.iload_n 1, 1) := by decide +kernel
theorem dX12_remove_129 : decode cX12_remove 129 = .ok (.iload 4, 2) := by decide +kernel
theorem dX12_remove_131 : decode cX12_remove 131 = .ok (.invokevirtual 81, 3) := by decide +kernel
theorem dX12_remove_134 : decode cX12_remove 134 = .ok (.ifCond .ne 67, 3) := by decide +kernel
theorem dX12_remove_137 : decode cX12_remove 137 = .ok (.aload_n 0, 1) := by decide +kernel
theorem dX12_remove_138 : decode cX12_remove 138 = .ok (.getfield 7, 3) := by decide +kernel
theorem dX12_remove_141 : decode cX12_remove 141 = .ok (.sipush 402, 3) := by decide +kernel
theorem dX12_remove_144 : decode cX12_remove 144 = .ok (.iload_n 1, 1) := by decide +kernel
theorem dX12_remove_145 : decode cX12_remove 145 = .ok (.imul, 1) := by decide +kernel
theorem dX12_remove_146 : decode cX12_remove 146 = .ok (.sipush 201, 3) := by decide +kernel
theorem dX12_remove_149 : decode cX12_remove 149 = .ok (.iadd, 1) := by decide +kernel
theorem dX12_remove_150 : decode cX12_remove 150 = .ok (.dup2, 1) := by decide +kernel
theorem dX12_remove_151 : decode cX12_remove 151 = .ok (.iaload, 1) := by decide +kernel
theorem dX12_remove_152 : decode cX12_remove 152 = .ok (.iconst 1, 1) := by decide +kernel
theorem dX12_remove_153 : decode cX12_remove 153 = .ok (.isub, 1) := by decide +kernel
theorem dX12_remove_154 : decode cX12_remove 154 = .ok (.iastore, 1) := by decide +kernel
theorem dX12_remove_155 : decode cX12_remove 155 = .ok (.iload 4, 2) := by decide +kernel
theorem dX12_remove_157 : decode cX12_remove 157 = .ok (.istore 5, 2) := by decide +kernel
theorem dX12_remove_159 : decode cX12_remove 159 = .ok (.iload 5, 2) := by decide +kernel
theorem dX12_remove_161 : decode cX12_remove 161 = .ok (.aload_n 0, 1) := by decide +kernel
theorem dX12_remove_162 : decode cX12_remove 162 = .ok (.iload_n 1, 1) := by decide +kernel
theorem dX12_remove_163 : decode cX12_remove 163 = .ok (.invokevirtual 77, 3) := by decide +kernel
theorem dX12_remove_166 : decode cX12_remove 166 = .ok (.if_icmp .ge 35, 3) := by decide +kernel
theorem dX12_remove_169 : decode cX12_remove 169 = .ok (.aload_n 0, 1) := by decide +kernel
theorem dX12_remove_170 : decode cX12_remove 170 = .ok (.getfield 7, 3) := by decide +kernel
theorem dX12_remove_173 : decode cX12_remove 173 = .ok (.sipush 402, 3) := by decide +kernel
theorem dX12_remove_176 : decode cX12_remove 176 = .ok (.iload_n 1, 1) := by decide +kernel
theorem dX12_remove_177 : decode cX12_remove 177 = .ok (.imul, 1) := by decide +kernel
theorem dX12_remove_178 : decode cX12_remove 178 = .ok (.sipush 202, 3) := by decide +kernel
theorem dX12_remove_181 : decode cX12_remove 181 = .ok (.iadd, 1) := by decide +kernel
theorem dX12_remove_182 : decode cX12_remove 182 = .ok (.iload 5, 2) := by decide +kernel
theorem dX12_remove_184 : decode cX12_remove 184 = .ok (.iadd, 1) := by decide +kernel
theorem dX12_remove_185 : decode cX12_remove 185 = .ok (.aload_n 0, 1) := by decide +kernel
theorem dX12_remove_186 : decode cX12_remove 186 = .ok (.iload_n 1, 1) := by decide +kernel
theorem dX12_remove_187 : decode cX12_remove 187 = .ok (.iload 5, 2) := by decide +kernel
theorem dX12_remove_189 : decode cX12_remove 189 = .ok (.iconst 1, 1) := by decide +kernel
theorem dX12_remove_190 : decode cX12_remove 190 = .ok (.iadd, 1) := by decide +kernel
theorem dX12_remove_191 : decode cX12_remove 191 = .ok (.invokevirtual 81, 3) := by decide +kernel
theorem dX12_remove_194 : decode cX12_remove 194 = .ok (.iastore, 1) := by decide +kernel
theorem dX12_remove_195 : decode cX12_remove 195 = .ok (.iinc 5 1, 3) := by decide +kernel
theorem dX12_remove_198 : decode cX12_remove 198 = .ok (.goto (-39), 3) := by decide +kernel
theorem dX12_remove_201 : decode cX12_remove 201 = .ok (.iload_n 3, 1) := by decide +kernel
theorem dX12_remove_202 : decode cX12_remove 202 = .ok (.ireturn, 1) := by decide +kernel
theorem dX12_pack_0 : decode cX12_pack 0 = .ok (.iload_n 1, 1) := by decide +kernel
theorem dX12_pack_1 : decode cX12_pack 1 = .ok (.invokestatic 73, 3) := by decide +kernel
theorem dX12_pack_4 : decode cX12_pack 4 = .ok (.ifCond .eq 13, 3) := by decide +kernel
theorem dX12_pack_7 : decode cX12_pack 7 = .ok (.iload_n 2, 1) := by decide +kernel
theorem dX12_pack_8 : decode cX12_pack 8 = .ok (.iconst 0, 1) := by decide +kernel
theorem dX12_pack_9 : decode cX12_pack 9 = .ok (.bipush 64, 2) := by decide +kernel
theorem dX12_pack_11 : decode cX12_pack 11 = .ok (.invokestatic 68, 3) := by decide +kernel
theorem dX12_pack_14 : decode cX12_pack 14 = .ok (.ifCond .ne 6, 3) := by decide +kernel
theorem dX12_pack_17 : decode cX12_pack 17 = .ok (.bipush (-2), 2) := by decide +kernel
theorem dX12_pack_19 : decode cX12_pack 19 = .ok (.ireturn, 1) := by decide +kernel
theorem dX12_pack_20 : decode cX12_pack 20 = .ok (.aload_n 0, 1) := by decide +kernel
theorem dX12_pack_21 : decode cX12_pack 21 = .ok (.iload_n 1, 1) := by decide +kernel
theorem dX12_pack_22 : decode cX12_pack 22 = .ok (.invokevirtual 154, 3) := by decide +kernel
theorem dX12_pack_25 : decode cX12_pack 25 = .ok (.aload_n 0, 1) := by decide +kernel
theorem dX12_pack_26 : decode cX12_pack 26 = .ok (.iload_n 1, 1) := by decide +kernel
theorem dX12_pack_27 : decode cX12_pack 27 = .ok (.iload_n 2, 1) := by decide +kernel
theorem dX12_pack_28 : decode cX12_pack 28 = .ok (.invokevirtual 167, 3) := by decide +kernel
theorem dX12_pack_31 : decode cX12_pack 31 = .ok (.ireturn, 1) := by decide +kernel
theorem dX12_clear_0 : decode cX12_clear 0 = .ok (.iload_n 1, 1) := by decide +kernel
theorem dX12_clear_1 : decode cX12_clear 1 = .ok (.invokestatic 73, 3) := by decide +kernel
theorem dX12_clear_4 : decode cX12_clear 4 = .ok (.ifCond .ne 6, 3) := by decide +kernel
theorem dX12_clear_7 : decode cX12_clear 7 = .ok (.bipush (-2), 2) := by decide +kernel
theorem dX12_clear_9 : decode cX12_clear 9 = .ok (.ireturn, 1) := by decide +kernel
theorem dX12_clear_10 : decode cX12_clear 10 = .ok (.aload_n 0, 1) := by decide +kernel
theorem dX12_clear_11 : decode cX12_clear 11 = .ok (.iload_n 1, 1) := by decide +kernel
theorem dX12_clear_12 : decode cX12_clear 12 = .ok (.invokevirtual 154, 3) := by decide +kernel
theorem dX12_clear_15 : decode cX12_clear 15 = .ok (.aload_n 0, 1) := by decide +kernel
theorem dX12_clear_16 : decode cX12_clear 16 = .ok (.iload_n 1, 1) := by decide +kernel
theorem dX12_clear_17 : decode cX12_clear 17 = .ok (.invokevirtual 131, 3) := by decide +kernel
theorem dX12_clear_20 : decode cX12_clear 20 = .ok (.istore_n 2, 1) := by decide +kernel
theorem dX12_clear_21 : decode cX12_clear 21 = .ok (.aload_n 0, 1) := by decide +kernel
theorem dX12_clear_22 : decode cX12_clear 22 = .ok (.getfield 7, 3) := by decide +kernel
theorem dX12_clear_25 : decode cX12_clear 25 = .ok (.sipush 402, 3) := by decide +kernel
theorem dX12_clear_28 : decode cX12_clear 28 = .ok (.iload_n 1, 1) := by decide +kernel
theorem dX12_clear_29 : decode cX12_clear 29 = .ok (.imul, 1) := by decide +kernel
theorem dX12_clear_30 : decode cX12_clear 30 = .ok (.iconst 0, 1) := by decide +kernel
theorem dX12_clear_31 : decode cX12_clear 31 = .ok (.iastore, 1) := by decide +kernel
theorem dX12_clear_32 : decode cX12_clear 32 = .ok (.aload_n 0, 1) := by decide +kernel
theorem dX12_clear_33 : decode cX12_clear 33 = .ok (.getfield 7, 3) := by decide +kernel
theorem dX12_clear_36 : decode cX12_clear 36 = .ok (.sipush 402, 3) := by decide +kernel
theorem dX12_clear_39 : decode cX12_clear 39 = .ok (.iload_n 1, 1) := by decide +kernel
theorem dX12_clear_40 : decode cX12_clear 40 = .ok (.imul, 1) := by decide +kernel
theorem dX12_clear_41 : decode cX12_clear 41 = .ok (.sipush 201, 3) := by decide +kernel
theorem dX12_clear_44 : decode cX12_clear 44 = .ok (.iadd, 1) := by decide +kernel
theorem dX12_clear_45 : decode cX12_clear 45 = .ok (.iconst 0, 1) := by decide +kernel
theorem dX12_clear_46 : decode cX12_clear 46 = .ok (.iastore, 1) := by decide +kernel
theorem dX12_clear_47 : decode cX12_clear 47 = .ok (.iload_n 2, 1) := by decide +kernel
theorem dX12_clear_48 : decode cX12_clear 48 = .ok (.ireturn, 1) := by decide +kernel
theorem dX12_store_0 : decode cX12_store 0 = .ok (.iload_n 1, 1) := by decide +kernel
theorem dX12_store_1 : decode cX12_store 1 = .ok (.invokestatic 73, 3) := by decide +kernel
theorem dX12_store_4 : decode cX12_store 4 = .ok (.ifCond .ne 6, 3) := by decide +kernel
theorem dX12_store_7 : decode cX12_store 7 = .ok (.bipush (-2), 2) := by decide +kernel
theorem dX12_store_9 : decode cX12_store 9 = .ok (.ireturn, 1) := by decide +kernel
theorem dX12_store_10 : decode cX12_store 10 = .ok (.aload_n 0, 1) := by decide +kernel
theorem dX12_store_11 : decode cX12_store 11 = .ok (.getfield 25, 3) := by decide +kernel
theorem dX12_store_14 : decode cX12_store 14 = .ok (.iconst (-1), 1) := by decide +kernel
theorem dX12_store_15 : decode cX12_store 15 = .ok (.if_icmp .ne 6, 3) := by decide +kernel
theorem dX12_store_18 : decode cX12_store 18 = .ok (.bipush (-3), 2) := by decide +kernel
theorem dX12_store_20 : decode cX12_store 20 = .ok (.ireturn, 1) := by decide +kernel
theorem dX12_store_21 : decode cX12_store 21 = .ok (.aload_n 0, 1) := by decide +kernel
theorem dX12_store_22 : decode cX12_store 22 = .ok (.getfield 25, 3) := by decide +kernel
theorem dX12_store_25 : decode cX12_store 25 = .ok (.sipush 200, 3) := by decide +kernel
theorem dX12_store_28 : decode cX12_store 28 = .ok (.if_icmp .le 6, 3) := by decide +kernel
theorem dX12_store_31 : decode cX12_store 31 = .ok (.bipush (-4), 2) := by decide +kernel
theorem dX12_store_33 : decode cX12_store 33 = .ok (.ireturn, 1) := by decide +kernel
theorem dX12_store_34 : decode cX12_store 34 = .ok (.aload_n 0, 1) := by decide +kernel
theorem dX12_store_35 : decode cX12_store 35 = .ok (.iload_n 1, 1) := by decide +kernel
theorem dX12_store_36 : decode cX12_store 36 = .ok (.invokevirtual 154, 3) := by decide +kernel
theorem dX12_store_39 : decode cX12_store 39 = .ok (.aload_n 0, 1) := by decide +kernel
theorem dX12_store_40 : decode cX12_store 40 = .ok (.getfield 7, 3) := by decide +kernel
theorem dX12_store_43 : decode cX12_store 43 = .ok (.sipush 402, 3) := by decide +kernel
theorem dX12_store_46 : decode cX12_store 46 = .ok (.iload_n 1, 1) := by decide +kernel
theorem dX12_store_47 : decode cX12_store 47 = .ok (.imul, 1) := by decide +kernel
theorem dX12_store_48 : decode cX12_store 48 = .ok (.aload_n 0, 1) := by decide +kernel
theorem dX12_store_49 : decode cX12_store 49 = .ok (.getfield 25, 3) := by decide +kernel
theorem dX12_store_52 : decode cX12_store 52 = .ok (.iastore, 1) := by decide +kernel
theorem dX12_store_53 : decode cX12_store 53 = .ok (.iconst 0, 1) := by decide +kernel
theorem dX12_store_54 : decode cX12_store 54 = .ok (.istore_n 2, 1) := by decide +kernel
theorem dX12_store_55 : decode cX12_store 55 = .ok (.iload_n 2, 1) := by decide +kernel
theorem dX12_store_56 : decode cX12_store 56 = .ok (.aload_n 0, 1) := by decide +kernel
theorem dX12_store_57 : decode cX12_store 57 = .ok (.getfield 25, 3) := by decide +kernel
theorem dX12_store_60 : decode cX12_store 60 = .ok (.if_icmp .ge 29, 3) := by decide +kernel
theorem dX12_store_63 : decode cX12_store 63 = .ok (.aload_n 0, 1) := by decide +kernel
theorem dX12_store_64 : decode cX12_store 64 = .ok (.getfield 7, 3) := by decide +kernel
theorem dX12_store_67 : decode cX12_store 67 = .ok (.sipush 402, 3) := by decide +kernel
theorem dX12_store_70 : decode cX12_store 70 = .ok (.iload_n 1, 1) := by decide +kernel
theorem dX12_store_71 : decode cX12_store 71 = .ok (.imul, 1) := by decide +kernel
theorem dX12_store_72 : decode cX12_store 72 = .ok (.iconst 1, 1) := by decide +kernel
theorem dX12_store_73 : decode cX12_store 73 = .ok (.iadd, 1) := by decide +kernel
theorem dX12_store_74 : decode cX12_store 74 = .ok (.iload_n 2, 1) := by decide +kernel
theorem dX12_store_75 : decode cX12_store 75 = .ok (.iadd, 1) := by decide +kernel
theorem dX12_store_76 : decode cX12_store 76 = .ok (.aload_n 0, 1) := by decide +kernel
theorem dX12_store_77 : decode cX12_store 77 = .ok (.getfield 22, 3) := by decide +kernel
theorem dX12_store_80 : decode cX12_store 80 = .ok (.iload_n 2, 1) := by decide +kernel
theorem dX12_store_81 : decode cX12_store 81 = .ok (.iaload, 1) := by decide +kernel
theorem dX12_store_82 : decode cX12_store 82 = .ok (.iastore, 1) := by decide +kernel
theorem dX12_store_83 : decode cX12_store 83 = .ok (.iinc 2 1, 3) := by decide +kernel
theorem dX12_store_86 : decode cX12_store 86 = .ok (.goto (-31), 3) := by decide +kernel
theorem dX12_store_89 : decode cX12_store 89 = .ok (.aload_n 0, 1) := by decide +kernel
theorem dX12_store_90 : decode cX12_store 90 = .ok (.iload_n 1, 1) := by decide +kernel
theorem dX12_store_91 : decode cX12_store 91 = .ok (.iconst 0, 1) := by decide +kernel
theorem dX12_store_92 : decode cX12_store 92 = .ok (.invokevirtual 167, 3) := by decide +kernel
theorem dX12_store_95 : decode cX12_store 95 = .ok (.istore_n 2, 1) := by decide +kernel
theorem dX12_store_96 : decode cX12_store 96 = .ok (.iload_n 2, 1) := by decide +kernel
theorem dX12_store_97 : decode cX12_store 97 = .ok (.ifCond .ge 7, 3) := by decide +kernel
theorem dX12_store_100 : decode cX12_store 100 = .ok (.iconst (-1), 1) := by decide +kernel
theorem dX12_store_101 : decode cX12_store 101 = .ok (.goto 7, 3) := by decide +kernel
theorem dX12_store_104 : decode cX12_store 104 = .ok (.aload_n 0, 1) := by decide +kernel
theorem dX12_store_105 : decode cX12_store 105 = .ok (.getfield 25, 3) := by decide +kernel
theorem dX12_store_108 : decode cX12_store 108 = .ok (.ireturn, 1) := by decide +kernel
theorem dX12_type_0 : decode cX12_type 0 = .ok (.iload_n 1, 1) := by decide +kernel
theorem dX12_type_1 : decode cX12_type 1 = .ok (.iconst 0, 1) := by decide +kernel
theorem dX12_type_2 : decode cX12_type 2 = .ok (.bipush 127, 2) := by decide +kernel
theorem dX12_type_4 : decode cX12_type 4 = .ok (.invokestatic 68, 3) := by decide +kernel
theorem dX12_type_7 : decode cX12_type 7 = .ok (.ifCond .ne 6, 3) := by decide +kernel
theorem dX12_type_10 : decode cX12_type 10 = .ok (.bipush (-2), 2) := by decide +kernel
theorem dX12_type_12 : decode cX12_type 12 = .ok (.ireturn, 1) := by decide +kernel
theorem dX12_type_13 : decode cX12_type 13 = .ok (.aload_n 0, 1) := by decide +kernel
theorem dX12_type_14 : decode cX12_type 14 = .ok (.getfield 170, 3) := by decide +kernel
theorem dX12_type_17 : decode cX12_type 17 = .ok (.bipush 100, 2) := by decide +kernel
theorem dX12_type_19 : decode cX12_type 19 = .ok (.if_icmp .ne 6, 3) := by decide +kernel
theorem dX12_type_22 : decode cX12_type 22 = .ok (.bipush (-4), 2) := by decide +kernel
theorem dX12_type_24 : decode cX12_type 24 = .ok (.ireturn, 1) := by decide +kernel
theorem dX12_type_25 : decode cX12_type 25 = .ok (.aload_n 0, 1) := by decide +kernel
theorem dX12_type_26 : decode cX12_type 26 = .ok (.getfield 47, 3) := by decide +kernel
theorem dX12_type_29 : decode cX12_type 29 = .ok (.aload_n 0, 1) := by decide +kernel
theorem dX12_type_30 : decode cX12_type 30 = .ok (.getfield 170, 3) := by decide +kernel
theorem dX12_type_33 : decode cX12_type 33 = .ok (.iload_n 1, 1) := by decide +kernel
theorem dX12_type_34 : decode cX12_type 34 = .ok (.iastore, 1) := by decide +kernel
theorem dX12_type_35 : decode cX12_type 35 = .ok (.aload_n 0, 1) := by decide +kernel
theorem dX12_type_36 : decode cX12_type 36 = .ok (.dup, 1) := by decide +kernel
theorem dX12_type_37 : decode cX12_type 37 = .ok (.getfield 170, 3) := by decide +kernel
theorem dX12_type_40 : decode cX12_type 40 = .ok (.iconst 1, 1) := by decide +kernel
theorem dX12_type_41 : decode cX12_type 41 = .ok (.iadd, 1) := by decide +kernel
theorem dX12_type_42 : decode cX12_type 42 = .ok (.putfield 170, 3) := by decide +kernel
theorem dX12_type_45 : decode cX12_type 45 = .ok (.aload_n 0, 1) := by decide +kernel
theorem dX12_type_46 : decode cX12_type 46 = .ok (.getfield 170, 3) := by decide +kernel
theorem dX12_type_49 : decode cX12_type 49 = .ok (.ireturn, 1) := by decide +kernel
theorem dX12_erase_0 : decode cX12_erase 0 = .ok (.aload_n 0, 1) := by decide +kernel
theorem dX12_erase_1 : decode cX12_erase 1 = .ok (.getfield 170, 3) := by decide +kernel
theorem dX12_erase_4 : decode cX12_erase 4 = .ok (.istore_n 1, 1) := by decide +kernel
theorem dX12_erase_5 : decode cX12_erase 5 = .ok (.aload_n 0, 1) := by decide +kernel
theorem dX12_erase_6 : decode cX12_erase 6 = .ok (.iconst 0, 1) := by decide +kernel
theorem dX12_erase_7 : decode cX12_erase 7 = .ok (.putfield 170, 3) := by decide +kernel
theorem dX12_erase_10 : decode cX12_erase 10 = .ok (.iload_n 1, 1) := by decide +kernel
theorem dX12_erase_11 : decode cX12_erase 11 = .ok (.ireturn, 1) := by decide +kernel
theorem dX12_next_0 : decode cX12_next 0 = .ok (.aload_n 0, 1) := by decide +kernel
theorem dX12_next_1 : decode cX12_next 1 = .ok (.getfield 173, 3) := by decide +kernel
theorem dX12_next_4 : decode cX12_next 4 = .ok (.aload_n 0, 1) := by decide +kernel
theorem dX12_next_5 : decode cX12_next 5 = .ok (.getfield 170, 3) := by decide +kernel
theorem dX12_next_8 : decode cX12_next 8 = .ok (.if_icmp .ge 15, 3) := by decide +kernel
theorem dX12_next_11 : decode cX12_next 11 = .ok (.aload_n 0, 1) := by decide +kernel
theorem dX12_next_12 : decode cX12_next 12 = .ok (.getfield 47, 3) := by decide +kernel
theorem dX12_next_15 : decode cX12_next 15 = .ok (.aload_n 0, 1) := by decide +kernel
theorem dX12_next_16 : decode cX12_next 16 = .ok (.getfield 173, 3) := by decide +kernel
theorem dX12_next_19 : decode cX12_next 19 = .ok (.iaload, 1) := by decide +kernel
theorem dX12_next_20 : decode cX12_next 20 = .ok (.goto 4, 3) := by decide +kernel
theorem dX12_next_23 : decode cX12_next 23 = .ok (.iconst (-1), 1) := by decide +kernel
theorem dX12_next_24 : decode cX12_next 24 = .ok (.ireturn, 1) := by decide +kernel
theorem dX12_skips_0 : decode cX12_skips 0 = .ok (.aload_n 0, 1) := by decide +kernel
theorem dX12_skips_1 : decode cX12_skips 1 = .ok (.invokevirtual 176, 3) := by decide +kernel
theorem dX12_skips_4 : decode cX12_skips 4 = .ok (.bipush 32, 2) := by decide +kernel
theorem dX12_skips_6 : decode cX12_skips 6 = .ok (.if_icmp .ne 16, 3) := by decide +kernel
theorem dX12_skips_9 : decode cX12_skips 9 = .ok (.aload_n 0, 1) := by decide +kernel
theorem dX12_skips_10 : decode cX12_skips 10 = .ok (.dup, 1) := by decide +kernel
theorem dX12_skips_11 : decode cX12_skips 11 = .ok (.getfield 173, 3) := by decide +kernel
theorem dX12_skips_14 : decode cX12_skips 14 = .ok (.iconst 1, 1) := by decide +kernel
theorem dX12_skips_15 : decode cX12_skips 15 = .ok (.iadd, 1) := by decide +kernel
theorem dX12_skips_16 : decode cX12_skips 16 = .ok (.putfield 173, 3) := by decide +kernel
theorem dX12_skips_19 : decode cX12_skips 19 = .ok (.goto (-19), 3) := by decide +kernel
theorem dX12_skips_22 : decode cX12_skips 22 = .ok (.return_, 1) := by decide +kernel
theorem dX12_fails_0 : decode cX12_fails 0 = .ok (.aload_n 0, 1) := by decide +kernel
theorem dX12_fails_1 : decode cX12_fails 1 = .ok (.aload_n 0, 1) := by decide +kernel
theorem dX12_fails_2 : decode cX12_fails 2 = .ok (.getfield 180, 3) := by decide +kernel
theorem dX12_fails_5 : decode cX12_fails 5 = .ok (.iconst (-1), 1) := by decide +kernel
theorem dX12_fails_6 : decode cX12_fails 6 = .ok (.if_icmp .ne 7, 3) := by decide +kernel
theorem dX12_fails_9 : decode cX12_fails 9 = .ok (.iload_n 1, 1) := by decide +kernel
theorem dX12_fails_10 : decode cX12_fails 10 = .ok (.goto 7, 3) := by decide +kernel
theorem dX12_fails_13 : decode cX12_fails 13 = .ok (.aload_n 0, 1) := by decide +kernel
theorem dX12_fails_14 : decode cX12_fails 14 = .ok (.getfield 180, 3) := by decide +kernel
theorem dX12_fails_17 : decode cX12_fails 17 = .ok (.putfield 180, 3) := by decide +kernel
theorem dX12_fails_20 : decode cX12_fails 20 = .ok (.return_, 1) := by decide +kernel
theorem dX12_readsNumber_0 : decode cX12_readsNumber 0 = .ok (.aload_n 0, 1) := by decide +kernel
theorem dX12_readsNumber_1 : decode cX12_readsNumber 1 = .ok (.getfield 173, 3) := by decide +kernel
theorem dX12_readsNumber_4 : decode cX12_readsNumber 4 = .ok (.istore_n 2, 1) := by decide +kernel
theorem dX12_readsNumber_5 : decode cX12_readsNumber 5 = .ok (.iconst 0, 1) := by decide +kernel
theorem dX12_readsNumber_6 : decode cX12_readsNumber 6 = .ok (.istore_n 3, 1) := by decide +kernel
theorem dX12_readsNumber_7 : decode cX12_readsNumber 7 = .ok (.aload_n 0, 1) := by decide +kernel
theorem dX12_readsNumber_8 : decode cX12_readsNumber 8 = .ok (.getfield 173, 3) := by decide +kernel
theorem dX12_readsNumber_11 : decode cX12_readsNumber 11 = .ok (.iload_n 2, 1) := by decide +kernel
theorem dX12_readsNumber_12 : decode cX12_readsNumber 12 = .ok (.bipush 6, 2) := by decide +kernel
theorem dX12_readsNumber_14 : decode cX12_readsNumber 14 = .ok (.iadd, 1) := by decide +kernel
theorem dX12_readsNumber_15 : decode cX12_readsNumber 15 = .ok (.if_icmp .ge 43, 3) := by decide +kernel
theorem dX12_readsNumber_18 : decode cX12_readsNumber 18 = .ok (.aload_n 0, 1) := by decide +kernel
theorem dX12_readsNumber_19 : decode cX12_readsNumber 19 = .ok (.invokevirtual 176, 3) := by decide +kernel
theorem dX12_readsNumber_22 : decode cX12_readsNumber 22 = .ok (.bipush 48, 2) := by decide +kernel
theorem dX12_readsNumber_24 : decode cX12_readsNumber 24 = .ok (.bipush 57, 2) := by decide +kernel
theorem dX12_readsNumber_26 : decode cX12_readsNumber 26 = .ok (.invokestatic 68, 3) := by decide +kernel
theorem dX12_readsNumber_29 : decode cX12_readsNumber 29 = .ok (.ifCond .eq 29, 3) := by decide +kernel
theorem dX12_readsNumber_32 : decode cX12_readsNumber 32 = .ok (.bipush 10, 2) := by decide +kernel
theorem dX12_readsNumber_34 : decode cX12_readsNumber 34 = .ok (.iload_n 3, 1) := by decide +kernel
theorem dX12_readsNumber_35 : decode cX12_readsNumber 35 = .ok (.imul, 1) := by decide +kernel
theorem dX12_readsNumber_36 : decode cX12_readsNumber 36 = .ok (.aload_n 0, 1) := by decide +kernel
theorem dX12_readsNumber_37 : decode cX12_readsNumber 37 = .ok (.invokevirtual 176, 3) := by decide +kernel
theorem dX12_readsNumber_40 : decode cX12_readsNumber 40 = .ok (.iadd, 1) := by decide +kernel
theorem dX12_readsNumber_41 : decode cX12_readsNumber 41 = .ok (.bipush 48, 2) := by decide +kernel
theorem dX12_readsNumber_43 : decode cX12_readsNumber 43 = .ok (.isub, 1) := by decide +kernel
theorem dX12_readsNumber_44 : decode cX12_readsNumber 44 = .ok (.istore_n 3, 1) := by decide +kernel
theorem dX12_readsNumber_45 : decode cX12_readsNumber 45 = .ok (.aload_n 0, 1) := by decide +kernel
theorem dX12_readsNumber_46 : decode cX12_readsNumber 46 = .ok (.dup, 1) := by decide +kernel
theorem dX12_readsNumber_47 : decode cX12_readsNumber 47 = .ok (.getfield 173, 3) := by decide +kernel
theorem dX12_readsNumber_50 : decode cX12_readsNumber 50 = .ok (.iconst 1, 1) := by decide +kernel
theorem dX12_readsNumber_51 : decode cX12_readsNumber 51 = .ok (.iadd, 1) := by decide +kernel
theorem dX12_readsNumber_52 : decode cX12_readsNumber 52 = .ok (.putfield 173, 3) := by decide +kernel
theorem dX12_readsNumber_55 : decode cX12_readsNumber 55 = .ok (.goto (-48), 3) := by decide +kernel
theorem dX12_readsNumber_58 : decode cX12_readsNumber 58 = .ok (.aload_n 0, 1) := by decide +kernel
theorem dX12_readsNumber_59 : decode cX12_readsNumber 59 = .ok (.getfield 173, 3) := by decide +kernel
theorem dX12_readsNumber_62 : decode cX12_readsNumber 62 = .ok (.iload_n 2, 1) := by decide +kernel
theorem dX12_readsNumber_63 : decode cX12_readsNumber 63 = .ok (.if_icmp .eq 8, 3) := by decide +kernel
theorem dX12_readsNumber_66 : decode cX12_readsNumber 66 = .ok (.iload_n 3, 1) := by decide +kernel
theorem dX12_readsNumber_67 : decode cX12_readsNumber 67 = .ok (.iload_n 1, 1) := by decide +kernel
theorem dX12_readsNumber_68 : decode cX12_readsNumber 68 = .ok (.if_icmp .ge 8, 3) := by decide +kernel
theorem dX12_readsNumber_71 : decode cX12_readsNumber 71 = .ok (.aload_n 0, 1) := by decide +kernel
theorem dX12_readsNumber_72 : decode cX12_readsNumber 72 = .ok (.iload_n 2, 1) := by decide +kernel
theorem dX12_readsNumber_73 : decode cX12_readsNumber 73 = .ok (.invokevirtual 183, 3) := by decide +kernel
theorem dX12_readsNumber_76 : decode cX12_readsNumber 76 = .ok (.aload_n 0, 1) := by decide +kernel
theorem dX12_readsNumber_77 : decode cX12_readsNumber 77 = .ok (.invokevirtual 176, 3) := by decide +kernel
theorem dX12_readsNumber_80 : decode cX12_readsNumber 80 = .ok (.bipush 48, 2) := by decide +kernel
theorem dX12_readsNumber_82 : decode cX12_readsNumber 82 = .ok (.bipush 57, 2) := by decide +kernel
theorem dX12_readsNumber_84 : decode cX12_readsNumber 84 = .ok (.invokestatic 68, 3) := by decide +kernel
theorem dX12_readsNumber_87 : decode cX12_readsNumber 87 = .ok (.ifCond .eq 11, 3) := by decide +kernel
theorem dX12_readsNumber_90 : decode cX12_readsNumber 90 = .ok (.aload_n 0, 1) := by decide +kernel
theorem dX12_readsNumber_91 : decode cX12_readsNumber 91 = .ok (.aload_n 0, 1) := by decide +kernel
theorem dX12_readsNumber_92 : decode cX12_readsNumber 92 = .ok (.getfield 173, 3) := by decide +kernel
theorem dX12_readsNumber_95 : decode cX12_readsNumber 95 = .ok (.invokevirtual 183, 3) := by decide +kernel
theorem dX12_readsNumber_98 : decode cX12_readsNumber 98 = .ok (.aload_n 0, 1) := by decide +kernel
theorem dX12_readsNumber_99 : decode cX12_readsNumber 99 = .ok (.aload_n 0, 1) := by decide +kernel
theorem dX12_readsNumber_100 : decode cX12_readsNumber 100 = .ok (.getfield 173, 3) := by decide +kernel
theorem dX12_readsNumber_103 : decode cX12_readsNumber 103 = .ok (.putfield 186, 3) := by decide +kernel
theorem dX12_readsNumber_106 : decode cX12_readsNumber 106 = .ok (.aload_n 0, 1) := by decide +kernel
theorem dX12_readsNumber_107 : decode cX12_readsNumber 107 = .ok (.invokevirtual 189, 3) := by decide +kernel
theorem dX12_readsNumber_110 : decode cX12_readsNumber 110 = .ok (.iload_n 3, 1) := by decide +kernel
theorem dX12_readsNumber_111 : decode cX12_readsNumber 111 = .ok (.ireturn, 1) := by decide +kernel
theorem dX12_readsPart_0 : decode cX12_readsPart 0 = .ok (.aload_n 0, 1) := by decide +kernel
theorem dX12_readsPart_1 : decode cX12_readsPart 1 = .ok (.iload_n 1, 1) := by decide +kernel
theorem dX12_readsPart_2 : decode cX12_readsPart 2 = .ok (.iconst 1, 1) := by decide +kernel
theorem dX12_readsPart_3 : decode cX12_readsPart 3 = .ok (.iadd, 1) := by decide +kernel
theorem dX12_readsPart_4 : decode cX12_readsPart 4 = .ok (.invokevirtual 192, 3) := by decide +kernel
theorem dX12_readsPart_7 : decode cX12_readsPart 7 = .ok (.istore_n 2, 1) := by decide +kernel
theorem dX12_readsPart_8 : decode cX12_readsPart 8 = .ok (.iload_n 2, 1) := by decide +kernel
theorem dX12_readsPart_9 : decode cX12_readsPart 9 = .ok (.istore_n 3, 1) := by decide +kernel
theorem dX12_readsPart_10 : decode cX12_readsPart 10 = .ok (.aload_n 0, 1) := by decide +kernel
theorem dX12_readsPart_11 : decode cX12_readsPart 11 = .ok (.getfield 180, 3) := by decide +kernel
theorem dX12_readsPart_14 : decode cX12_readsPart 14 = .ok (.iconst (-1), 1) := by decide +kernel
theorem dX12_readsPart_15 : decode cX12_readsPart 15 = .ok (.if_icmp .ne 32, 3) := by decide +kernel
theorem dX12_readsPart_18 : decode cX12_readsPart 18 = .ok (.aload_n 0, 1) := by decide +kernel
theorem dX12_readsPart_19 : decode cX12_readsPart 19 = .ok (.invokevirtual 176, 3) := by decide +kernel
theorem dX12_readsPart_22 : decode cX12_readsPart 22 = .ok (.bipush 45, 2) := by decide +kernel
theorem dX12_readsPart_24 : decode cX12_readsPart 24 = .ok (.if_icmp .ne 23, 3) := by decide +kernel
theorem dX12_readsPart_27 : decode cX12_readsPart 27 = .ok (.aload_n 0, 1) := by decide +kernel
theorem dX12_readsPart_28 : decode cX12_readsPart 28 = .ok (.dup, 1) := by decide +kernel
theorem dX12_readsPart_29 : decode cX12_readsPart 29 = .ok (.getfield 173, 3) := by decide +kernel
theorem dX12_readsPart_32 : decode cX12_readsPart 32 = .ok (.iconst 1, 1) := by decide +kernel
theorem dX12_readsPart_33 : decode cX12_readsPart 33 = .ok (.iadd, 1) := by decide +kernel
theorem dX12_readsPart_34 : decode cX12_readsPart 34 = .ok (.putfield 173, 3) := by decide +kernel
theorem dX12_readsPart_37 : decode cX12_readsPart 37 = .ok (.aload_n 0, 1) := by decide +kernel
theorem dX12_readsPart_38 : decode cX12_readsPart 38 = .ok (.invokevirtual 189, 3) := by decide +kernel
theorem dX12_readsPart_41 : decode cX12_readsPart 41 = .ok (.aload_n 0, 1) := by decide +kernel
theorem dX12_readsPart_42 : decode cX12_readsPart 42 = .ok (.iload_n 2, 1) := by decide +kernel
theorem dX12_readsPart_43 : decode cX12_readsPart 43 = .ok (.invokevirtual 192, 3) := by decide +kernel
theorem dX12_readsPart_46 : decode cX12_readsPart 46 = .ok (.istore_n 3, 1) := by decide +kernel
theorem dX12_readsPart_47 : decode cX12_readsPart 47 = .ok (.aload_n 0, 1) := by decide +kernel
theorem dX12_readsPart_48 : decode cX12_readsPart 48 = .ok (.getfield 180, 3) := by decide +kernel
theorem dX12_readsPart_51 : decode cX12_readsPart 51 = .ok (.iconst (-1), 1) := by decide +kernel
theorem dX12_readsPart_52 : decode cX12_readsPart 52 = .ok (.if_icmp .ne 27, 3) := by decide +kernel
theorem dX12_readsPart_55 : decode cX12_readsPart 55 = .ok (.iload_n 3, 1) := by decide +kernel
theorem dX12_readsPart_56 : decode cX12_readsPart 56 = .ok (.iload_n 2, 1) := by decide +kernel
theorem dX12_readsPart_57 : decode cX12_readsPart 57 = .ok (.isub, 1) := by decide +kernel
theorem dX12_readsPart_58 : decode cX12_readsPart 58 = .ok (.iconst 1, 1) := by decide +kernel
theorem dX12_readsPart_59 : decode cX12_readsPart 59 = .ok (.iadd, 1) := by decide +kernel
theorem dX12_readsPart_60 : decode cX12_readsPart 60 = .ok (.sipush 200, 3) := by decide +kernel
theorem dX12_readsPart_63 : decode cX12_readsPart 63 = .ok (.aload_n 0, 1) := by decide +kernel
theorem dX12_readsPart_64 : decode cX12_readsPart 64 = .ok (.getfield 195, 3) := by decide +kernel
theorem dX12_readsPart_67 : decode cX12_readsPart 67 = .ok (.isub, 1) := by decide +kernel
theorem dX12_readsPart_68 : decode cX12_readsPart 68 = .ok (.if_icmp .le 11, 3) := by decide +kernel
theorem dX12_readsPart_71 : decode cX12_readsPart 71 = .ok (.aload_n 0, 1) := by decide +kernel
theorem dX12_readsPart_72 : decode cX12_readsPart 72 = .ok (.aload_n 0, 1) := by decide +kernel
theorem dX12_readsPart_73 : decode cX12_readsPart 73 = .ok (.getfield 186, 3) := by decide +kernel
theorem dX12_readsPart_76 : decode cX12_readsPart 76 = .ok (.invokevirtual 183, 3) := by decide +kernel
theorem dX12_readsPart_79 : decode cX12_readsPart 79 = .ok (.iload_n 2, 1) := by decide +kernel
theorem dX12_readsPart_80 : decode cX12_readsPart 80 = .ok (.istore 4, 2) := by decide +kernel
theorem dX12_readsPart_82 : decode cX12_readsPart 82 = .ok (.iload 4, 2) := by decide +kernel
theorem dX12_readsPart_84 : decode cX12_readsPart 84 = .ok (.iload_n 3, 1) := by decide +kernel
theorem dX12_readsPart_85 : decode cX12_readsPart 85 = .ok (.if_icmp .gt 38, 3) := by decide +kernel
theorem dX12_readsPart_88 : decode cX12_readsPart 88 = .ok (.aload_n 0, 1) := by decide +kernel
theorem dX12_readsPart_89 : decode cX12_readsPart 89 = .ok (.getfield 180, 3) := by decide +kernel
theorem dX12_readsPart_92 : decode cX12_readsPart 92 = .ok (.iconst (-1), 1) := by decide +kernel
theorem dX12_readsPart_93 : decode cX12_readsPart 93 = .ok (.if_icmp .ne 30, 3) := by decide +kernel
theorem dX12_readsPart_96 : decode cX12_readsPart 96 = .ok (.aload_n 0, 1) := by decide +kernel
theorem dX12_readsPart_97 : decode cX12_readsPart 97 = .ok (.getfield 50, 3) := by decide +kernel
theorem dX12_readsPart_100 : decode cX12_readsPart 100 = .ok (.aload_n 0, 1) := by decide +kernel
theorem dX12_readsPart_101 : decode cX12_readsPart 101 = .ok (.getfield 195, 3) := by decide +kernel
theorem dX12_readsPart_104 : decode cX12_readsPart 104 = .ok (.iload 4, 2) := by decide +kernel
theorem dX12_readsPart_106 : decode cX12_readsPart 106 = .ok (.iastore, 1) := by decide +kernel
theorem dX12_readsPart_107 : decode cX12_readsPart 107 = .ok (.aload_n 0, 1) := by decide +kernel
theorem dX12_readsPart_108 : decode cX12_readsPart 108 = .ok (.dup, 1) := by decide +kernel
theorem dX12_readsPart_109 : decode cX12_readsPart 109 = .ok (.getfield 195, 3) := by decide +kernel
theorem dX12_readsPart_112 : decode cX12_readsPart 112 = .ok (.iconst 1, 1) := by decide +kernel
theorem dX12_readsPart_113 : decode cX12_readsPart 113 = .ok (.iadd, 1) := by decide +kernel
theorem dX12_readsPart_114 : decode cX12_readsPart 114 = .ok (.putfield 195, 3) := by decide +kernel
theorem dX12_readsPart_117 : decode cX12_readsPart 117 = .ok (.iinc 4 1, 3) := by decide +kernel
theorem dX12_readsPart_120 : decode cX12_readsPart 120 = .ok (.goto (-38), 3) := by decide +kernel
theorem dX12_readsPart_123 : decode cX12_readsPart 123 = .ok (.iload_n 3, 1) := by decide +kernel
theorem dX12_readsPart_124 : decode cX12_readsPart 124 = .ok (.ireturn, 1) := by decide +kernel
theorem dX12_readsNumbers_0 : decode cX12_readsNumbers 0 = .ok (.aload_n 0, 1) := by decide +kernel
theorem dX12_readsNumbers_1 : decode cX12_readsNumbers 1 = .ok (.iconst 0, 1) := by decide +kernel
theorem dX12_readsNumbers_2 : decode cX12_readsNumbers 2 = .ok (.putfield 173, 3) := by decide +kernel
theorem dX12_readsNumbers_5 : decode cX12_readsNumbers 5 = .ok (.aload_n 0, 1) := by decide +kernel
theorem dX12_readsNumbers_6 : decode cX12_readsNumbers 6 = .ok (.iconst (-1), 1) := by decide +kernel
theorem dX12_readsNumbers_7 : decode cX12_readsNumbers 7 = .ok (.putfield 180, 3) := by decide +kernel
theorem dX12_readsNumbers_10 : decode cX12_readsNumbers 10 = .ok (.aload_n 0, 1) := by decide +kernel
theorem dX12_readsNumbers_11 : decode cX12_readsNumbers 11 = .ok (.iconst 0, 1) := by decide +kernel
theorem dX12_readsNumbers_12 : decode cX12_readsNumbers 12 = .ok (.putfield 195, 3) := by decide +kernel
theorem dX12_readsNumbers_15 : decode cX12_readsNumbers 15 = .ok (.aload_n 0, 1) := by decide +kernel
theorem dX12_readsNumbers_16 : decode cX12_readsNumbers 16 = .ok (.invokevirtual 189, 3) := by decide +kernel
theorem dX12_readsNumbers_19 : decode cX12_readsNumbers 19 = .ok (.aload_n 0, 1) := by decide +kernel
theorem dX12_readsNumbers_20 : decode cX12_readsNumbers 20 = .ok (.getfield 173, 3) := by decide +kernel
theorem dX12_readsNumbers_23 : decode cX12_readsNumbers 23 = .ok (.aload_n 0, 1) := by decide +kernel
theorem dX12_readsNumbers_24 : decode cX12_readsNumbers 24 = .ok (.getfield 170, 3) := by decide +kernel
theorem dX12_readsNumbers_27 : decode cX12_readsNumbers 27 = .ok (.if_icmp .ge 7, 3) := by decide +kernel
theorem dX12_readsNumbers_30 : decode cX12_readsNumbers 30 = .ok (.iconst 1, 1) := by decide +kernel
theorem dX12_readsNumbers_31 : decode cX12_readsNumbers 31 = .ok (.goto 4, 3) := by decide +kernel
theorem dX12_readsNumbers_34 : decode cX12_readsNumbers 34 = .ok (.iconst 0, 1) := by decide +kernel
theorem dX12_readsNumbers_35 : decode cX12_readsNumbers 35 = .ok (.istore_n 1, 1) := by decide +kernel
theorem dX12_readsNumbers_36 : decode cX12_readsNumbers 36 = .ok (.iconst (-1), 1) := by decide +kernel
theorem dX12_readsNumbers_37 : decode cX12_readsNumbers 37 = .ok (.istore_n 2, 1) := by decide +kernel
theorem dX12_readsNumbers_38 : decode cX12_readsNumbers 38 = .ok (.iload_n 1, 1) := by decide +kernel
theorem dX12_readsNumbers_39 : decode cX12_readsNumbers 39 = .ok (.ifCond .eq 84, 3) := by decide +kernel
theorem dX12_readsNumbers_42 : decode cX12_readsNumbers 42 = .ok (.aload_n 0, 1) := by decide +kernel
theorem dX12_readsNumbers_43 : decode cX12_readsNumbers 43 = .ok (.getfield 180, 3) := by decide +kernel
theorem dX12_readsNumbers_46 : decode cX12_readsNumbers 46 = .ok (.iconst (-1), 1) := by decide +kernel
theorem dX12_readsNumbers_47 : decode cX12_readsNumbers 47 = .ok (.if_icmp .ne 76, 3) := by decide +kernel
theorem dX12_readsNumbers_50 : decode cX12_readsNumbers 50 = .ok (.aload_n 0, 1) := by decide +kernel
theorem dX12_readsNumbers_51 : decode cX12_readsNumbers 51 = .ok (.iload_n 2, 1) := by decide +kernel
theorem dX12_readsNumbers_52 : decode cX12_readsNumbers 52 = .ok (.invokevirtual 198, 3) := by decide +kernel
theorem dX12_readsNumbers_55 : decode cX12_readsNumbers 55 = .ok (.istore_n 2, 1) := by decide +kernel
theorem dX12_readsNumbers_56 : decode cX12_readsNumbers 56 = .ok (.aload_n 0, 1) := by decide +kernel
theorem dX12_readsNumbers_57 : decode cX12_readsNumbers 57 = .ok (.invokevirtual 176, 3) := by decide +kernel
theorem dX12_readsNumbers_60 : decode cX12_readsNumbers 60 = .ok (.bipush 44, 2) := by decide +kernel
theorem dX12_readsNumbers_62 : decode cX12_readsNumbers 62 = .ok (.if_icmp .ne 7, 3) := by decide +kernel
theorem dX12_readsNumbers_65 : decode cX12_readsNumbers 65 = .ok (.iconst 1, 1) := by decide +kernel
theorem dX12_readsNumbers_66 : decode cX12_readsNumbers 66 = .ok (.goto 4, 3) := by decide +kernel
theorem dX12_readsNumbers_69 : decode cX12_readsNumbers 69 = .ok (.iconst 0, 1) := by decide +kernel
theorem dX12_readsNumbers_70 : decode cX12_readsNumbers 70 = .ok (.istore_n 1, 1) := by decide +kernel
theorem dX12_readsNumbers_71 : decode cX12_readsNumbers 71 = .ok (.aload_n 0, 1) := by decide +kernel
theorem dX12_readsNumbers_72 : decode cX12_readsNumbers 72 = .ok (.getfield 180, 3) := by decide +kernel
theorem dX12_readsNumbers_75 : decode cX12_readsNumbers 75 = .ok (.iconst (-1), 1) := by decide +kernel
theorem dX12_readsNumbers_76 : decode cX12_readsNumbers 76 = .ok (.if_icmp .ne 26, 3) := by decide +kernel
theorem dX12_readsNumbers_79 : decode cX12_readsNumbers 79 = .ok (.iload_n 1, 1) := by decide +kernel
theorem dX12_readsNumbers_80 : decode cX12_readsNumbers 80 = .ok (.ifCond .ne 22, 3) := by decide +kernel
theorem dX12_readsNumbers_83 : decode cX12_readsNumbers 83 = .ok (.aload_n 0, 1) := by decide +kernel
theorem dX12_readsNumbers_84 : decode cX12_readsNumbers 84 = .ok (.getfield 173, 3) := by decide +kernel
theorem dX12_readsNumbers_87 : decode cX12_readsNumbers 87 = .ok (.aload_n 0, 1) := by decide +kernel
theorem dX12_readsNumbers_88 : decode cX12_readsNumbers 88 = .ok (.getfield 170, 3) := by decide +kernel
theorem dX12_readsNumbers_91 : decode cX12_readsNumbers 91 = .ok (.if_icmp .ge 11, 3) := by decide +kernel
theorem dX12_readsNumbers_94 : decode cX12_readsNumbers 94 = .ok (.aload_n 0, 1) := by decide +kernel
theorem dX12_readsNumbers_95 : decode cX12_readsNumbers 95 = .ok (.aload_n 0, 1) := by decide +kernel
theorem dX12_readsNumbers_96 : decode cX12_readsNumbers 96 = .ok (.getfield 173, 3) := by decide +kernel
theorem dX12_readsNumbers_99 : decode cX12_readsNumbers 99 = .ok (.invokevirtual 183, 3) := by decide +kernel
theorem dX12_readsNumbers_102 : decode cX12_readsNumbers 102 = .ok (.iload_n 1, 1) := by decide +kernel
theorem dX12_readsNumbers_103 : decode cX12_readsNumbers 103 = .ok (.ifCond .eq (-65), 3) := by decide +kernel
theorem dX12_readsNumbers_106 : decode cX12_readsNumbers 106 = .ok (.aload_n 0, 1) := by decide +kernel
theorem dX12_readsNumbers_107 : decode cX12_readsNumbers 107 = .ok (.dup, 1) := by decide +kernel
theorem dX12_readsNumbers_108 : decode cX12_readsNumbers 108 = .ok (.getfield 173, 3) := by decide +kernel
theorem dX12_readsNumbers_111 : decode cX12_readsNumbers 111 = .ok (.iconst 1, 1) := by decide +kernel
theorem dX12_readsNumbers_112 : decode cX12_readsNumbers 112 = .ok (.iadd, 1) := by decide +kernel
theorem dX12_readsNumbers_113 : decode cX12_readsNumbers 113 = .ok (.putfield 173, 3) := by decide +kernel
theorem dX12_readsNumbers_116 : decode cX12_readsNumbers 116 = .ok (.aload_n 0, 1) := by decide +kernel
theorem dX12_readsNumbers_117 : decode cX12_readsNumbers 117 = .ok (.invokevirtual 189, 3) := by decide +kernel
theorem dX12_readsNumbers_120 : decode cX12_readsNumbers 120 = .ok (.goto (-82), 3) := by decide +kernel
theorem dX12_readsNumbers_123 : decode cX12_readsNumbers 123 = .ok (.return_, 1) := by decide +kernel
theorem dX12_load_0 : decode cX12_load 0 = .ok (.iload_n 1, 1) := by decide +kernel
theorem dX12_load_1 : decode cX12_load 1 = .ok (.invokestatic 73, 3) := by decide +kernel
theorem dX12_load_4 : decode cX12_load 4 = .ok (.ifCond .ne 6, 3) := by decide +kernel
theorem dX12_load_7 : decode cX12_load 7 = .ok (.bipush (-2), 2) := by decide +kernel
theorem dX12_load_9 : decode cX12_load 9 = .ok (.ireturn, 1) := by decide +kernel
theorem dX12_load_10 : decode cX12_load 10 = .ok (.aload_n 0, 1) := by decide +kernel
theorem dX12_load_11 : decode cX12_load 11 = .ok (.invokevirtual 201, 3) := by decide +kernel
theorem dX12_load_14 : decode cX12_load 14 = .ok (.aload_n 0, 1) := by decide +kernel
theorem dX12_load_15 : decode cX12_load 15 = .ok (.getfield 180, 3) := by decide +kernel
theorem dX12_load_18 : decode cX12_load 18 = .ok (.iconst (-1), 1) := by decide +kernel
theorem dX12_load_19 : decode cX12_load 19 = .ok (.if_icmp .eq 12, 3) := by decide +kernel
theorem dX12_load_22 : decode cX12_load 22 = .ok (.sipush (-2000), 3) := by decide +kernel
theorem dX12_load_25 : decode cX12_load 25 = .ok (.aload_n 0, 1) := by decide +kernel
theorem dX12_load_26 : decode cX12_load 26 = .ok (.getfield 180, 3) := by decide +kernel
theorem dX12_load_29 : decode cX12_load 29 = .ok (.isub, 1) := by decide +kernel
theorem dX12_load_30 : decode cX12_load 30 = .ok (.ireturn, 1) := by decide +kernel
theorem dX12_load_31 : decode cX12_load 31 = .ok (.aload_n 0, 1) := by decide +kernel
theorem dX12_load_32 : decode cX12_load 32 = .ok (.iload_n 1, 1) := by decide +kernel
theorem dX12_load_33 : decode cX12_load 33 = .ok (.invokevirtual 154, 3) := by decide +kernel
theorem dX12_load_36 : decode cX12_load 36 = .ok (.aload_n 0, 1) := by decide +kernel
theorem dX12_load_37 : decode cX12_load 37 = .ok (.getfield 7, 3) := by decide +kernel
theorem dX12_load_40 : decode cX12_load 40 = .ok (.sipush 402, 3) := by decide +kernel
theorem dX12_load_43 : decode cX12_load 43 = .ok (.iload_n 1, 1) := by decide +kernel
theorem dX12_load_44 : decode cX12_load 44 = .ok (.imul, 1) := by decide +kernel
theorem dX12_load_45 : decode cX12_load 45 = .ok (.aload_n 0, 1) := by decide +kernel
theorem dX12_load_46 : decode cX12_load 46 = .ok (.getfield 195, 3) := by decide +kernel
theorem dX12_load_49 : decode cX12_load 49 = .ok (.iastore, 1) := by decide +kernel
theorem dX12_load_50 : decode cX12_load 50 = .ok (.iconst 0, 1) := by decide +kernel
theorem dX12_load_51 : decode cX12_load 51 = .ok (.istore_n 2, 1) := by decide +kernel
theorem dX12_load_52 : decode cX12_load 52 = .ok (.iload_n 2, 1) := by decide +kernel
theorem dX12_load_53 : decode cX12_load 53 = .ok (.aload_n 0, 1) := by decide +kernel
theorem dX12_load_54 : decode cX12_load 54 = .ok (.getfield 195, 3) := by decide +kernel
theorem dX12_load_57 : decode cX12_load 57 = .ok (.if_icmp .ge 29, 3) := by decide +kernel
theorem dX12_load_60 : decode cX12_load 60 = .ok (.aload_n 0, 1) := by decide +kernel
theorem dX12_load_61 : decode cX12_load 61 = .ok (.getfield 7, 3) := by decide +kernel
theorem dX12_load_64 : decode cX12_load 64 = .ok (.sipush 402, 3) := by decide +kernel
theorem dX12_load_67 : decode cX12_load 67 = .ok (.iload_n 1, 1) := by decide +kernel
theorem dX12_load_68 : decode cX12_load 68 = .ok (.imul, 1) := by decide +kernel
theorem dX12_load_69 : decode cX12_load 69 = .ok (.iconst 1, 1) := by decide +kernel
theorem dX12_load_70 : decode cX12_load 70 = .ok (.iadd, 1) := by decide +kernel
theorem dX12_load_71 : decode cX12_load 71 = .ok (.iload_n 2, 1) := by decide +kernel
theorem dX12_load_72 : decode cX12_load 72 = .ok (.iadd, 1) := by decide +kernel
theorem dX12_load_73 : decode cX12_load 73 = .ok (.aload_n 0, 1) := by decide +kernel
theorem dX12_load_74 : decode cX12_load 74 = .ok (.getfield 50, 3) := by decide +kernel
theorem dX12_load_77 : decode cX12_load 77 = .ok (.iload_n 2, 1) := by decide +kernel
theorem dX12_load_78 : decode cX12_load 78 = .ok (.iaload, 1) := by decide +kernel
theorem dX12_load_79 : decode cX12_load 79 = .ok (.iastore, 1) := by decide +kernel
theorem dX12_load_80 : decode cX12_load 80 = .ok (.iinc 2 1, 3) := by decide +kernel
theorem dX12_load_83 : decode cX12_load 83 = .ok (.goto (-31), 3) := by decide +kernel
theorem dX12_load_86 : decode cX12_load 86 = .ok (.aload_n 0, 1) := by decide +kernel
theorem dX12_load_87 : decode cX12_load 87 = .ok (.iconst 0, 1) := by decide +kernel
theorem dX12_load_88 : decode cX12_load 88 = .ok (.putfield 170, 3) := by decide +kernel
theorem dX12_load_91 : decode cX12_load 91 = .ok (.aload_n 0, 1) := by decide +kernel
theorem dX12_load_92 : decode cX12_load 92 = .ok (.iload_n 1, 1) := by decide +kernel
theorem dX12_load_93 : decode cX12_load 93 = .ok (.iconst 0, 1) := by decide +kernel
theorem dX12_load_94 : decode cX12_load 94 = .ok (.invokevirtual 167, 3) := by decide +kernel
theorem dX12_load_97 : decode cX12_load 97 = .ok (.istore_n 2, 1) := by decide +kernel
theorem dX12_load_98 : decode cX12_load 98 = .ok (.iload_n 2, 1) := by decide +kernel
theorem dX12_load_99 : decode cX12_load 99 = .ok (.ifCond .ge 7, 3) := by decide +kernel
theorem dX12_load_102 : decode cX12_load 102 = .ok (.iconst (-1), 1) := by decide +kernel
theorem dX12_load_103 : decode cX12_load 103 = .ok (.goto 7, 3) := by decide +kernel
theorem dX12_load_106 : decode cX12_load 106 = .ok (.aload_n 0, 1) := by decide +kernel
theorem dX12_load_107 : decode cX12_load 107 = .ok (.getfield 195, 3) := by decide +kernel
theorem dX12_load_110 : decode cX12_load 110 = .ok (.ireturn, 1) := by decide +kernel
theorem dX12_exceptionsOf_0 : decode cX12_exceptionsOf 0 = .ok (.iconst 0, 1) := by decide +kernel
theorem dX12_exceptionsOf_1 : decode cX12_exceptionsOf 1 = .ok (.istore_n 2, 1) := by decide +kernel
theorem dX12_exceptionsOf_2 : decode cX12_exceptionsOf 2 = .ok (.iconst 0, 1) := by decide +kernel
theorem dX12_exceptionsOf_3 : decode cX12_exceptionsOf 3 = .ok (.istore_n 3, 1) := by decide +kernel
theorem dX12_exceptionsOf_4 : decode cX12_exceptionsOf 4 = .ok (.iload_n 3, 1) := by decide +kernel
theorem dX12_exceptionsOf_5 : decode cX12_exceptionsOf 5 = .ok (.aload_n 0, 1) := by decide +kernel
theorem dX12_exceptionsOf_6 : decode cX12_exceptionsOf 6 = .ok (.iload_n 1, 1) := by decide +kernel
theorem dX12_exceptionsOf_7 : decode cX12_exceptionsOf 7 = .ok (.invokevirtual 77, 3) := by decide +kernel
theorem dX12_exceptionsOf_10 : decode cX12_exceptionsOf 10 = .ok (.if_icmp .ge 18, 3) := by decide +kernel
theorem dX12_exceptionsOf_13 : decode cX12_exceptionsOf 13 = .ok (.iload_n 2, 1) := by decide +kernel
theorem dX12_exceptionsOf_14 : decode cX12_exceptionsOf 14 = .ok (.aload_n 0, 1) := by decide +kernel
theorem dX12_exceptionsOf_15 : decode cX12_exceptionsOf 15 = .ok (.iload_n 1, 1) := by decide +kernel
theorem dX12_exceptionsOf_16 : decode cX12_exceptionsOf 16 = .ok (.iload_n 3, 1) := by decide +kernel
theorem dX12_exceptionsOf_17 : decode cX12_exceptionsOf 17 = .ok (.invokevirtual 204, 3) := by decide +kernel
theorem dX12_exceptionsOf_20 : decode cX12_exceptionsOf 20 = .ok (.iadd, 1) := by decide +kernel
theorem dX12_exceptionsOf_21 : decode cX12_exceptionsOf 21 = .ok (.istore_n 2, 1) := by decide +kernel
theorem dX12_exceptionsOf_22 : decode cX12_exceptionsOf 22 = .ok (.iinc 3 1, 3) := by decide +kernel
theorem dX12_exceptionsOf_25 : decode cX12_exceptionsOf 25 = .ok (.goto (-21), 3) := by decide +kernel
theorem dX12_exceptionsOf_28 : decode cX12_exceptionsOf 28 = .ok (.iload_n 2, 1) := by decide +kernel
theorem dX12_exceptionsOf_29 : decode cX12_exceptionsOf 29 = .ok (.ireturn, 1) := by decide +kernel
theorem dX12_listPart_0 : decode cX12_listPart 0 = .ok (.iload_n 2, 1) := by decide +kernel
theorem dX12_listPart_1 : decode cX12_listPart 1 = .ok (.tableswitch 78 0 4 #[35, 41, 47, 53, 59], 35) := by decide +kernel
theorem dX12_listPart_36 : decode cX12_listPart 36 = .ok (.aload_n 0, 1) := by decide +kernel
theorem dX12_listPart_37 : decode cX12_listPart 37 = .ok (.iload_n 1, 1) := by decide +kernel
theorem dX12_listPart_38 : decode cX12_listPart 38 = .ok (.invokevirtual 131, 3) := by decide +kernel
theorem dX12_listPart_41 : decode cX12_listPart 41 = .ok (.ireturn, 1) := by decide +kernel
theorem dX12_listPart_42 : decode cX12_listPart 42 = .ok (.aload_n 0, 1) := by decide +kernel
theorem dX12_listPart_43 : decode cX12_listPart 43 = .ok (.iload_n 1, 1) := by decide +kernel
theorem dX12_listPart_44 : decode cX12_listPart 44 = .ok (.invokevirtual 77, 3) := by decide +kernel
theorem dX12_listPart_47 : decode cX12_listPart 47 = .ok (.ireturn, 1) := by decide +kernel
theorem dX12_listPart_48 : decode cX12_listPart 48 = .ok (.aload_n 0, 1) := by decide +kernel
theorem dX12_listPart_49 : decode cX12_listPart 49 = .ok (.iload_n 1, 1) := by decide +kernel
theorem dX12_listPart_50 : decode cX12_listPart 50 = .ok (.invokevirtual 207, 3) := by decide +kernel
theorem dX12_listPart_53 : decode cX12_listPart 53 = .ok (.ireturn, 1) := by decide +kernel
theorem dX12_listPart_54 : decode cX12_listPart 54 = .ok (.aload_n 0, 1) := by decide +kernel
theorem dX12_listPart_55 : decode cX12_listPart 55 = .ok (.iload_n 1, 1) := by decide +kernel
theorem dX12_listPart_56 : decode cX12_listPart 56 = .ok (.invokevirtual 210, 3) := by decide +kernel
theorem dX12_listPart_59 : decode cX12_listPart 59 = .ok (.ireturn, 1) := by decide +kernel
theorem dX12_listPart_60 : decode cX12_listPart 60 = .ok (.aload_n 0, 1) := by decide +kernel
theorem dX12_listPart_61 : decode cX12_listPart 61 = .ok (.iload_n 1, 1) := by decide +kernel
theorem dX12_listPart_62 : decode cX12_listPart 62 = .ok (.invokevirtual 131, 3) := by decide +kernel
theorem dX12_listPart_65 : decode cX12_listPart 65 = .ok (.ifCond .ne 7, 3) := by decide +kernel
theorem dX12_listPart_68 : decode cX12_listPart 68 = .ok (.iconst (-1), 1) := by decide +kernel
theorem dX12_listPart_69 : decode cX12_listPart 69 = .ok (.goto 9, 3) := by decide +kernel
theorem dX12_listPart_72 : decode cX12_listPart 72 = .ok (.aload_n 0, 1) := by decide +kernel
theorem dX12_listPart_73 : decode cX12_listPart 73 = .ok (.iload_n 1, 1) := by decide +kernel
theorem dX12_listPart_74 : decode cX12_listPart 74 = .ok (.iconst 0, 1) := by decide +kernel
theorem dX12_listPart_75 : decode cX12_listPart 75 = .ok (.invokevirtual 103, 3) := by decide +kernel
theorem dX12_listPart_78 : decode cX12_listPart 78 = .ok (.ireturn, 1) := by decide +kernel
theorem dX12_listPart_79 : decode cX12_listPart 79 = .ok (.aload_n 0, 1) := by decide +kernel
theorem dX12_listPart_80 : decode cX12_listPart 80 = .ok (.iload_n 1, 1) := by decide +kernel
theorem dX12_listPart_81 : decode cX12_listPart 81 = .ok (.invokevirtual 131, 3) := by decide +kernel
theorem dX12_listPart_84 : decode cX12_listPart 84 = .ok (.ifCond .ne 7, 3) := by decide +kernel
theorem dX12_listPart_87 : decode cX12_listPart 87 = .ok (.iconst (-1), 1) := by decide +kernel
theorem dX12_listPart_88 : decode cX12_listPart 88 = .ok (.goto 15, 3) := by decide +kernel
theorem dX12_listPart_91 : decode cX12_listPart 91 = .ok (.aload_n 0, 1) := by decide +kernel
theorem dX12_listPart_92 : decode cX12_listPart 92 = .ok (.iload_n 1, 1) := by decide +kernel
theorem dX12_listPart_93 : decode cX12_listPart 93 = .ok (.aload_n 0, 1) := by decide +kernel
theorem dX12_listPart_94 : decode cX12_listPart 94 = .ok (.iload_n 1, 1) := by decide +kernel
theorem dX12_listPart_95 : decode cX12_listPart 95 = .ok (.invokevirtual 131, 3) := by decide +kernel
theorem dX12_listPart_98 : decode cX12_listPart 98 = .ok (.iconst 1, 1) := by decide +kernel
theorem dX12_listPart_99 : decode cX12_listPart 99 = .ok (.isub, 1) := by decide +kernel
theorem dX12_listPart_100 : decode cX12_listPart 100 = .ok (.invokevirtual 103, 3) := by decide +kernel
theorem dX12_listPart_103 : decode cX12_listPart 103 = .ok (.ireturn, 1) := by decide +kernel
theorem dX12_list_0 : decode cX12_list 0 = .ok (.iload_n 1, 1) := by decide +kernel
theorem dX12_list_1 : decode cX12_list 1 = .ok (.invokestatic 73, 3) := by decide +kernel
theorem dX12_list_4 : decode cX12_list 4 = .ok (.ifCond .eq 21, 3) := by decide +kernel
theorem dX12_list_7 : decode cX12_list 7 = .ok (.iload_n 2, 1) := by decide +kernel
theorem dX12_list_8 : decode cX12_list 8 = .ok (.iconst 0, 1) := by decide +kernel
theorem dX12_list_9 : decode cX12_list 9 = .ok (.iconst 5, 1) := by decide +kernel
theorem dX12_list_10 : decode cX12_list 10 = .ok (.invokestatic 68, 3) := by decide +kernel
theorem dX12_list_13 : decode cX12_list 13 = .ok (.ifCond .eq 12, 3) := by decide +kernel
theorem dX12_list_16 : decode cX12_list 16 = .ok (.aload_n 0, 1) := by decide +kernel
theorem dX12_list_17 : decode cX12_list 17 = .ok (.iload_n 1, 1) := by decide +kernel
theorem dX12_list_18 : decode cX12_list 18 = .ok (.iload_n 2, 1) := by decide +kernel
theorem dX12_list_19 : decode cX12_list 19 = .ok (.invokevirtual 213, 3) := by decide +kernel
theorem dX12_list_22 : decode cX12_list 22 = .ok (.goto 5, 3) := by decide +kernel
theorem dX12_list_25 : decode cX12_list 25 = .ok (.bipush (-2), 2) := by decide +kernel
theorem dX12_list_27 : decode cX12_list 27 = .ok (.ireturn, 1) := by decide +kernel
theorem dX12_words_0 : decode cX12_words 0 = .ok (.aload_n 0, 1) := by decide +kernel
theorem dX12_words_1 : decode cX12_words 1 = .ok (.iload_n 1, 1) := by decide +kernel
theorem dX12_words_2 : decode cX12_words 2 = .ok (.iload_n 2, 1) := by decide +kernel
theorem dX12_words_3 : decode cX12_words 3 = .ok (.invokevirtual 122, 3) := by decide +kernel
theorem dX12_words_6 : decode cX12_words 6 = .ok (.aload_n 0, 1) := by decide +kernel
theorem dX12_words_7 : decode cX12_words 7 = .ok (.iload_n 1, 1) := by decide +kernel
theorem dX12_words_8 : decode cX12_words 8 = .ok (.iload_n 2, 1) := by decide +kernel
theorem dX12_words_9 : decode cX12_words 9 = .ok (.invokevirtual 81, 3) := by decide +kernel
theorem dX12_words_12 : decode cX12_words 12 = .ok (.iconst 1, 1) := by decide +kernel
theorem dX12_words_13 : decode cX12_words 13 = .ok (.isub, 1) := by decide +kernel
theorem dX12_words_14 : decode cX12_words 14 = .ok (.imul, 1) := by decide +kernel
theorem dX12_words_15 : decode cX12_words 15 = .ok (.bipush 31, 2) := by decide +kernel
theorem dX12_words_17 : decode cX12_words 17 = .ok (.iadd, 1) := by decide +kernel
theorem dX12_words_18 : decode cX12_words 18 = .ok (.bipush 32, 2) := by decide +kernel
theorem dX12_words_20 : decode cX12_words 20 = .ok (.idiv, 1) := by decide +kernel
theorem dX12_words_21 : decode cX12_words 21 = .ok (.ireturn, 1) := by decide +kernel
theorem dX12_block_0 : decode cX12_block 0 = .ok (.aload_n 0, 1) := by decide +kernel
theorem dX12_block_1 : decode cX12_block 1 = .ok (.iload_n 1, 1) := by decide +kernel
theorem dX12_block_2 : decode cX12_block 2 = .ok (.iload_n 2, 1) := by decide +kernel
theorem dX12_block_3 : decode cX12_block 3 = .ok (.invokevirtual 216, 3) := by decide +kernel
theorem dX12_block_6 : decode cX12_block 6 = .ok (.ifCond .ne 6, 3) := by decide +kernel
theorem dX12_block_9 : decode cX12_block 9 = .ok (.bipush (-2), 2) := by decide +kernel
theorem dX12_block_11 : decode cX12_block 11 = .ok (.ireturn, 1) := by decide +kernel
theorem dX12_block_12 : decode cX12_block 12 = .ok (.iload_n 3, 1) := by decide +kernel
theorem dX12_block_13 : decode cX12_block 13 = .ok (.tableswitch 97 0 6 #[43, 50, 57, 69, 76, 83, 90], 43) := by decide +kernel
theorem dX12_block_56 : decode cX12_block 56 = .ok (.aload_n 0, 1) := by decide +kernel
theorem dX12_block_57 : decode cX12_block 57 = .ok (.iload_n 1, 1) := by decide +kernel
theorem dX12_block_58 : decode cX12_block 58 = .ok (.iload_n 2, 1) := by decide +kernel
theorem dX12_block_59 : decode cX12_block 59 = .ok (.invokevirtual 85, 3) := by decide +kernel
theorem dX12_block_62 : decode cX12_block 62 = .ok (.ireturn, 1) := by decide +kernel
theorem dX12_block_63 : decode cX12_block 63 = .ok (.aload_n 0, 1) := by decide +kernel
theorem dX12_block_64 : decode cX12_block 64 = .ok (.iload_n 1, 1) := by decide +kernel
theorem dX12_block_65 : decode cX12_block 65 = .ok (.iload_n 2, 1) := by decide +kernel
theorem dX12_block_66 : decode cX12_block 66 = .ok (.invokevirtual 81, 3) := by decide +kernel
theorem dX12_block_69 : decode cX12_block 69 = .ok (.ireturn, 1) := by decide +kernel
theorem dX12_block_70 : decode cX12_block 70 = .ok (.aload_n 0, 1) := by decide +kernel
theorem dX12_block_71 : decode cX12_block 71 = .ok (.iload_n 1, 1) := by decide +kernel
theorem dX12_block_72 : decode cX12_block 72 = .ok (.aload_n 0, 1) := by decide +kernel
theorem dX12_block_73 : decode cX12_block 73 = .ok (.iload_n 1, 1) := by decide +kernel
theorem dX12_block_74 : decode cX12_block 74 = .ok (.iload_n 2, 1) := by decide +kernel
theorem dX12_block_75 : decode cX12_block 75 = .ok (.invokevirtual 85, 3) := by decide +kernel
theorem dX12_block_78 : decode cX12_block 78 = .ok (.invokevirtual 103, 3) := by decide +kernel
theorem dX12_block_81 : decode cX12_block 81 = .ok (.ireturn, 1) := by decide +kernel
theorem dX12_block_82 : decode cX12_block 82 = .ok (.aload_n 0, 1) := by decide +kernel
theorem dX12_block_83 : decode cX12_block 83 = .ok (.iload_n 1, 1) := by decide +kernel
theorem dX12_block_84 : decode cX12_block 84 = .ok (.iload_n 2, 1) := by decide +kernel
theorem dX12_block_85 : decode cX12_block 85 = .ok (.invokevirtual 122, 3) := by decide +kernel
theorem dX12_block_88 : decode cX12_block 88 = .ok (.ireturn, 1) := by decide +kernel
theorem dX12_block_89 : decode cX12_block 89 = .ok (.aload_n 0, 1) := by decide +kernel
theorem dX12_block_90 : decode cX12_block 90 = .ok (.iload_n 1, 1) := by decide +kernel
theorem dX12_block_91 : decode cX12_block 91 = .ok (.iload_n 2, 1) := by decide +kernel
theorem dX12_block_92 : decode cX12_block 92 = .ok (.invokevirtual 204, 3) := by decide +kernel
theorem dX12_block_95 : decode cX12_block 95 = .ok (.ireturn, 1) := by decide +kernel
theorem dX12_block_96 : decode cX12_block 96 = .ok (.aload_n 0, 1) := by decide +kernel
theorem dX12_block_97 : decode cX12_block 97 = .ok (.iload_n 1, 1) := by decide +kernel
theorem dX12_block_98 : decode cX12_block 98 = .ok (.iload_n 2, 1) := by decide +kernel
theorem dX12_block_99 : decode cX12_block 99 = .ok (.invokevirtual 128, 3) := by decide +kernel
theorem dX12_block_102 : decode cX12_block 102 = .ok (.ireturn, 1) := by decide +kernel
theorem dX12_block_103 : decode cX12_block 103 = .ok (.aload_n 0, 1) := by decide +kernel
theorem dX12_block_104 : decode cX12_block 104 = .ok (.iload_n 1, 1) := by decide +kernel
theorem dX12_block_105 : decode cX12_block 105 = .ok (.iload_n 2, 1) := by decide +kernel
theorem dX12_block_106 : decode cX12_block 106 = .ok (.invokevirtual 219, 3) := by decide +kernel
theorem dX12_block_109 : decode cX12_block 109 = .ok (.ireturn, 1) := by decide +kernel
theorem dX12_block_110 : decode cX12_block 110 = .ok (.bipush (-2), 2) := by decide +kernel
theorem dX12_block_112 : decode cX12_block 112 = .ok (.ireturn, 1) := by decide +kernel
theorem dX12_word_0 : decode cX12_word 0 = .ok (.aload_n 0, 1) := by decide +kernel
theorem dX12_word_1 : decode cX12_word 1 = .ok (.iload_n 1, 1) := by decide +kernel
theorem dX12_word_2 : decode cX12_word 2 = .ok (.iload_n 2, 1) := by decide +kernel
theorem dX12_word_3 : decode cX12_word 3 = .ok (.invokevirtual 216, 3) := by decide +kernel
theorem dX12_word_6 : decode cX12_word 6 = .ok (.ifCond .eq 19, 3) := by decide +kernel
theorem dX12_word_9 : decode cX12_word 9 = .ok (.iload_n 3, 1) := by decide +kernel
theorem dX12_word_10 : decode cX12_word 10 = .ok (.iconst 0, 1) := by decide +kernel
theorem dX12_word_11 : decode cX12_word 11 = .ok (.aload_n 0, 1) := by decide +kernel
theorem dX12_word_12 : decode cX12_word 12 = .ok (.iload_n 1, 1) := by decide +kernel
theorem dX12_word_13 : decode cX12_word 13 = .ok (.iload_n 2, 1) := by decide +kernel
theorem dX12_word_14 : decode cX12_word 14 = .ok (.invokevirtual 219, 3) := by decide +kernel
theorem dX12_word_17 : decode cX12_word 17 = .ok (.iconst 1, 1) := by decide +kernel
theorem dX12_word_18 : decode cX12_word 18 = .ok (.isub, 1) := by decide +kernel
theorem dX12_word_19 : decode cX12_word 19 = .ok (.invokestatic 68, 3) := by decide +kernel
theorem dX12_word_22 : decode cX12_word 22 = .ok (.ifCond .ne 7, 3) := by decide +kernel
theorem dX12_word_25 : decode cX12_word 25 = .ok (.ldc2_w 222, 3) := by decide +kernel
theorem dX12_word_28 : decode cX12_word 28 = .ok (.lreturn, 1) := by decide +kernel
theorem dX12_word_29 : decode cX12_word 29 = .ok (.aload_n 0, 1) := by decide +kernel
theorem dX12_word_30 : decode cX12_word 30 = .ok (.iload_n 1, 1) := by decide +kernel
theorem dX12_word_31 : decode cX12_word 31 = .ok (.iload_n 2, 1) := by decide +kernel
theorem dX12_word_32 : decode cX12_word 32 = .ok (.invokevirtual 122, 3) := by decide +kernel
theorem dX12_word_35 : decode cX12_word 35 = .ok (.istore 4, 2) := by decide +kernel
theorem dX12_word_37 : decode cX12_word 37 = .ok (.aload_n 0, 1) := by decide +kernel
theorem dX12_word_38 : decode cX12_word 38 = .ok (.iload_n 1, 1) := by decide +kernel
theorem dX12_word_39 : decode cX12_word 39 = .ok (.iload_n 2, 1) := by decide +kernel
theorem dX12_word_40 : decode cX12_word 40 = .ok (.invokevirtual 85, 3) := by decide +kernel
theorem dX12_word_43 : decode cX12_word 43 = .ok (.istore 5, 2) := by decide +kernel
theorem dX12_word_45 : decode cX12_word 45 = .ok (.lconst 0, 1) := by decide +kernel
theorem dX12_word_46 : decode cX12_word 46 = .ok (.lstore 6, 2) := by decide +kernel
theorem dX12_word_48 : decode cX12_word 48 = .ok (.iconst 0, 1) := by decide +kernel
theorem dX12_word_49 : decode cX12_word 49 = .ok (.istore 8, 2) := by decide +kernel
theorem dX12_word_51 : decode cX12_word 51 = .ok (.iload 8, 2) := by decide +kernel
theorem dX12_word_53 : decode cX12_word 53 = .ok (.bipush 32, 2) := by decide +kernel
theorem dX12_word_55 : decode cX12_word 55 = .ok (.if_icmp .ge 65, 3) := by decide +kernel
theorem dX12_word_58 : decode cX12_word 58 = .ok (.bipush 32, 2) := by decide +kernel
theorem dX12_word_60 : decode cX12_word 60 = .ok (.iload_n 3, 1) := by decide +kernel
theorem dX12_word_61 : decode cX12_word 61 = .ok (.imul, 1) := by decide +kernel
theorem dX12_word_62 : decode cX12_word 62 = .ok (.iload 8, 2) := by decide +kernel
theorem dX12_word_64 : decode cX12_word 64 = .ok (.iadd, 1) := by decide +kernel
theorem dX12_word_65 : decode cX12_word 65 = .ok (.istore 9, 2) := by decide +kernel
theorem dX12_word_67 : decode cX12_word 67 = .ok (.iconst 1, 1) := by decide +kernel
theorem dX12_word_68 : decode cX12_word 68 = .ok (.iload 9, 2) := by decide +kernel
theorem dX12_word_70 : decode cX12_word 70 = .ok (.iload 4, 2) := by decide +kernel
theorem dX12_word_72 : decode cX12_word 72 = .ok (.idiv, 1) := by decide +kernel
theorem dX12_word_73 : decode cX12_word 73 = .ok (.iadd, 1) := by decide +kernel
theorem dX12_word_74 : decode cX12_word 74 = .ok (.istore 10, 2) := by decide +kernel
theorem dX12_word_76 : decode cX12_word 76 = .ok (.iload 10, 2) := by decide +kernel
theorem dX12_word_78 : decode cX12_word 78 = .ok (.aload_n 0, 1) := by decide +kernel
theorem dX12_word_79 : decode cX12_word 79 = .ok (.iload_n 1, 1) := by decide +kernel
theorem dX12_word_80 : decode cX12_word 80 = .ok (.iload_n 2, 1) := by decide +kernel
theorem dX12_word_81 : decode cX12_word 81 = .ok (.invokevirtual 81, 3) := by decide +kernel
theorem dX12_word_84 : decode cX12_word 84 = .ok (.if_icmp .ge 30, 3) := by decide +kernel
theorem dX12_word_87 : decode cX12_word 87 = .ok (.lload 6, 2) := by decide +kernel
theorem dX12_word_89 : decode cX12_word 89 = .ok (.aload_n 0, 1) := by decide +kernel
theorem dX12_word_90 : decode cX12_word 90 = .ok (.iload_n 1, 1) := by decide +kernel
theorem dX12_word_91 : decode cX12_word 91 = .ok (.iload 5, 2) := by decide +kernel
theorem dX12_word_93 : decode cX12_word 93 = .ok (.iload 10, 2) := by decide +kernel
theorem dX12_word_95 : decode cX12_word 95 = .ok (.iadd, 1) := by decide +kernel
theorem dX12_word_96 : decode cX12_word 96 = .ok (.invokevirtual 106, 3) := by decide +kernel
theorem dX12_word_99 : decode cX12_word 99 = .ok (.iload 9, 2) := by decide +kernel
theorem dX12_word_101 : decode cX12_word 101 = .ok (.iload 4, 2) := by decide +kernel
theorem dX12_word_103 : decode cX12_word 103 = .ok (.irem, 1) := by decide +kernel
theorem dX12_word_104 : decode cX12_word 104 = .ok (.ishr, 1) := by decide +kernel
theorem dX12_word_105 : decode cX12_word 105 = .ok (.iconst 1, 1) := by decide +kernel
theorem dX12_word_106 : decode cX12_word 106 = .ok (.iand, 1) := by decide +kernel
theorem dX12_word_107 : decode cX12_word 107 = .ok (.i2l, 1) := by decide +kernel
theorem dX12_word_108 : decode cX12_word 108 = .ok (.iload 8, 2) := by decide +kernel
theorem dX12_word_110 : decode cX12_word 110 = .ok (.lshl, 1) := by decide +kernel
theorem dX12_word_111 : decode cX12_word 111 = .ok (.lor, 1) := by decide +kernel
theorem dX12_word_112 : decode cX12_word 112 = .ok (.lstore 6, 2) := by decide +kernel
theorem dX12_word_114 : decode cX12_word 114 = .ok (.iinc 8 1, 3) := by decide +kernel
theorem dX12_word_117 : decode cX12_word 117 = .ok (.goto (-66), 3) := by decide +kernel
theorem dX12_word_120 : decode cX12_word 120 = .ok (.lload 6, 2) := by decide +kernel
theorem dX12_word_122 : decode cX12_word 122 = .ok (.lreturn, 1) := by decide +kernel
theorem dX12_exception_0 : decode cX12_exception 0 = .ok (.aload_n 0, 1) := by decide +kernel
theorem dX12_exception_1 : decode cX12_exception 1 = .ok (.iload_n 1, 1) := by decide +kernel
theorem dX12_exception_2 : decode cX12_exception 2 = .ok (.iload_n 2, 1) := by decide +kernel
theorem dX12_exception_3 : decode cX12_exception 3 = .ok (.invokevirtual 216, 3) := by decide +kernel
theorem dX12_exception_6 : decode cX12_exception 6 = .ok (.ifCond .eq 17, 3) := by decide +kernel
theorem dX12_exception_9 : decode cX12_exception 9 = .ok (.iload_n 3, 1) := by decide +kernel
theorem dX12_exception_10 : decode cX12_exception 10 = .ok (.ifCond .lt 13, 3) := by decide +kernel
theorem dX12_exception_13 : decode cX12_exception 13 = .ok (.iload 4, 2) := by decide +kernel
theorem dX12_exception_15 : decode cX12_exception 15 = .ok (.iconst 0, 1) := by decide +kernel
theorem dX12_exception_16 : decode cX12_exception 16 = .ok (.iconst 1, 1) := by decide +kernel
theorem dX12_exception_17 : decode cX12_exception 17 = .ok (.invokestatic 68, 3) := by decide +kernel
theorem dX12_exception_20 : decode cX12_exception 20 = .ok (.ifCond .ne 6, 3) := by decide +kernel
theorem dX12_exception_23 : decode cX12_exception 23 = .ok (.bipush (-2), 2) := by decide +kernel
theorem dX12_exception_25 : decode cX12_exception 25 = .ok (.ireturn, 1) := by decide +kernel
theorem dX12_exception_26 : decode cX12_exception 26 = .ok (.aload_n 0, 1) := by decide +kernel
theorem dX12_exception_27 : decode cX12_exception 27 = .ok (.iload_n 1, 1) := by decide +kernel
theorem dX12_exception_28 : decode cX12_exception 28 = .ok (.iload_n 2, 1) := by decide +kernel
theorem dX12_exception_29 : decode cX12_exception 29 = .ok (.invokevirtual 122, 3) := by decide +kernel
theorem dX12_exception_32 : decode cX12_exception 32 = .ok (.istore 5, 2) := by decide +kernel
theorem dX12_exception_34 : decode cX12_exception 34 = .ok (.aload_n 0, 1) := by decide +kernel
theorem dX12_exception_35 : decode cX12_exception 35 = .ok (.iload_n 1, 1) := by decide +kernel
theorem dX12_exception_36 : decode cX12_exception 36 = .ok (.iload_n 2, 1) := by decide +kernel
theorem dX12_exception_37 : decode cX12_exception 37 = .ok (.invokevirtual 85, 3) := by decide +kernel
theorem dX12_exception_40 : decode cX12_exception 40 = .ok (.istore 6, 2) := by decide +kernel
theorem dX12_exception_42 : decode cX12_exception 42 = .ok (.iload_n 3, 1) := by decide +kernel
theorem dX12_exception_43 : decode cX12_exception 43 = .ok (.istore 7, 2) := by decide +kernel
theorem dX12_exception_45 : decode cX12_exception 45 = .ok (.iconst 1, 1) := by decide +kernel
theorem dX12_exception_46 : decode cX12_exception 46 = .ok (.istore 8, 2) := by decide +kernel
theorem dX12_exception_48 : decode cX12_exception 48 = .ok (.iload 8, 2) := by decide +kernel
theorem dX12_exception_50 : decode cX12_exception 50 = .ok (.aload_n 0, 1) := by decide +kernel
theorem dX12_exception_51 : decode cX12_exception 51 = .ok (.iload_n 1, 1) := by decide +kernel
theorem dX12_exception_52 : decode cX12_exception 52 = .ok (.iload_n 2, 1) := by decide +kernel
theorem dX12_exception_53 : decode cX12_exception 53 = .ok (.invokevirtual 81, 3) := by decide +kernel
theorem dX12_exception_56 : decode cX12_exception 56 = .ok (.if_icmp .ge 59, 3) := by decide +kernel
theorem dX12_exception_59 : decode cX12_exception 59 = .ok (.aload_n 0, 1) := by decide +kernel
theorem dX12_exception_60 : decode cX12_exception 60 = .ok (.iload_n 1, 1) := by decide +kernel
theorem dX12_exception_61 : decode cX12_exception 61 = .ok (.iload 6, 2) := by decide +kernel
theorem dX12_exception_63 : decode cX12_exception 63 = .ok (.iload 8, 2) := by decide +kernel
theorem dX12_exception_65 : decode cX12_exception 65 = .ok (.iadd, 1) := by decide +kernel
theorem dX12_exception_66 : decode cX12_exception 66 = .ok (.invokevirtual 106, 3) := by decide +kernel
theorem dX12_exception_69 : decode cX12_exception 69 = .ok (.invokestatic 109, 3) := by decide +kernel
theorem dX12_exception_72 : decode cX12_exception 72 = .ok (.iload 5, 2) := by decide +kernel
theorem dX12_exception_74 : decode cX12_exception 74 = .ok (.if_icmp .le 35, 3) := by decide +kernel
theorem dX12_exception_77 : decode cX12_exception 77 = .ok (.iload 7, 2) := by decide +kernel
theorem dX12_exception_79 : decode cX12_exception 79 = .ok (.ifCond .ne 27, 3) := by decide +kernel
theorem dX12_exception_82 : decode cX12_exception 82 = .ok (.iload 4, 2) := by decide +kernel
theorem dX12_exception_84 : decode cX12_exception 84 = .ok (.ifCond .ne 8, 3) := by decide +kernel
theorem dX12_exception_87 : decode cX12_exception 87 = .ok (.iload 8, 2) := by decide +kernel
theorem dX12_exception_89 : decode cX12_exception 89 = .ok (.goto 16, 3) := by decide +kernel
theorem dX12_exception_92 : decode cX12_exception 92 = .ok (.aload_n 0, 1) := by decide +kernel
theorem dX12_exception_93 : decode cX12_exception 93 = .ok (.iload_n 1, 1) := by decide +kernel
theorem dX12_exception_94 : decode cX12_exception 94 = .ok (.iload 6, 2) := by decide +kernel
theorem dX12_exception_96 : decode cX12_exception 96 = .ok (.iload 8, 2) := by decide +kernel
theorem dX12_exception_98 : decode cX12_exception 98 = .ok (.iadd, 1) := by decide +kernel
theorem dX12_exception_99 : decode cX12_exception 99 = .ok (.invokevirtual 106, 3) := by decide +kernel
theorem dX12_exception_102 : decode cX12_exception 102 = .ok (.iload 5, 2) := by decide +kernel
theorem dX12_exception_104 : decode cX12_exception 104 = .ok (.ishr, 1) := by decide +kernel
theorem dX12_exception_105 : decode cX12_exception 105 = .ok (.ireturn, 1) := by decide +kernel
theorem dX12_exception_106 : decode cX12_exception 106 = .ok (.iinc 7 (-1), 3) := by decide +kernel
theorem dX12_exception_109 : decode cX12_exception 109 = .ok (.iinc 8 1, 3) := by decide +kernel
theorem dX12_exception_112 : decode cX12_exception 112 = .ok (.goto (-64), 3) := by decide +kernel
theorem dX12_exception_115 : decode cX12_exception 115 = .ok (.bipush (-2), 2) := by decide +kernel
theorem dX12_exception_117 : decode cX12_exception 117 = .ok (.ireturn, 1) := by decide +kernel
theorem dX12_gaps_0 : decode cX12_gaps 0 = .ok (.iload_n 1, 1) := by decide +kernel
theorem dX12_gaps_1 : decode cX12_gaps 1 = .ok (.invokestatic 73, 3) := by decide +kernel
theorem dX12_gaps_4 : decode cX12_gaps 4 = .ok (.ifCond .eq 13, 3) := by decide +kernel
theorem dX12_gaps_7 : decode cX12_gaps 7 = .ok (.iload_n 2, 1) := by decide +kernel
theorem dX12_gaps_8 : decode cX12_gaps 8 = .ok (.iconst 0, 1) := by decide +kernel
theorem dX12_gaps_9 : decode cX12_gaps 9 = .ok (.bipush 20, 2) := by decide +kernel
theorem dX12_gaps_11 : decode cX12_gaps 11 = .ok (.invokestatic 68, 3) := by decide +kernel
theorem dX12_gaps_14 : decode cX12_gaps 14 = .ok (.ifCond .ne 6, 3) := by decide +kernel
theorem dX12_gaps_17 : decode cX12_gaps 17 = .ok (.bipush (-2), 2) := by decide +kernel
theorem dX12_gaps_19 : decode cX12_gaps 19 = .ok (.ireturn, 1) := by decide +kernel
theorem dX12_gaps_20 : decode cX12_gaps 20 = .ok (.aload_n 0, 1) := by decide +kernel
theorem dX12_gaps_21 : decode cX12_gaps 21 = .ok (.iload_n 1, 1) := by decide +kernel
theorem dX12_gaps_22 : decode cX12_gaps 22 = .ok (.iconst 0, 1) := by decide +kernel
theorem dX12_gaps_23 : decode cX12_gaps 23 = .ok (.aload_n 0, 1) := by decide +kernel
theorem dX12_gaps_24 : decode cX12_gaps 24 = .ok (.iload_n 1, 1) := by decide +kernel
theorem dX12_gaps_25 : decode cX12_gaps 25 = .ok (.invokevirtual 131, 3) := by decide +kernel
theorem dX12_gaps_28 : decode cX12_gaps 28 = .ok (.iconst 1, 1) := by decide +kernel
theorem dX12_gaps_29 : decode cX12_gaps 29 = .ok (.isub, 1) := by decide +kernel
theorem dX12_gaps_30 : decode cX12_gaps 30 = .ok (.invokevirtual 115, 3) := by decide +kernel
theorem dX12_gaps_33 : decode cX12_gaps 33 = .ok (.aload_n 0, 1) := by decide +kernel
theorem dX12_gaps_34 : decode cX12_gaps 34 = .ok (.getfield 32, 3) := by decide +kernel
theorem dX12_gaps_37 : decode cX12_gaps 37 = .ok (.iload_n 2, 1) := by decide +kernel
theorem dX12_gaps_38 : decode cX12_gaps 38 = .ok (.iaload, 1) := by decide +kernel
theorem dX12_gaps_39 : decode cX12_gaps 39 = .ok (.ireturn, 1) := by decide +kernel
theorem dX12_costBy_0 : decode cX12_costBy 0 = .ok (.iload_n 1, 1) := by decide +kernel
theorem dX12_costBy_1 : decode cX12_costBy 1 = .ok (.invokestatic 73, 3) := by decide +kernel
theorem dX12_costBy_4 : decode cX12_costBy 4 = .ok (.ifCond .eq 22, 3) := by decide +kernel
theorem dX12_costBy_7 : decode cX12_costBy 7 = .ok (.iload_n 2, 1) := by decide +kernel
theorem dX12_costBy_8 : decode cX12_costBy 8 = .ok (.iconst 0, 1) := by decide +kernel
theorem dX12_costBy_9 : decode cX12_costBy 9 = .ok (.bipush 64, 2) := by decide +kernel
theorem dX12_costBy_11 : decode cX12_costBy 11 = .ok (.invokestatic 68, 3) := by decide +kernel
theorem dX12_costBy_14 : decode cX12_costBy 14 = .ok (.ifCond .eq 12, 3) := by decide +kernel
theorem dX12_costBy_17 : decode cX12_costBy 17 = .ok (.aload_n 0, 1) := by decide +kernel
theorem dX12_costBy_18 : decode cX12_costBy 18 = .ok (.iload_n 1, 1) := by decide +kernel
theorem dX12_costBy_19 : decode cX12_costBy 19 = .ok (.iload_n 2, 1) := by decide +kernel
theorem dX12_costBy_20 : decode cX12_costBy 20 = .ok (.invokevirtual 141, 3) := by decide +kernel
theorem dX12_costBy_23 : decode cX12_costBy 23 = .ok (.goto 5, 3) := by decide +kernel
theorem dX12_costBy_26 : decode cX12_costBy 26 = .ok (.bipush (-2), 2) := by decide +kernel
theorem dX12_costBy_28 : decode cX12_costBy 28 = .ok (.ireturn, 1) := by decide +kernel
theorem dX12_part_0 : decode cX12_part 0 = .ok (.iload_n 1, 1) := by decide +kernel
theorem dX12_part_1 : decode cX12_part 1 = .ok (.invokestatic 73, 3) := by decide +kernel
theorem dX12_part_4 : decode cX12_part 4 = .ok (.ifCond .eq 51, 3) := by decide +kernel
theorem dX12_part_7 : decode cX12_part 7 = .ok (.iload_n 2, 1) := by decide +kernel
theorem dX12_part_8 : decode cX12_part 8 = .ok (.iconst 0, 1) := by decide +kernel
theorem dX12_part_9 : decode cX12_part 9 = .ok (.aload_n 0, 1) := by decide +kernel
theorem dX12_part_10 : decode cX12_part 10 = .ok (.iload_n 1, 1) := by decide +kernel
theorem dX12_part_11 : decode cX12_part 11 = .ok (.invokevirtual 131, 3) := by decide +kernel
theorem dX12_part_14 : decode cX12_part 14 = .ok (.iconst 1, 1) := by decide +kernel
theorem dX12_part_15 : decode cX12_part 15 = .ok (.isub, 1) := by decide +kernel
theorem dX12_part_16 : decode cX12_part 16 = .ok (.invokestatic 68, 3) := by decide +kernel
theorem dX12_part_19 : decode cX12_part 19 = .ok (.ifCond .eq 36, 3) := by decide +kernel
theorem dX12_part_22 : decode cX12_part 22 = .ok (.iload_n 3, 1) := by decide +kernel
theorem dX12_part_23 : decode cX12_part 23 = .ok (.iload_n 2, 1) := by decide +kernel
theorem dX12_part_24 : decode cX12_part 24 = .ok (.aload_n 0, 1) := by decide +kernel
theorem dX12_part_25 : decode cX12_part 25 = .ok (.iload_n 1, 1) := by decide +kernel
theorem dX12_part_26 : decode cX12_part 26 = .ok (.invokevirtual 131, 3) := by decide +kernel
theorem dX12_part_29 : decode cX12_part 29 = .ok (.iconst 1, 1) := by decide +kernel
theorem dX12_part_30 : decode cX12_part 30 = .ok (.isub, 1) := by decide +kernel
theorem dX12_part_31 : decode cX12_part 31 = .ok (.invokestatic 68, 3) := by decide +kernel
theorem dX12_part_34 : decode cX12_part 34 = .ok (.ifCond .eq 21, 3) := by decide +kernel
theorem dX12_part_37 : decode cX12_part 37 = .ok (.iload_n 3, 1) := by decide +kernel
theorem dX12_part_38 : decode cX12_part 38 = .ok (.iload_n 2, 1) := by decide +kernel
theorem dX12_part_39 : decode cX12_part 39 = .ok (.isub, 1) := by decide +kernel
theorem dX12_part_40 : decode cX12_part 40 = .ok (.bipush 63, 2) := by decide +kernel
theorem dX12_part_42 : decode cX12_part 42 = .ok (.if_icmp .gt 13, 3) := by decide +kernel
theorem dX12_part_45 : decode cX12_part 45 = .ok (.iload 4, 2) := by decide +kernel
theorem dX12_part_47 : decode cX12_part 47 = .ok (.iconst 0, 1) := by decide +kernel
theorem dX12_part_48 : decode cX12_part 48 = .ok (.iconst 2, 1) := by decide +kernel
theorem dX12_part_49 : decode cX12_part 49 = .ok (.invokestatic 68, 3) := by decide +kernel
theorem dX12_part_52 : decode cX12_part 52 = .ok (.ifCond .ne 6, 3) := by decide +kernel
theorem dX12_part_55 : decode cX12_part 55 = .ok (.bipush (-2), 2) := by decide +kernel
theorem dX12_part_57 : decode cX12_part 57 = .ok (.ireturn, 1) := by decide +kernel
