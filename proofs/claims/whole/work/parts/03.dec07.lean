theorem dX12_common_7 : decode cX12_common 7 = .ok (.iload_n 2, 1) := by decide +kernel
theorem dX12_common_8 : decode cX12_common 8 = .ok (.invokestatic 73, 3) := by decide +kernel
theorem dX12_common_11 : decode cX12_common 11 = .ok (.ifCond .eq 12, 3) := by decide +kernel
theorem dX12_common_14 : decode cX12_common 14 = .ok (.iload_n 3, 1) := by decide +kernel
theorem dX12_common_15 : decode cX12_common 15 = .ok (.iconst 0, 1) := by decide +kernel
theorem dX12_common_16 : decode cX12_common 16 = .ok (.iconst 1, 1) := by decide +kernel
theorem dX12_common_17 : decode cX12_common 17 = .ok (.invokestatic 68, 3) := by decide +kernel
theorem dX12_common_20 : decode cX12_common 20 = .ok (.ifCond .ne 6, 3) := by decide +kernel
theorem dX12_common_23 : decode cX12_common 23 = .ok (.bipush (-2), 2) := by decide +kernel
theorem dX12_common_25 : decode cX12_common 25 = .ok (.ireturn, 1) := by decide +kernel
theorem dX12_common_26 : decode cX12_common 26 = .ok (.aload_n 0, 1) := by decide +kernel
theorem dX12_common_27 : decode cX12_common 27 = .ok (.iload_n 1, 1) := by decide +kernel
theorem dX12_common_28 : decode cX12_common 28 = .ok (.iconst 0, 1) := by decide +kernel
theorem dX12_common_29 : decode cX12_common 29 = .ok (.invokevirtual 267, 3) := by decide +kernel
theorem dX12_common_32 : decode cX12_common 32 = .ok (.aload_n 0, 1) := by decide +kernel
theorem dX12_common_33 : decode cX12_common 33 = .ok (.iload_n 2, 1) := by decide +kernel
theorem dX12_common_34 : decode cX12_common 34 = .ok (.iconst 1, 1) := by decide +kernel
theorem dX12_common_35 : decode cX12_common 35 = .ok (.invokevirtual 267, 3) := by decide +kernel
theorem dX12_common_38 : decode cX12_common 38 = .ok (.aload_n 0, 1) := by decide +kernel
theorem dX12_common_39 : decode cX12_common 39 = .ok (.iconst 0, 1) := by decide +kernel
theorem dX12_common_40 : decode cX12_common 40 = .ok (.putfield 227, 3) := by decide +kernel
theorem dX12_common_43 : decode cX12_common 43 = .ok (.aload_n 0, 1) := by decide +kernel
theorem dX12_common_44 : decode cX12_common 44 = .ok (.iconst 0, 1) := by decide +kernel
theorem dX12_common_45 : decode cX12_common 45 = .ok (.iconst 1, 1) := by decide +kernel
theorem dX12_common_46 : decode cX12_common 46 = .ok (.invokevirtual 273, 3) := by decide +kernel
theorem dX12_common_49 : decode cX12_common 49 = .ok (.iload_n 3, 1) := by decide +kernel
theorem dX12_common_50 : decode cX12_common 50 = .ok (.ifCond .ne 10, 3) := by decide +kernel
theorem dX12_common_53 : decode cX12_common 53 = .ok (.aload_n 0, 1) := by decide +kernel
theorem dX12_common_54 : decode cX12_common 54 = .ok (.getfield 233, 3) := by decide +kernel
theorem dX12_common_57 : decode cX12_common 57 = .ok (.goto 7, 3) := by decide +kernel
theorem dX12_common_60 : decode cX12_common 60 = .ok (.aload_n 0, 1) := by decide +kernel
theorem dX12_common_61 : decode cX12_common 61 = .ok (.getfield 227, 3) := by decide +kernel
theorem dX12_common_64 : decode cX12_common 64 = .ok (.ireturn, 1) := by decide +kernel
theorem dX12_over_0 : decode cX12_over 0 = .ok (.iconst 0, 1) := by decide +kernel
theorem dX12_over_1 : decode cX12_over 1 = .ok (.istore_n 2, 1) := by decide +kernel
theorem dX12_over_2 : decode cX12_over 2 = .ok (.iconst 0, 1) := by decide +kernel
theorem dX12_over_3 : decode cX12_over 3 = .ok (.istore_n 3, 1) := by decide +kernel
theorem dX12_over_4 : decode cX12_over 4 = .ok (.iload_n 3, 1) := by decide +kernel
theorem dX12_over_5 : decode cX12_over 5 = .ok (.bipush 6, 2) := by decide +kernel
theorem dX12_over_7 : decode cX12_over 7 = .ok (.if_icmp .ge 18, 3) := by decide +kernel
theorem dX12_over_10 : decode cX12_over 10 = .ok (.iload_n 2, 1) := by decide +kernel
theorem dX12_over_11 : decode cX12_over 11 = .ok (.aload_n 0, 1) := by decide +kernel
theorem dX12_over_12 : decode cX12_over 12 = .ok (.iload_n 3, 1) := by decide +kernel
theorem dX12_over_13 : decode cX12_over 13 = .ok (.iload_n 1, 1) := by decide +kernel
theorem dX12_over_14 : decode cX12_over 14 = .ok (.invokevirtual 213, 3) := by decide +kernel
theorem dX12_over_17 : decode cX12_over 17 = .ok (.iadd, 1) := by decide +kernel
theorem dX12_over_18 : decode cX12_over 18 = .ok (.istore_n 2, 1) := by decide +kernel
theorem dX12_over_19 : decode cX12_over 19 = .ok (.iinc 3 1, 3) := by decide +kernel
theorem dX12_over_22 : decode cX12_over 22 = .ok (.goto (-18), 3) := by decide +kernel
theorem dX12_over_25 : decode cX12_over 25 = .ok (.iload_n 2, 1) := by decide +kernel
theorem dX12_over_26 : decode cX12_over 26 = .ok (.ireturn, 1) := by decide +kernel
theorem dX12_count_0 : decode cX12_count 0 = .ok (.iload_n 1, 1) := by decide +kernel
theorem dX12_count_1 : decode cX12_count 1 = .ok (.tableswitch 96 0 9 #[55, 55, 55, 61, 66, 71, 76, 81, 86, 91], 55) := by decide +kernel
theorem dX12_count_56 : decode cX12_count 56 = .ok (.aload_n 0, 1) := by decide +kernel
theorem dX12_count_57 : decode cX12_count 57 = .ok (.iload_n 1, 1) := by decide +kernel
theorem dX12_count_58 : decode cX12_count 58 = .ok (.invokevirtual 279, 3) := by decide +kernel
theorem dX12_count_61 : decode cX12_count 61 = .ok (.ireturn, 1) := by decide +kernel
theorem dX12_count_62 : decode cX12_count 62 = .ok (.aload_n 0, 1) := by decide +kernel
theorem dX12_count_63 : decode cX12_count 63 = .ok (.getfield 91, 3) := by decide +kernel
theorem dX12_count_66 : decode cX12_count 66 = .ok (.ireturn, 1) := by decide +kernel
theorem dX12_count_67 : decode cX12_count 67 = .ok (.aload_n 0, 1) := by decide +kernel
theorem dX12_count_68 : decode cX12_count 68 = .ok (.getfield 97, 3) := by decide +kernel
theorem dX12_count_71 : decode cX12_count 71 = .ok (.ireturn, 1) := by decide +kernel
theorem dX12_count_72 : decode cX12_count 72 = .ok (.aload_n 0, 1) := by decide +kernel
theorem dX12_count_73 : decode cX12_count 73 = .ok (.getfield 100, 3) := by decide +kernel
theorem dX12_count_76 : decode cX12_count 76 = .ok (.ireturn, 1) := by decide +kernel
theorem dX12_count_77 : decode cX12_count 77 = .ok (.aload_n 0, 1) := by decide +kernel
theorem dX12_count_78 : decode cX12_count 78 = .ok (.getfield 25, 3) := by decide +kernel
theorem dX12_count_81 : decode cX12_count 81 = .ok (.ireturn, 1) := by decide +kernel
theorem dX12_count_82 : decode cX12_count 82 = .ok (.aload_n 0, 1) := by decide +kernel
theorem dX12_count_83 : decode cX12_count 83 = .ok (.getfield 29, 3) := by decide +kernel
theorem dX12_count_86 : decode cX12_count 86 = .ok (.ireturn, 1) := by decide +kernel
theorem dX12_count_87 : decode cX12_count 87 = .ok (.aload_n 0, 1) := by decide +kernel
theorem dX12_count_88 : decode cX12_count 88 = .ok (.getfield 88, 3) := by decide +kernel
theorem dX12_count_91 : decode cX12_count 91 = .ok (.ireturn, 1) := by decide +kernel
theorem dX12_count_92 : decode cX12_count 92 = .ok (.aload_n 0, 1) := by decide +kernel
theorem dX12_count_93 : decode cX12_count 93 = .ok (.getfield 170, 3) := by decide +kernel
theorem dX12_count_96 : decode cX12_count 96 = .ok (.ireturn, 1) := by decide +kernel
theorem dX12_count_97 : decode cX12_count 97 = .ok (.bipush (-2), 2) := by decide +kernel
theorem dX12_count_99 : decode cX12_count 99 = .ok (.ireturn, 1) := by decide +kernel
theorem dX12_mixes_0 : decode cX12_mixes 0 = .ok (.aload_n 0, 1) := by decide +kernel
theorem dX12_mixes_1 : decode cX12_mixes 1 = .ok (.ldc2_w 282, 3) := by decide +kernel
theorem dX12_mixes_4 : decode cX12_mixes 4 = .ok (.aload_n 0, 1) := by decide +kernel
theorem dX12_mixes_5 : decode cX12_mixes 5 = .ok (.getfield 284, 3) := by decide +kernel
theorem dX12_mixes_8 : decode cX12_mixes 8 = .ok (.lmul, 1) := by decide +kernel
theorem dX12_mixes_9 : decode cX12_mixes 9 = .ok (.lload_n 1, 1) := by decide +kernel
theorem dX12_mixes_10 : decode cX12_mixes 10 = .ok (.ladd, 1) := by decide +kernel
theorem dX12_mixes_11 : decode cX12_mixes 11 = .ok (.putfield 284, 3) := by decide +kernel
theorem dX12_mixes_14 : decode cX12_mixes 14 = .ok (.return_, 1) := by decide +kernel
theorem dX12_mixesBlock_0 : decode cX12_mixesBlock 0 = .ok (.iconst 0, 1) := by decide +kernel
theorem dX12_mixesBlock_1 : decode cX12_mixesBlock 1 = .ok (.istore_n 3, 1) := by decide +kernel
theorem dX12_mixesBlock_2 : decode cX12_mixesBlock 2 = .ok (.iload_n 3, 1) := by decide +kernel
theorem dX12_mixesBlock_3 : decode cX12_mixesBlock 3 = .ok (.bipush 7, 2) := by decide +kernel
theorem dX12_mixesBlock_5 : decode cX12_mixesBlock 5 = .ok (.if_icmp .ge 21, 3) := by decide +kernel
theorem dX12_mixesBlock_8 : decode cX12_mixesBlock 8 = .ok (.aload_n 0, 1) := by decide +kernel
theorem dX12_mixesBlock_9 : decode cX12_mixesBlock 9 = .ok (.aload_n 0, 1) := by decide +kernel
theorem dX12_mixesBlock_10 : decode cX12_mixesBlock 10 = .ok (.iload_n 1, 1) := by decide +kernel
theorem dX12_mixesBlock_11 : decode cX12_mixesBlock 11 = .ok (.iload_n 2, 1) := by decide +kernel
theorem dX12_mixesBlock_12 : decode cX12_mixesBlock 12 = .ok (.iload_n 3, 1) := by decide +kernel
theorem dX12_mixesBlock_13 : decode cX12_mixesBlock 13 = .ok (.invokevirtual 288, 3) := by decide +kernel
theorem dX12_mixesBlock_16 : decode cX12_mixesBlock 16 = .ok (.i2l, 1) := by decide +kernel
theorem dX12_mixesBlock_17 : decode cX12_mixesBlock 17 = .ok (.invokevirtual 291, 3) := by decide +kernel
theorem dX12_mixesBlock_20 : decode cX12_mixesBlock 20 = .ok (.iinc 3 1, 3) := by decide +kernel
theorem dX12_mixesBlock_23 : decode cX12_mixesBlock 23 = .ok (.goto (-21), 3) := by decide +kernel
theorem dX12_mixesBlock_26 : decode cX12_mixesBlock 26 = .ok (.aload_n 0, 1) := by decide +kernel
theorem dX12_mixesBlock_27 : decode cX12_mixesBlock 27 = .ok (.iload_n 1, 1) := by decide +kernel
theorem dX12_mixesBlock_28 : decode cX12_mixesBlock 28 = .ok (.iload_n 2, 1) := by decide +kernel
theorem dX12_mixesBlock_29 : decode cX12_mixesBlock 29 = .ok (.invokevirtual 219, 3) := by decide +kernel
theorem dX12_mixesBlock_32 : decode cX12_mixesBlock 32 = .ok (.istore_n 3, 1) := by decide +kernel
theorem dX12_mixesBlock_33 : decode cX12_mixesBlock 33 = .ok (.iconst 0, 1) := by decide +kernel
theorem dX12_mixesBlock_34 : decode cX12_mixesBlock 34 = .ok (.istore 4, 2) := by decide +kernel
theorem dX12_mixesBlock_36 : decode cX12_mixesBlock 36 = .ok (.iload 4, 2) := by decide +kernel
theorem dX12_mixesBlock_38 : decode cX12_mixesBlock 38 = .ok (.iload_n 3, 1) := by decide +kernel
theorem dX12_mixesBlock_39 : decode cX12_mixesBlock 39 = .ok (.if_icmp .ge 21, 3) := by decide +kernel
theorem dX12_mixesBlock_42 : decode cX12_mixesBlock 42 = .ok (.aload_n 0, 1) := by decide +kernel
theorem dX12_mixesBlock_43 : decode cX12_mixesBlock 43 = .ok (.aload_n 0, 1) := by decide +kernel
theorem dX12_mixesBlock_44 : decode cX12_mixesBlock 44 = .ok (.iload_n 1, 1) := by decide +kernel
theorem dX12_mixesBlock_45 : decode cX12_mixesBlock 45 = .ok (.iload_n 2, 1) := by decide +kernel
theorem dX12_mixesBlock_46 : decode cX12_mixesBlock 46 = .ok (.iload 4, 2) := by decide +kernel
theorem dX12_mixesBlock_48 : decode cX12_mixesBlock 48 = .ok (.invokevirtual 295, 3) := by decide +kernel
theorem dX12_mixesBlock_51 : decode cX12_mixesBlock 51 = .ok (.invokevirtual 291, 3) := by decide +kernel
theorem dX12_mixesBlock_54 : decode cX12_mixesBlock 54 = .ok (.iinc 4 1, 3) := by decide +kernel
theorem dX12_mixesBlock_57 : decode cX12_mixesBlock 57 = .ok (.goto (-21), 3) := by decide +kernel
theorem dX12_mixesBlock_60 : decode cX12_mixesBlock 60 = .ok (.aload_n 0, 1) := by decide +kernel
theorem dX12_mixesBlock_61 : decode cX12_mixesBlock 61 = .ok (.iload_n 1, 1) := by decide +kernel
theorem dX12_mixesBlock_62 : decode cX12_mixesBlock 62 = .ok (.iload_n 2, 1) := by decide +kernel
theorem dX12_mixesBlock_63 : decode cX12_mixesBlock 63 = .ok (.invokevirtual 204, 3) := by decide +kernel
theorem dX12_mixesBlock_66 : decode cX12_mixesBlock 66 = .ok (.istore 4, 2) := by decide +kernel
theorem dX12_mixesBlock_68 : decode cX12_mixesBlock 68 = .ok (.iconst 0, 1) := by decide +kernel
theorem dX12_mixesBlock_69 : decode cX12_mixesBlock 69 = .ok (.istore 5, 2) := by decide +kernel
theorem dX12_mixesBlock_71 : decode cX12_mixesBlock 71 = .ok (.iload 5, 2) := by decide +kernel
theorem dX12_mixesBlock_73 : decode cX12_mixesBlock 73 = .ok (.iload 4, 2) := by decide +kernel
theorem dX12_mixesBlock_75 : decode cX12_mixesBlock 75 = .ok (.if_icmp .ge 37, 3) := by decide +kernel
theorem dX12_mixesBlock_78 : decode cX12_mixesBlock 78 = .ok (.aload_n 0, 1) := by decide +kernel
theorem dX12_mixesBlock_79 : decode cX12_mixesBlock 79 = .ok (.aload_n 0, 1) := by decide +kernel
theorem dX12_mixesBlock_80 : decode cX12_mixesBlock 80 = .ok (.iload_n 1, 1) := by decide +kernel
theorem dX12_mixesBlock_81 : decode cX12_mixesBlock 81 = .ok (.iload_n 2, 1) := by decide +kernel
theorem dX12_mixesBlock_82 : decode cX12_mixesBlock 82 = .ok (.iload 5, 2) := by decide +kernel
theorem dX12_mixesBlock_84 : decode cX12_mixesBlock 84 = .ok (.iconst 0, 1) := by decide +kernel
theorem dX12_mixesBlock_85 : decode cX12_mixesBlock 85 = .ok (.invokevirtual 299, 3) := by decide +kernel
theorem dX12_mixesBlock_88 : decode cX12_mixesBlock 88 = .ok (.i2l, 1) := by decide +kernel
theorem dX12_mixesBlock_89 : decode cX12_mixesBlock 89 = .ok (.invokevirtual 291, 3) := by decide +kernel
theorem dX12_mixesBlock_92 : decode cX12_mixesBlock 92 = .ok (.aload_n 0, 1) := by decide +kernel
theorem dX12_mixesBlock_93 : decode cX12_mixesBlock 93 = .ok (.aload_n 0, 1) := by decide +kernel
theorem dX12_mixesBlock_94 : decode cX12_mixesBlock 94 = .ok (.iload_n 1, 1) := by decide +kernel
theorem dX12_mixesBlock_95 : decode cX12_mixesBlock 95 = .ok (.iload_n 2, 1) := by decide +kernel
theorem dX12_mixesBlock_96 : decode cX12_mixesBlock 96 = .ok (.iload 5, 2) := by decide +kernel
theorem dX12_mixesBlock_98 : decode cX12_mixesBlock 98 = .ok (.iconst 1, 1) := by decide +kernel
theorem dX12_mixesBlock_99 : decode cX12_mixesBlock 99 = .ok (.invokevirtual 299, 3) := by decide +kernel
theorem dX12_mixesBlock_102 : decode cX12_mixesBlock 102 = .ok (.i2l, 1) := by decide +kernel
theorem dX12_mixesBlock_103 : decode cX12_mixesBlock 103 = .ok (.invokevirtual 291, 3) := by decide +kernel
theorem dX12_mixesBlock_106 : decode cX12_mixesBlock 106 = .ok (.iinc 5 1, 3) := by decide +kernel
theorem dX12_mixesBlock_109 : decode cX12_mixesBlock 109 = .ok (.goto (-38), 3) := by decide +kernel
theorem dX12_mixesBlock_112 : decode cX12_mixesBlock 112 = .ok (.aload_n 0, 1) := by decide +kernel
theorem dX12_mixesBlock_113 : decode cX12_mixesBlock 113 = .ok (.aload_n 0, 1) := by decide +kernel
theorem dX12_mixesBlock_114 : decode cX12_mixesBlock 114 = .ok (.iload_n 1, 1) := by decide +kernel
theorem dX12_mixesBlock_115 : decode cX12_mixesBlock 115 = .ok (.iload_n 2, 1) := by decide +kernel
theorem dX12_mixesBlock_116 : decode cX12_mixesBlock 116 = .ok (.invokevirtual 303, 3) := by decide +kernel
theorem dX12_mixesBlock_119 : decode cX12_mixesBlock 119 = .ok (.i2l, 1) := by decide +kernel
theorem dX12_mixesBlock_120 : decode cX12_mixesBlock 120 = .ok (.invokevirtual 291, 3) := by decide +kernel
theorem dX12_mixesBlock_123 : decode cX12_mixesBlock 123 = .ok (.return_, 1) := by decide +kernel
theorem dX12_digest_0 : decode cX12_digest 0 = .ok (.aload_n 0, 1) := by decide +kernel
theorem dX12_digest_1 : decode cX12_digest 1 = .ok (.ldc2_w 306, 3) := by decide +kernel
theorem dX12_digest_4 : decode cX12_digest 4 = .ok (.putfield 284, 3) := by decide +kernel
theorem dX12_digest_7 : decode cX12_digest 7 = .ok (.iconst 0, 1) := by decide +kernel
theorem dX12_digest_8 : decode cX12_digest 8 = .ok (.istore_n 1, 1) := by decide +kernel
theorem dX12_digest_9 : decode cX12_digest 9 = .ok (.iload_n 1, 1) := by decide +kernel
theorem dX12_digest_10 : decode cX12_digest 10 = .ok (.bipush 10, 2) := by decide +kernel
theorem dX12_digest_12 : decode cX12_digest 12 = .ok (.if_icmp .ge 19, 3) := by decide +kernel
theorem dX12_digest_15 : decode cX12_digest 15 = .ok (.aload_n 0, 1) := by decide +kernel
theorem dX12_digest_16 : decode cX12_digest 16 = .ok (.aload_n 0, 1) := by decide +kernel
theorem dX12_digest_17 : decode cX12_digest 17 = .ok (.iload_n 1, 1) := by decide +kernel
theorem dX12_digest_18 : decode cX12_digest 18 = .ok (.invokevirtual 308, 3) := by decide +kernel
theorem dX12_digest_21 : decode cX12_digest 21 = .ok (.i2l, 1) := by decide +kernel
theorem dX12_digest_22 : decode cX12_digest 22 = .ok (.invokevirtual 291, 3) := by decide +kernel
theorem dX12_digest_25 : decode cX12_digest 25 = .ok (.iinc 1 1, 3) := by decide +kernel
theorem dX12_digest_28 : decode cX12_digest 28 = .ok (.goto (-19), 3) := by decide +kernel
theorem dX12_digest_31 : decode cX12_digest 31 = .ok (.iconst 0, 1) := by decide +kernel
theorem dX12_digest_32 : decode cX12_digest 32 = .ok (.istore_n 1, 1) := by decide +kernel
theorem dX12_digest_33 : decode cX12_digest 33 = .ok (.iload_n 1, 1) := by decide +kernel
theorem dX12_digest_34 : decode cX12_digest 34 = .ok (.bipush 6, 2) := by decide +kernel
theorem dX12_digest_36 : decode cX12_digest 36 = .ok (.if_icmp .ge 57, 3) := by decide +kernel
theorem dX12_digest_39 : decode cX12_digest 39 = .ok (.iconst 0, 1) := by decide +kernel
theorem dX12_digest_40 : decode cX12_digest 40 = .ok (.istore_n 2, 1) := by decide +kernel
theorem dX12_digest_41 : decode cX12_digest 41 = .ok (.iload_n 2, 1) := by decide +kernel
theorem dX12_digest_42 : decode cX12_digest 42 = .ok (.bipush 6, 2) := by decide +kernel
theorem dX12_digest_44 : decode cX12_digest 44 = .ok (.if_icmp .ge 20, 3) := by decide +kernel
theorem dX12_digest_47 : decode cX12_digest 47 = .ok (.aload_n 0, 1) := by decide +kernel
theorem dX12_digest_48 : decode cX12_digest 48 = .ok (.aload_n 0, 1) := by decide +kernel
theorem dX12_digest_49 : decode cX12_digest 49 = .ok (.iload_n 1, 1) := by decide +kernel
theorem dX12_digest_50 : decode cX12_digest 50 = .ok (.iload_n 2, 1) := by decide +kernel
theorem dX12_digest_51 : decode cX12_digest 51 = .ok (.invokevirtual 213, 3) := by decide +kernel
theorem dX12_digest_54 : decode cX12_digest 54 = .ok (.i2l, 1) := by decide +kernel
theorem dX12_digest_55 : decode cX12_digest 55 = .ok (.invokevirtual 291, 3) := by decide +kernel
theorem dX12_digest_58 : decode cX12_digest 58 = .ok (.iinc 2 1, 3) := by decide +kernel
theorem dX12_digest_61 : decode cX12_digest 61 = .ok (.goto (-20), 3) := by decide +kernel
theorem dX12_digest_64 : decode cX12_digest 64 = .ok (.iconst 0, 1) := by decide +kernel
theorem dX12_digest_65 : decode cX12_digest 65 = .ok (.istore_n 2, 1) := by decide +kernel
theorem dX12_digest_66 : decode cX12_digest 66 = .ok (.iload_n 2, 1) := by decide +kernel
theorem dX12_digest_67 : decode cX12_digest 67 = .ok (.aload_n 0, 1) := by decide +kernel
theorem dX12_digest_68 : decode cX12_digest 68 = .ok (.iload_n 1, 1) := by decide +kernel
theorem dX12_digest_69 : decode cX12_digest 69 = .ok (.invokevirtual 77, 3) := by decide +kernel
theorem dX12_digest_72 : decode cX12_digest 72 = .ok (.if_icmp .ge 15, 3) := by decide +kernel
theorem dX12_digest_75 : decode cX12_digest 75 = .ok (.aload_n 0, 1) := by decide +kernel
theorem dX12_digest_76 : decode cX12_digest 76 = .ok (.iload_n 1, 1) := by decide +kernel
theorem dX12_digest_77 : decode cX12_digest 77 = .ok (.iload_n 2, 1) := by decide +kernel
theorem dX12_digest_78 : decode cX12_digest 78 = .ok (.invokevirtual 311, 3) := by decide +kernel
theorem dX12_digest_81 : decode cX12_digest 81 = .ok (.iinc 2 1, 3) := by decide +kernel
theorem dX12_digest_84 : decode cX12_digest 84 = .ok (.goto (-18), 3) := by decide +kernel
theorem dX12_digest_87 : decode cX12_digest 87 = .ok (.iinc 1 1, 3) := by decide +kernel
theorem dX12_digest_90 : decode cX12_digest 90 = .ok (.goto (-57), 3) := by decide +kernel
theorem dX12_digest_93 : decode cX12_digest 93 = .ok (.iconst 0, 1) := by decide +kernel
theorem dX12_digest_94 : decode cX12_digest 94 = .ok (.istore_n 1, 1) := by decide +kernel
theorem dX12_digest_95 : decode cX12_digest 95 = .ok (.iload_n 1, 1) := by decide +kernel
theorem dX12_digest_96 : decode cX12_digest 96 = .ok (.bipush 6, 2) := by decide +kernel
theorem dX12_digest_98 : decode cX12_digest 98 = .ok (.if_icmp .ge 37, 3) := by decide +kernel
theorem dX12_digest_101 : decode cX12_digest 101 = .ok (.iconst 0, 1) := by decide +kernel
theorem dX12_digest_102 : decode cX12_digest 102 = .ok (.istore_n 2, 1) := by decide +kernel
theorem dX12_digest_103 : decode cX12_digest 103 = .ok (.iload_n 2, 1) := by decide +kernel
theorem dX12_digest_104 : decode cX12_digest 104 = .ok (.aload_n 0, 1) := by decide +kernel
theorem dX12_digest_105 : decode cX12_digest 105 = .ok (.iload_n 1, 1) := by decide +kernel
theorem dX12_digest_106 : decode cX12_digest 106 = .ok (.invokevirtual 131, 3) := by decide +kernel
theorem dX12_digest_109 : decode cX12_digest 109 = .ok (.if_icmp .ge 20, 3) := by decide +kernel
theorem dX12_digest_112 : decode cX12_digest 112 = .ok (.aload_n 0, 1) := by decide +kernel
theorem dX12_digest_113 : decode cX12_digest 113 = .ok (.aload_n 0, 1) := by decide +kernel
theorem dX12_digest_114 : decode cX12_digest 114 = .ok (.iload_n 1, 1) := by decide +kernel
theorem dX12_digest_115 : decode cX12_digest 115 = .ok (.iload_n 2, 1) := by decide +kernel
theorem dX12_digest_116 : decode cX12_digest 116 = .ok (.invokevirtual 103, 3) := by decide +kernel
theorem dX12_digest_119 : decode cX12_digest 119 = .ok (.i2l, 1) := by decide +kernel
theorem dX12_digest_120 : decode cX12_digest 120 = .ok (.invokevirtual 291, 3) := by decide +kernel
theorem dX12_digest_123 : decode cX12_digest 123 = .ok (.iinc 2 1, 3) := by decide +kernel
theorem dX12_digest_126 : decode cX12_digest 126 = .ok (.goto (-23), 3) := by decide +kernel
theorem dX12_digest_129 : decode cX12_digest 129 = .ok (.iinc 1 1, 3) := by decide +kernel
theorem dX12_digest_132 : decode cX12_digest 132 = .ok (.goto (-37), 3) := by decide +kernel
theorem dX12_digest_135 : decode cX12_digest 135 = .ok (.iconst 0, 1) := by decide +kernel
theorem dX12_digest_136 : decode cX12_digest 136 = .ok (.istore_n 1, 1) := by decide +kernel
theorem dX12_digest_137 : decode cX12_digest 137 = .ok (.iload_n 1, 1) := by decide +kernel
theorem dX12_digest_138 : decode cX12_digest 138 = .ok (.aload_n 0, 1) := by decide +kernel
theorem dX12_digest_139 : decode cX12_digest 139 = .ok (.getfield 25, 3) := by decide +kernel
theorem dX12_digest_142 : decode cX12_digest 142 = .ok (.if_icmp .ge 20, 3) := by decide +kernel
theorem dX12_digest_145 : decode cX12_digest 145 = .ok (.aload_n 0, 1) := by decide +kernel
theorem dX12_digest_146 : decode cX12_digest 146 = .ok (.aload_n 0, 1) := by decide +kernel
theorem dX12_digest_147 : decode cX12_digest 147 = .ok (.getfield 22, 3) := by decide +kernel
theorem dX12_digest_150 : decode cX12_digest 150 = .ok (.iload_n 1, 1) := by decide +kernel
theorem dX12_digest_151 : decode cX12_digest 151 = .ok (.iaload, 1) := by decide +kernel
theorem dX12_digest_152 : decode cX12_digest 152 = .ok (.i2l, 1) := by decide +kernel
theorem dX12_digest_153 : decode cX12_digest 153 = .ok (.invokevirtual 291, 3) := by decide +kernel
theorem dX12_digest_156 : decode cX12_digest 156 = .ok (.iinc 1 1, 3) := by decide +kernel
theorem dX12_digest_159 : decode cX12_digest 159 = .ok (.goto (-22), 3) := by decide +kernel
theorem dX12_digest_162 : decode cX12_digest 162 = .ok (.iconst 0, 1) := by decide +kernel
theorem dX12_digest_163 : decode cX12_digest 163 = .ok (.istore_n 1, 1) := by decide +kernel
theorem dX12_digest_164 : decode cX12_digest 164 = .ok (.iload_n 1, 1) := by decide +kernel
theorem dX12_digest_165 : decode cX12_digest 165 = .ok (.aload_n 0, 1) := by decide +kernel
theorem dX12_digest_166 : decode cX12_digest 166 = .ok (.getfield 170, 3) := by decide +kernel
theorem dX12_digest_169 : decode cX12_digest 169 = .ok (.if_icmp .ge 20, 3) := by decide +kernel
theorem dX12_digest_172 : decode cX12_digest 172 = .ok (.aload_n 0, 1) := by decide +kernel
theorem dX12_digest_173 : decode cX12_digest 173 = .ok (.aload_n 0, 1) := by decide +kernel
theorem dX12_digest_174 : decode cX12_digest 174 = .ok (.getfield 47, 3) := by decide +kernel
theorem dX12_digest_177 : decode cX12_digest 177 = .ok (.iload_n 1, 1) := by decide +kernel
theorem dX12_digest_178 : decode cX12_digest 178 = .ok (.iaload, 1) := by decide +kernel
theorem dX12_digest_179 : decode cX12_digest 179 = .ok (.i2l, 1) := by decide +kernel
theorem dX12_digest_180 : decode cX12_digest 180 = .ok (.invokevirtual 291, 3) := by decide +kernel
theorem dX12_digest_183 : decode cX12_digest 183 = .ok (.iinc 1 1, 3) := by decide +kernel
theorem dX12_digest_186 : decode cX12_digest 186 = .ok (.goto (-22), 3) := by decide +kernel
theorem dX12_digest_189 : decode cX12_digest 189 = .ok (.aload_n 0, 1) := by decide +kernel
theorem dX12_digest_190 : decode cX12_digest 190 = .ok (.getfield 284, 3) := by decide +kernel
theorem dX12_digest_193 : decode cX12_digest 193 = .ok (.lreturn, 1) := by decide +kernel
theorem dJ9_max_7cf53_0 : decode cJ9_max_7cf53 0 = .ok (.iload_n 0, 1) := by decide +kernel
theorem dJ9_max_7cf53_1 : decode cJ9_max_7cf53 1 = .ok (.iload_n 1, 1) := by decide +kernel
theorem dJ9_max_7cf53_2 : decode cJ9_max_7cf53 2 = .ok (.if_icmp .lt 7, 3) := by decide +kernel
theorem dJ9_max_7cf53_5 : decode cJ9_max_7cf53 5 = .ok (.iload_n 0, 1) := by decide +kernel
theorem dJ9_max_7cf53_6 : decode cJ9_max_7cf53 6 = .ok (.goto 4, 3) := by decide +kernel
theorem dJ9_max_7cf53_9 : decode cJ9_max_7cf53 9 = .ok (.iload_n 1, 1) := by decide +kernel
theorem dJ9_max_7cf53_10 : decode cJ9_max_7cf53 10 = .ok (.ireturn, 1) := by decide +kernel
theorem dJ9_min_7cf53_0 : decode cJ9_min_7cf53 0 = .ok (.iload_n 0, 1) := by decide +kernel
theorem dJ9_min_7cf53_1 : decode cJ9_min_7cf53 1 = .ok (.iload_n 1, 1) := by decide +kernel
theorem dJ9_min_7cf53_2 : decode cJ9_min_7cf53 2 = .ok (.if_icmp .gt 7, 3) := by decide +kernel
theorem dJ9_min_7cf53_5 : decode cJ9_min_7cf53 5 = .ok (.iload_n 0, 1) := by decide +kernel
theorem dJ9_min_7cf53_6 : decode cJ9_min_7cf53 6 = .ok (.goto 4, 3) := by decide +kernel
theorem dJ9_min_7cf53_9 : decode cJ9_min_7cf53 9 = .ok (.iload_n 1, 1) := by decide +kernel
theorem dJ9_min_7cf53_10 : decode cJ9_min_7cf53 10 = .ok (.ireturn, 1) := by decide +kernel
theorem dJ7_fill_53178_0 : decode cJ7_fill_53178 0 = .ok (.iconst 0, 1) := by decide +kernel
theorem dJ7_fill_53178_1 : decode cJ7_fill_53178 1 = .ok (.istore_n 2, 1) := by decide +kernel
theorem dJ7_fill_53178_2 : decode cJ7_fill_53178 2 = .ok (.aload_n 0, 1) := by decide +kernel
theorem dJ7_fill_53178_3 : decode cJ7_fill_53178 3 = .ok (.arraylength, 1) := by decide +kernel
theorem dJ7_fill_53178_4 : decode cJ7_fill_53178 4 = .ok (.istore_n 3, 1) := by decide +kernel
theorem dJ7_fill_53178_5 : decode cJ7_fill_53178 5 = .ok (.iload_n 2, 1) := by decide +kernel
theorem dJ7_fill_53178_6 : decode cJ7_fill_53178 6 = .ok (.iload_n 3, 1) := by decide +kernel
theorem dJ7_fill_53178_7 : decode cJ7_fill_53178 7 = .ok (.if_icmp .ge 13, 3) := by decide +kernel
theorem dJ7_fill_53178_10 : decode cJ7_fill_53178 10 = .ok (.aload_n 0, 1) := by decide +kernel
theorem dJ7_fill_53178_11 : decode cJ7_fill_53178 11 = .ok (.iload_n 2, 1) := by decide +kernel
theorem dJ7_fill_53178_12 : decode cJ7_fill_53178 12 = .ok (.iload_n 1, 1) := by decide +kernel
theorem dJ7_fill_53178_13 : decode cJ7_fill_53178 13 = .ok (.iastore, 1) := by decide +kernel
theorem dJ7_fill_53178_14 : decode cJ7_fill_53178 14 = .ok (.iinc 2 1, 3) := by decide +kernel
theorem dJ7_fill_53178_17 : decode cJ7_fill_53178 17 = .ok (.goto (-12), 3) := by decide +kernel
theorem dJ7_fill_53178_20 : decode cJ7_fill_53178 20 = .ok (.return_, 1) := by decide +kernel
theorem dL_law_0 : decode cL_law 0 = .ok (.new 7, 3) := by decide +kernel
theorem dL_law_3 : decode cL_law 3 = .ok (.dup, 1) := by decide +kernel
theorem dL_law_4 : decode cL_law 4 = .ok (.invokespecial 9, 3) := by decide +kernel
theorem dL_law_7 : decode cL_law 7 = .ok (.astore_n 1, 1) := by decide +kernel
theorem dL_law_8 : decode cL_law 8 = .ok (.new 10, 3) := by decide +kernel
theorem dL_law_11 : decode cL_law 11 = .ok (.dup, 1) := by decide +kernel
theorem dL_law_12 : decode cL_law 12 = .ok (.invokespecial 12, 3) := by decide +kernel
theorem dL_law_15 : decode cL_law 15 = .ok (.astore_n 2, 1) := by decide +kernel
theorem dL_law_16 : decode cL_law 16 = .ok (.iconst 0, 1) := by decide +kernel
theorem dL_law_17 : decode cL_law 17 = .ok (.istore_n 3, 1) := by decide +kernel
theorem dL_law_18 : decode cL_law 18 = .ok (.iload_n 3, 1) := by decide +kernel
theorem dL_law_19 : decode cL_law 19 = .ok (.aload_n 0, 1) := by decide +kernel
theorem dL_law_20 : decode cL_law 20 = .ok (.arraylength, 1) := by decide +kernel
theorem dL_law_21 : decode cL_law 21 = .ok (.iconst 5, 1) := by decide +kernel
theorem dL_law_22 : decode cL_law 22 = .ok (.isub, 1) := by decide +kernel
theorem dL_law_23 : decode cL_law 23 = .ok (.if_icmp .gt 861, 3) := by decide +kernel
theorem dL_law_26 : decode cL_law 26 = .ok (.aload_n 0, 1) := by decide +kernel
theorem dL_law_27 : decode cL_law 27 = .ok (.iload_n 3, 1) := by decide +kernel
theorem dL_law_28 : decode cL_law 28 = .ok (.iaload, 1) := by decide +kernel
theorem dL_law_29 : decode cL_law 29 = .ok (.bipush 31, 2) := by decide +kernel
theorem dL_law_31 : decode cL_law 31 = .ok (.iand, 1) := by decide +kernel
theorem dL_law_32 : decode cL_law 32 = .ok (.tableswitch 846 0 23 #[112, 145, 178, 211, 234, 257, 280, 293, 316, 329, 362, 405, 449, 502, 535, 568, 621, 654, 697, 730, 743, 766, 809, 832], 112) := by decide +kernel
theorem dL_law_144 : decode cL_law 144 = .ok (.aload_n 1, 1) := by decide +kernel
theorem dL_law_145 : decode cL_law 145 = .ok (.aload_n 0, 1) := by decide +kernel
theorem dL_law_146 : decode cL_law 146 = .ok (.iload_n 3, 1) := by decide +kernel
theorem dL_law_147 : decode cL_law 147 = .ok (.iconst 1, 1) := by decide +kernel
theorem dL_law_148 : decode cL_law 148 = .ok (.iadd, 1) := by decide +kernel
theorem dL_law_149 : decode cL_law 149 = .ok (.iaload, 1) := by decide +kernel
theorem dL_law_150 : decode cL_law 150 = .ok (.aload_n 0, 1) := by decide +kernel
theorem dL_law_151 : decode cL_law 151 = .ok (.iload_n 3, 1) := by decide +kernel
theorem dL_law_152 : decode cL_law 152 = .ok (.iconst 2, 1) := by decide +kernel
theorem dL_law_153 : decode cL_law 153 = .ok (.iadd, 1) := by decide +kernel
theorem dL_law_154 : decode cL_law 154 = .ok (.iaload, 1) := by decide +kernel
theorem dL_law_155 : decode cL_law 155 = .ok (.invokevirtual 13, 3) := by decide +kernel
theorem dL_law_158 : decode cL_law 158 = .ok (.aload_n 2, 1) := by decide +kernel
theorem dL_law_159 : decode cL_law 159 = .ok (.aload_n 0, 1) := by decide +kernel
theorem dL_law_160 : decode cL_law 160 = .ok (.iload_n 3, 1) := by decide +kernel
theorem dL_law_161 : decode cL_law 161 = .ok (.iconst 1, 1) := by decide +kernel
theorem dL_law_162 : decode cL_law 162 = .ok (.iadd, 1) := by decide +kernel
theorem dL_law_163 : decode cL_law 163 = .ok (.iaload, 1) := by decide +kernel
theorem dL_law_164 : decode cL_law 164 = .ok (.aload_n 0, 1) := by decide +kernel
theorem dL_law_165 : decode cL_law 165 = .ok (.iload_n 3, 1) := by decide +kernel
theorem dL_law_166 : decode cL_law 166 = .ok (.iconst 2, 1) := by decide +kernel
theorem dL_law_167 : decode cL_law 167 = .ok (.iadd, 1) := by decide +kernel
theorem dL_law_168 : decode cL_law 168 = .ok (.iaload, 1) := by decide +kernel
theorem dL_law_169 : decode cL_law 169 = .ok (.invokevirtual 17, 3) := by decide +kernel
theorem dL_law_172 : decode cL_law 172 = .ok (.if_icmp .eq 706, 3) := by decide +kernel
theorem dL_law_175 : decode cL_law 175 = .ok (.iconst 0, 1) := by decide +kernel
theorem dL_law_176 : decode cL_law 176 = .ok (.ireturn, 1) := by decide +kernel
theorem dL_law_177 : decode cL_law 177 = .ok (.aload_n 1, 1) := by decide +kernel
theorem dL_law_178 : decode cL_law 178 = .ok (.aload_n 0, 1) := by decide +kernel
theorem dL_law_179 : decode cL_law 179 = .ok (.iload_n 3, 1) := by decide +kernel
theorem dL_law_180 : decode cL_law 180 = .ok (.iconst 1, 1) := by decide +kernel
theorem dL_law_181 : decode cL_law 181 = .ok (.iadd, 1) := by decide +kernel
theorem dL_law_182 : decode cL_law 182 = .ok (.iaload, 1) := by decide +kernel
theorem dL_law_183 : decode cL_law 183 = .ok (.aload_n 0, 1) := by decide +kernel
theorem dL_law_184 : decode cL_law 184 = .ok (.iload_n 3, 1) := by decide +kernel
theorem dL_law_185 : decode cL_law 185 = .ok (.iconst 2, 1) := by decide +kernel
theorem dL_law_186 : decode cL_law 186 = .ok (.iadd, 1) := by decide +kernel
theorem dL_law_187 : decode cL_law 187 = .ok (.iaload, 1) := by decide +kernel
theorem dL_law_188 : decode cL_law 188 = .ok (.invokevirtual 18, 3) := by decide +kernel
theorem dL_law_191 : decode cL_law 191 = .ok (.aload_n 2, 1) := by decide +kernel
theorem dL_law_192 : decode cL_law 192 = .ok (.aload_n 0, 1) := by decide +kernel
theorem dL_law_193 : decode cL_law 193 = .ok (.iload_n 3, 1) := by decide +kernel
theorem dL_law_194 : decode cL_law 194 = .ok (.iconst 1, 1) := by decide +kernel
theorem dL_law_195 : decode cL_law 195 = .ok (.iadd, 1) := by decide +kernel
theorem dL_law_196 : decode cL_law 196 = .ok (.iaload, 1) := by decide +kernel
theorem dL_law_197 : decode cL_law 197 = .ok (.aload_n 0, 1) := by decide +kernel
theorem dL_law_198 : decode cL_law 198 = .ok (.iload_n 3, 1) := by decide +kernel
theorem dL_law_199 : decode cL_law 199 = .ok (.iconst 2, 1) := by decide +kernel
theorem dL_law_200 : decode cL_law 200 = .ok (.iadd, 1) := by decide +kernel
theorem dL_law_201 : decode cL_law 201 = .ok (.iaload, 1) := by decide +kernel
theorem dL_law_202 : decode cL_law 202 = .ok (.invokevirtual 21, 3) := by decide +kernel
theorem dL_law_205 : decode cL_law 205 = .ok (.if_icmp .eq 673, 3) := by decide +kernel
theorem dL_law_208 : decode cL_law 208 = .ok (.iconst 0, 1) := by decide +kernel
theorem dL_law_209 : decode cL_law 209 = .ok (.ireturn, 1) := by decide +kernel
theorem dL_law_210 : decode cL_law 210 = .ok (.aload_n 1, 1) := by decide +kernel
theorem dL_law_211 : decode cL_law 211 = .ok (.aload_n 0, 1) := by decide +kernel
theorem dL_law_212 : decode cL_law 212 = .ok (.iload_n 3, 1) := by decide +kernel
theorem dL_law_213 : decode cL_law 213 = .ok (.iconst 1, 1) := by decide +kernel
theorem dL_law_214 : decode cL_law 214 = .ok (.iadd, 1) := by decide +kernel
theorem dL_law_215 : decode cL_law 215 = .ok (.iaload, 1) := by decide +kernel
theorem dL_law_216 : decode cL_law 216 = .ok (.aload_n 0, 1) := by decide +kernel
theorem dL_law_217 : decode cL_law 217 = .ok (.iload_n 3, 1) := by decide +kernel
theorem dL_law_218 : decode cL_law 218 = .ok (.iconst 2, 1) := by decide +kernel
theorem dL_law_219 : decode cL_law 219 = .ok (.iadd, 1) := by decide +kernel
theorem dL_law_220 : decode cL_law 220 = .ok (.iaload, 1) := by decide +kernel
theorem dL_law_221 : decode cL_law 221 = .ok (.invokevirtual 22, 3) := by decide +kernel
theorem dL_law_224 : decode cL_law 224 = .ok (.aload_n 2, 1) := by decide +kernel
theorem dL_law_225 : decode cL_law 225 = .ok (.aload_n 0, 1) := by decide +kernel
theorem dL_law_226 : decode cL_law 226 = .ok (.iload_n 3, 1) := by decide +kernel
theorem dL_law_227 : decode cL_law 227 = .ok (.iconst 1, 1) := by decide +kernel
theorem dL_law_228 : decode cL_law 228 = .ok (.iadd, 1) := by decide +kernel
theorem dL_law_229 : decode cL_law 229 = .ok (.iaload, 1) := by decide +kernel
theorem dL_law_230 : decode cL_law 230 = .ok (.aload_n 0, 1) := by decide +kernel
theorem dL_law_231 : decode cL_law 231 = .ok (.iload_n 3, 1) := by decide +kernel
theorem dL_law_232 : decode cL_law 232 = .ok (.iconst 2, 1) := by decide +kernel
theorem dL_law_233 : decode cL_law 233 = .ok (.iadd, 1) := by decide +kernel
theorem dL_law_234 : decode cL_law 234 = .ok (.iaload, 1) := by decide +kernel
theorem dL_law_235 : decode cL_law 235 = .ok (.invokevirtual 25, 3) := by decide +kernel
theorem dL_law_238 : decode cL_law 238 = .ok (.if_icmp .eq 640, 3) := by decide +kernel
theorem dL_law_241 : decode cL_law 241 = .ok (.iconst 0, 1) := by decide +kernel
theorem dL_law_242 : decode cL_law 242 = .ok (.ireturn, 1) := by decide +kernel
theorem dL_law_243 : decode cL_law 243 = .ok (.aload_n 1, 1) := by decide +kernel
theorem dL_law_244 : decode cL_law 244 = .ok (.aload_n 0, 1) := by decide +kernel
theorem dL_law_245 : decode cL_law 245 = .ok (.iload_n 3, 1) := by decide +kernel
theorem dL_law_246 : decode cL_law 246 = .ok (.iconst 1, 1) := by decide +kernel
theorem dL_law_247 : decode cL_law 247 = .ok (.iadd, 1) := by decide +kernel
theorem dL_law_248 : decode cL_law 248 = .ok (.iaload, 1) := by decide +kernel
theorem dL_law_249 : decode cL_law 249 = .ok (.invokevirtual 26, 3) := by decide +kernel
theorem dL_law_252 : decode cL_law 252 = .ok (.aload_n 2, 1) := by decide +kernel
theorem dL_law_253 : decode cL_law 253 = .ok (.aload_n 0, 1) := by decide +kernel
theorem dL_law_254 : decode cL_law 254 = .ok (.iload_n 3, 1) := by decide +kernel
theorem dL_law_255 : decode cL_law 255 = .ok (.iconst 1, 1) := by decide +kernel
theorem dL_law_256 : decode cL_law 256 = .ok (.iadd, 1) := by decide +kernel
theorem dL_law_257 : decode cL_law 257 = .ok (.iaload, 1) := by decide +kernel
theorem dL_law_258 : decode cL_law 258 = .ok (.invokevirtual 30, 3) := by decide +kernel
theorem dL_law_261 : decode cL_law 261 = .ok (.if_icmp .eq 617, 3) := by decide +kernel
theorem dL_law_264 : decode cL_law 264 = .ok (.iconst 0, 1) := by decide +kernel
theorem dL_law_265 : decode cL_law 265 = .ok (.ireturn, 1) := by decide +kernel
theorem dL_law_266 : decode cL_law 266 = .ok (.aload_n 1, 1) := by decide +kernel
theorem dL_law_267 : decode cL_law 267 = .ok (.aload_n 0, 1) := by decide +kernel
theorem dL_law_268 : decode cL_law 268 = .ok (.iload_n 3, 1) := by decide +kernel
theorem dL_law_269 : decode cL_law 269 = .ok (.iconst 1, 1) := by decide +kernel
theorem dL_law_270 : decode cL_law 270 = .ok (.iadd, 1) := by decide +kernel
theorem dL_law_271 : decode cL_law 271 = .ok (.iaload, 1) := by decide +kernel
theorem dL_law_272 : decode cL_law 272 = .ok (.invokevirtual 31, 3) := by decide +kernel
theorem dL_law_275 : decode cL_law 275 = .ok (.aload_n 2, 1) := by decide +kernel
theorem dL_law_276 : decode cL_law 276 = .ok (.aload_n 0, 1) := by decide +kernel
theorem dL_law_277 : decode cL_law 277 = .ok (.iload_n 3, 1) := by decide +kernel
theorem dL_law_278 : decode cL_law 278 = .ok (.iconst 1, 1) := by decide +kernel
theorem dL_law_279 : decode cL_law 279 = .ok (.iadd, 1) := by decide +kernel
theorem dL_law_280 : decode cL_law 280 = .ok (.iaload, 1) := by decide +kernel
theorem dL_law_281 : decode cL_law 281 = .ok (.invokevirtual 34, 3) := by decide +kernel
theorem dL_law_284 : decode cL_law 284 = .ok (.if_icmp .eq 594, 3) := by decide +kernel
theorem dL_law_287 : decode cL_law 287 = .ok (.iconst 0, 1) := by decide +kernel
theorem dL_law_288 : decode cL_law 288 = .ok (.ireturn, 1) := by decide +kernel
theorem dL_law_289 : decode cL_law 289 = .ok (.aload_n 1, 1) := by decide +kernel
theorem dL_law_290 : decode cL_law 290 = .ok (.aload_n 0, 1) := by decide +kernel
theorem dL_law_291 : decode cL_law 291 = .ok (.iload_n 3, 1) := by decide +kernel
theorem dL_law_292 : decode cL_law 292 = .ok (.iconst 1, 1) := by decide +kernel
theorem dL_law_293 : decode cL_law 293 = .ok (.iadd, 1) := by decide +kernel
theorem dL_law_294 : decode cL_law 294 = .ok (.iaload, 1) := by decide +kernel
theorem dL_law_295 : decode cL_law 295 = .ok (.invokevirtual 35, 3) := by decide +kernel
theorem dL_law_298 : decode cL_law 298 = .ok (.aload_n 2, 1) := by decide +kernel
theorem dL_law_299 : decode cL_law 299 = .ok (.aload_n 0, 1) := by decide +kernel
theorem dL_law_300 : decode cL_law 300 = .ok (.iload_n 3, 1) := by decide +kernel
theorem dL_law_301 : decode cL_law 301 = .ok (.iconst 1, 1) := by decide +kernel
theorem dL_law_302 : decode cL_law 302 = .ok (.iadd, 1) := by decide +kernel
theorem dL_law_303 : decode cL_law 303 = .ok (.iaload, 1) := by decide +kernel
theorem dL_law_304 : decode cL_law 304 = .ok (.invokevirtual 38, 3) := by decide +kernel
theorem dL_law_307 : decode cL_law 307 = .ok (.if_icmp .eq 571, 3) := by decide +kernel
theorem dL_law_310 : decode cL_law 310 = .ok (.iconst 0, 1) := by decide +kernel
theorem dL_law_311 : decode cL_law 311 = .ok (.ireturn, 1) := by decide +kernel
theorem dL_law_312 : decode cL_law 312 = .ok (.aload_n 1, 1) := by decide +kernel
theorem dL_law_313 : decode cL_law 313 = .ok (.invokevirtual 39, 3) := by decide +kernel
theorem dL_law_316 : decode cL_law 316 = .ok (.aload_n 2, 1) := by decide +kernel
theorem dL_law_317 : decode cL_law 317 = .ok (.invokevirtual 43, 3) := by decide +kernel
theorem dL_law_320 : decode cL_law 320 = .ok (.if_icmp .eq 558, 3) := by decide +kernel
theorem dL_law_323 : decode cL_law 323 = .ok (.iconst 0, 1) := by decide +kernel
theorem dL_law_324 : decode cL_law 324 = .ok (.ireturn, 1) := by decide +kernel
theorem dL_law_325 : decode cL_law 325 = .ok (.aload_n 1, 1) := by decide +kernel
theorem dL_law_326 : decode cL_law 326 = .ok (.aload_n 0, 1) := by decide +kernel
theorem dL_law_327 : decode cL_law 327 = .ok (.iload_n 3, 1) := by decide +kernel
theorem dL_law_328 : decode cL_law 328 = .ok (.iconst 1, 1) := by decide +kernel
theorem dL_law_329 : decode cL_law 329 = .ok (.iadd, 1) := by decide +kernel
theorem dL_law_330 : decode cL_law 330 = .ok (.iaload, 1) := by decide +kernel
theorem dL_law_331 : decode cL_law 331 = .ok (.invokevirtual 44, 3) := by decide +kernel
theorem dL_law_334 : decode cL_law 334 = .ok (.aload_n 2, 1) := by decide +kernel
theorem dL_law_335 : decode cL_law 335 = .ok (.aload_n 0, 1) := by decide +kernel
theorem dL_law_336 : decode cL_law 336 = .ok (.iload_n 3, 1) := by decide +kernel
theorem dL_law_337 : decode cL_law 337 = .ok (.iconst 1, 1) := by decide +kernel
theorem dL_law_338 : decode cL_law 338 = .ok (.iadd, 1) := by decide +kernel
theorem dL_law_339 : decode cL_law 339 = .ok (.iaload, 1) := by decide +kernel
theorem dL_law_340 : decode cL_law 340 = .ok (.invokevirtual 47, 3) := by decide +kernel
theorem dL_law_343 : decode cL_law 343 = .ok (.if_icmp .eq 535, 3) := by decide +kernel
theorem dL_law_346 : decode cL_law 346 = .ok (.iconst 0, 1) := by decide +kernel
theorem dL_law_347 : decode cL_law 347 = .ok (.ireturn, 1) := by decide +kernel
theorem dL_law_348 : decode cL_law 348 = .ok (.aload_n 1, 1) := by decide +kernel
theorem dL_law_349 : decode cL_law 349 = .ok (.invokevirtual 48, 3) := by decide +kernel
theorem dL_law_352 : decode cL_law 352 = .ok (.aload_n 2, 1) := by decide +kernel
theorem dL_law_353 : decode cL_law 353 = .ok (.invokevirtual 51, 3) := by decide +kernel
theorem dL_law_356 : decode cL_law 356 = .ok (.if_icmp .eq 522, 3) := by decide +kernel
theorem dL_law_359 : decode cL_law 359 = .ok (.iconst 0, 1) := by decide +kernel
theorem dL_law_360 : decode cL_law 360 = .ok (.ireturn, 1) := by decide +kernel
theorem dL_law_361 : decode cL_law 361 = .ok (.aload_n 1, 1) := by decide +kernel
theorem dL_law_362 : decode cL_law 362 = .ok (.aload_n 0, 1) := by decide +kernel
theorem dL_law_363 : decode cL_law 363 = .ok (.iload_n 3, 1) := by decide +kernel
theorem dL_law_364 : decode cL_law 364 = .ok (.iconst 1, 1) := by decide +kernel
theorem dL_law_365 : decode cL_law 365 = .ok (.iadd, 1) := by decide +kernel
theorem dL_law_366 : decode cL_law 366 = .ok (.iaload, 1) := by decide +kernel
theorem dL_law_367 : decode cL_law 367 = .ok (.aload_n 0, 1) := by decide +kernel
theorem dL_law_368 : decode cL_law 368 = .ok (.iload_n 3, 1) := by decide +kernel
theorem dL_law_369 : decode cL_law 369 = .ok (.iconst 2, 1) := by decide +kernel
theorem dL_law_370 : decode cL_law 370 = .ok (.iadd, 1) := by decide +kernel
theorem dL_law_371 : decode cL_law 371 = .ok (.iaload, 1) := by decide +kernel
theorem dL_law_372 : decode cL_law 372 = .ok (.invokevirtual 52, 3) := by decide +kernel
theorem dL_law_375 : decode cL_law 375 = .ok (.aload_n 2, 1) := by decide +kernel
theorem dL_law_376 : decode cL_law 376 = .ok (.aload_n 0, 1) := by decide +kernel
theorem dL_law_377 : decode cL_law 377 = .ok (.iload_n 3, 1) := by decide +kernel
theorem dL_law_378 : decode cL_law 378 = .ok (.iconst 1, 1) := by decide +kernel
theorem dL_law_379 : decode cL_law 379 = .ok (.iadd, 1) := by decide +kernel
theorem dL_law_380 : decode cL_law 380 = .ok (.iaload, 1) := by decide +kernel
theorem dL_law_381 : decode cL_law 381 = .ok (.aload_n 0, 1) := by decide +kernel
theorem dL_law_382 : decode cL_law 382 = .ok (.iload_n 3, 1) := by decide +kernel
theorem dL_law_383 : decode cL_law 383 = .ok (.iconst 2, 1) := by decide +kernel
theorem dL_law_384 : decode cL_law 384 = .ok (.iadd, 1) := by decide +kernel
theorem dL_law_385 : decode cL_law 385 = .ok (.iaload, 1) := by decide +kernel
theorem dL_law_386 : decode cL_law 386 = .ok (.invokevirtual 55, 3) := by decide +kernel
theorem dL_law_389 : decode cL_law 389 = .ok (.if_icmp .eq 489, 3) := by decide +kernel
theorem dL_law_392 : decode cL_law 392 = .ok (.iconst 0, 1) := by decide +kernel
theorem dL_law_393 : decode cL_law 393 = .ok (.ireturn, 1) := by decide +kernel
theorem dL_law_394 : decode cL_law 394 = .ok (.aload_n 1, 1) := by decide +kernel
theorem dL_law_395 : decode cL_law 395 = .ok (.aload_n 0, 1) := by decide +kernel
theorem dL_law_396 : decode cL_law 396 = .ok (.iload_n 3, 1) := by decide +kernel
theorem dL_law_397 : decode cL_law 397 = .ok (.iconst 1, 1) := by decide +kernel
theorem dL_law_398 : decode cL_law 398 = .ok (.iadd, 1) := by decide +kernel
theorem dL_law_399 : decode cL_law 399 = .ok (.iaload, 1) := by decide +kernel
theorem dL_law_400 : decode cL_law 400 = .ok (.aload_n 0, 1) := by decide +kernel
theorem dL_law_401 : decode cL_law 401 = .ok (.iload_n 3, 1) := by decide +kernel
theorem dL_law_402 : decode cL_law 402 = .ok (.iconst 2, 1) := by decide +kernel
theorem dL_law_403 : decode cL_law 403 = .ok (.iadd, 1) := by decide +kernel
theorem dL_law_404 : decode cL_law 404 = .ok (.iaload, 1) := by decide +kernel
theorem dL_law_405 : decode cL_law 405 = .ok (.aload_n 0, 1) := by decide +kernel
theorem dL_law_406 : decode cL_law 406 = .ok (.iload_n 3, 1) := by decide +kernel
theorem dL_law_407 : decode cL_law 407 = .ok (.iconst 3, 1) := by decide +kernel
theorem dL_law_408 : decode cL_law 408 = .ok (.iadd, 1) := by decide +kernel
theorem dL_law_409 : decode cL_law 409 = .ok (.iaload, 1) := by decide +kernel
theorem dL_law_410 : decode cL_law 410 = .ok (.invokevirtual 56, 3) := by decide +kernel
theorem dL_law_413 : decode cL_law 413 = .ok (.aload_n 2, 1) := by decide +kernel
theorem dL_law_414 : decode cL_law 414 = .ok (.aload_n 0, 1) := by decide +kernel
theorem dL_law_415 : decode cL_law 415 = .ok (.iload_n 3, 1) := by decide +kernel
theorem dL_law_416 : decode cL_law 416 = .ok (.iconst 1, 1) := by decide +kernel
theorem dL_law_417 : decode cL_law 417 = .ok (.iadd, 1) := by decide +kernel
theorem dL_law_418 : decode cL_law 418 = .ok (.iaload, 1) := by decide +kernel
theorem dL_law_419 : decode cL_law 419 = .ok (.aload_n 0, 1) := by decide +kernel
theorem dL_law_420 : decode cL_law 420 = .ok (.iload_n 3, 1) := by decide +kernel
theorem dL_law_421 : decode cL_law 421 = .ok (.iconst 2, 1) := by decide +kernel
theorem dL_law_422 : decode cL_law 422 = .ok (.iadd, 1) := by decide +kernel
theorem dL_law_423 : decode cL_law 423 = .ok (.iaload, 1) := by decide +kernel
theorem dL_law_424 : decode cL_law 424 = .ok (.aload_n 0, 1) := by decide +kernel
theorem dL_law_425 : decode cL_law 425 = .ok (.iload_n 3, 1) := by decide +kernel
theorem dL_law_426 : decode cL_law 426 = .ok (.iconst 3, 1) := by decide +kernel
theorem dL_law_427 : decode cL_law 427 = .ok (.iadd, 1) := by decide +kernel
theorem dL_law_428 : decode cL_law 428 = .ok (.iaload, 1) := by decide +kernel
theorem dL_law_429 : decode cL_law 429 = .ok (.invokevirtual 60, 3) := by decide +kernel
theorem dL_law_432 : decode cL_law 432 = .ok (.if_icmp .eq 446, 3) := by decide +kernel
theorem dL_law_435 : decode cL_law 435 = .ok (.iconst 0, 1) := by decide +kernel
theorem dL_law_436 : decode cL_law 436 = .ok (.ireturn, 1) := by decide +kernel
theorem dL_law_437 : decode cL_law 437 = .ok (.aload_n 1, 1) := by decide +kernel
theorem dL_law_438 : decode cL_law 438 = .ok (.aload_n 0, 1) := by decide +kernel
theorem dL_law_439 : decode cL_law 439 = .ok (.iload_n 3, 1) := by decide +kernel
theorem dL_law_440 : decode cL_law 440 = .ok (.iconst 1, 1) := by decide +kernel
theorem dL_law_441 : decode cL_law 441 = .ok (.iadd, 1) := by decide +kernel
theorem dL_law_442 : decode cL_law 442 = .ok (.iaload, 1) := by decide +kernel
theorem dL_law_443 : decode cL_law 443 = .ok (.aload_n 0, 1) := by decide +kernel
theorem dL_law_444 : decode cL_law 444 = .ok (.iload_n 3, 1) := by decide +kernel
theorem dL_law_445 : decode cL_law 445 = .ok (.iconst 2, 1) := by decide +kernel
theorem dL_law_446 : decode cL_law 446 = .ok (.iadd, 1) := by decide +kernel
theorem dL_law_447 : decode cL_law 447 = .ok (.iaload, 1) := by decide +kernel
theorem dL_law_448 : decode cL_law 448 = .ok (.aload_n 0, 1) := by decide +kernel
theorem dL_law_449 : decode cL_law 449 = .ok (.iload_n 3, 1) := by decide +kernel
theorem dL_law_450 : decode cL_law 450 = .ok (.iconst 3, 1) := by decide +kernel
theorem dL_law_451 : decode cL_law 451 = .ok (.iadd, 1) := by decide +kernel
theorem dL_law_452 : decode cL_law 452 = .ok (.iaload, 1) := by decide +kernel
theorem dL_law_453 : decode cL_law 453 = .ok (.invokevirtual 61, 3) := by decide +kernel
theorem dL_law_456 : decode cL_law 456 = .ok (.aload_n 2, 1) := by decide +kernel
theorem dL_law_457 : decode cL_law 457 = .ok (.aload_n 0, 1) := by decide +kernel
theorem dL_law_458 : decode cL_law 458 = .ok (.iload_n 3, 1) := by decide +kernel
theorem dL_law_459 : decode cL_law 459 = .ok (.iconst 1, 1) := by decide +kernel
theorem dL_law_460 : decode cL_law 460 = .ok (.iadd, 1) := by decide +kernel
theorem dL_law_461 : decode cL_law 461 = .ok (.iaload, 1) := by decide +kernel
theorem dL_law_462 : decode cL_law 462 = .ok (.aload_n 0, 1) := by decide +kernel
theorem dL_law_463 : decode cL_law 463 = .ok (.iload_n 3, 1) := by decide +kernel
theorem dL_law_464 : decode cL_law 464 = .ok (.iconst 2, 1) := by decide +kernel
theorem dL_law_465 : decode cL_law 465 = .ok (.iadd, 1) := by decide +kernel
theorem dL_law_466 : decode cL_law 466 = .ok (.iaload, 1) := by decide +kernel
theorem dL_law_467 : decode cL_law 467 = .ok (.aload_n 0, 1) := by decide +kernel
theorem dL_law_468 : decode cL_law 468 = .ok (.iload_n 3, 1) := by decide +kernel
theorem dL_law_469 : decode cL_law 469 = .ok (.iconst 3, 1) := by decide +kernel
theorem dL_law_470 : decode cL_law 470 = .ok (.iadd, 1) := by decide +kernel
theorem dL_law_471 : decode cL_law 471 = .ok (.iaload, 1) := by decide +kernel
theorem dL_law_472 : decode cL_law 472 = .ok (.invokevirtual 65, 3) := by decide +kernel
theorem dL_law_475 : decode cL_law 475 = .ok (.lcmp, 1) := by decide +kernel
theorem dL_law_476 : decode cL_law 476 = .ok (.ifCond .eq 402, 3) := by decide +kernel
theorem dL_law_479 : decode cL_law 479 = .ok (.iconst 0, 1) := by decide +kernel
theorem dL_law_480 : decode cL_law 480 = .ok (.ireturn, 1) := by decide +kernel
theorem dL_law_481 : decode cL_law 481 = .ok (.aload_n 1, 1) := by decide +kernel
theorem dL_law_482 : decode cL_law 482 = .ok (.aload_n 0, 1) := by decide +kernel
theorem dL_law_483 : decode cL_law 483 = .ok (.iload_n 3, 1) := by decide +kernel
theorem dL_law_484 : decode cL_law 484 = .ok (.iconst 1, 1) := by decide +kernel
theorem dL_law_485 : decode cL_law 485 = .ok (.iadd, 1) := by decide +kernel
theorem dL_law_486 : decode cL_law 486 = .ok (.iaload, 1) := by decide +kernel
theorem dL_law_487 : decode cL_law 487 = .ok (.aload_n 0, 1) := by decide +kernel
theorem dL_law_488 : decode cL_law 488 = .ok (.iload_n 3, 1) := by decide +kernel
theorem dL_law_489 : decode cL_law 489 = .ok (.iconst 2, 1) := by decide +kernel
theorem dL_law_490 : decode cL_law 490 = .ok (.iadd, 1) := by decide +kernel
theorem dL_law_491 : decode cL_law 491 = .ok (.iaload, 1) := by decide +kernel
theorem dL_law_492 : decode cL_law 492 = .ok (.aload_n 0, 1) := by decide +kernel
theorem dL_law_493 : decode cL_law 493 = .ok (.iload_n 3, 1) := by decide +kernel
theorem dL_law_494 : decode cL_law 494 = .ok (.iconst 3, 1) := by decide +kernel
theorem dL_law_495 : decode cL_law 495 = .ok (.iadd, 1) := by decide +kernel
theorem dL_law_496 : decode cL_law 496 = .ok (.iaload, 1) := by decide +kernel
theorem dL_law_497 : decode cL_law 497 = .ok (.aload_n 0, 1) := by decide +kernel
theorem dL_law_498 : decode cL_law 498 = .ok (.iload_n 3, 1) := by decide +kernel
theorem dL_law_499 : decode cL_law 499 = .ok (.iconst 4, 1) := by decide +kernel
theorem dL_law_500 : decode cL_law 500 = .ok (.iadd, 1) := by decide +kernel
theorem dL_law_501 : decode cL_law 501 = .ok (.iaload, 1) := by decide +kernel
theorem dL_law_502 : decode cL_law 502 = .ok (.invokevirtual 66, 3) := by decide +kernel
theorem dL_law_505 : decode cL_law 505 = .ok (.aload_n 2, 1) := by decide +kernel
theorem dL_law_506 : decode cL_law 506 = .ok (.aload_n 0, 1) := by decide +kernel
theorem dL_law_507 : decode cL_law 507 = .ok (.iload_n 3, 1) := by decide +kernel
theorem dL_law_508 : decode cL_law 508 = .ok (.iconst 1, 1) := by decide +kernel
theorem dL_law_509 : decode cL_law 509 = .ok (.iadd, 1) := by decide +kernel
theorem dL_law_510 : decode cL_law 510 = .ok (.iaload, 1) := by decide +kernel
theorem dL_law_511 : decode cL_law 511 = .ok (.aload_n 0, 1) := by decide +kernel
theorem dL_law_512 : decode cL_law 512 = .ok (.iload_n 3, 1) := by decide +kernel
theorem dL_law_513 : decode cL_law 513 = .ok (.iconst 2, 1) := by decide +kernel
theorem dL_law_514 : decode cL_law 514 = .ok (.iadd, 1) := by decide +kernel
theorem dL_law_515 : decode cL_law 515 = .ok (.iaload, 1) := by decide +kernel
theorem dL_law_516 : decode cL_law 516 = .ok (.aload_n 0, 1) := by decide +kernel
theorem dL_law_517 : decode cL_law 517 = .ok (.iload_n 3, 1) := by decide +kernel
theorem dL_law_518 : decode cL_law 518 = .ok (.iconst 3, 1) := by decide +kernel
theorem dL_law_519 : decode cL_law 519 = .ok (.iadd, 1) := by decide +kernel
theorem dL_law_520 : decode cL_law 520 = .ok (.iaload, 1) := by decide +kernel
theorem dL_law_521 : decode cL_law 521 = .ok (.aload_n 0, 1) := by decide +kernel
theorem dL_law_522 : decode cL_law 522 = .ok (.iload_n 3, 1) := by decide +kernel
theorem dL_law_523 : decode cL_law 523 = .ok (.iconst 4, 1) := by decide +kernel
theorem dL_law_524 : decode cL_law 524 = .ok (.iadd, 1) := by decide +kernel
theorem dL_law_525 : decode cL_law 525 = .ok (.iaload, 1) := by decide +kernel
theorem dL_law_526 : decode cL_law 526 = .ok (.invokevirtual 70, 3) := by decide +kernel
theorem dL_law_529 : decode cL_law 529 = .ok (.if_icmp .eq 349, 3) := by decide +kernel
theorem dL_law_532 : decode cL_law 532 = .ok (.iconst 0, 1) := by decide +kernel
theorem dL_law_533 : decode cL_law 533 = .ok (.ireturn, 1) := by decide +kernel
theorem dL_law_534 : decode cL_law 534 = .ok (.aload_n 1, 1) := by decide +kernel
theorem dL_law_535 : decode cL_law 535 = .ok (.aload_n 0, 1) := by decide +kernel
theorem dL_law_536 : decode cL_law 536 = .ok (.iload_n 3, 1) := by decide +kernel
theorem dL_law_537 : decode cL_law 537 = .ok (.iconst 1, 1) := by decide +kernel
theorem dL_law_538 : decode cL_law 538 = .ok (.iadd, 1) := by decide +kernel
theorem dL_law_539 : decode cL_law 539 = .ok (.iaload, 1) := by decide +kernel
theorem dL_law_540 : decode cL_law 540 = .ok (.aload_n 0, 1) := by decide +kernel
theorem dL_law_541 : decode cL_law 541 = .ok (.iload_n 3, 1) := by decide +kernel
theorem dL_law_542 : decode cL_law 542 = .ok (.iconst 2, 1) := by decide +kernel
theorem dL_law_543 : decode cL_law 543 = .ok (.iadd, 1) := by decide +kernel
theorem dL_law_544 : decode cL_law 544 = .ok (.iaload, 1) := by decide +kernel
theorem dL_law_545 : decode cL_law 545 = .ok (.invokevirtual 71, 3) := by decide +kernel
theorem dL_law_548 : decode cL_law 548 = .ok (.aload_n 2, 1) := by decide +kernel
theorem dL_law_549 : decode cL_law 549 = .ok (.aload_n 0, 1) := by decide +kernel
theorem dL_law_550 : decode cL_law 550 = .ok (.iload_n 3, 1) := by decide +kernel
theorem dL_law_551 : decode cL_law 551 = .ok (.iconst 1, 1) := by decide +kernel
theorem dL_law_552 : decode cL_law 552 = .ok (.iadd, 1) := by decide +kernel
theorem dL_law_553 : decode cL_law 553 = .ok (.iaload, 1) := by decide +kernel
theorem dL_law_554 : decode cL_law 554 = .ok (.aload_n 0, 1) := by decide +kernel
theorem dL_law_555 : decode cL_law 555 = .ok (.iload_n 3, 1) := by decide +kernel
theorem dL_law_556 : decode cL_law 556 = .ok (.iconst 2, 1) := by decide +kernel
theorem dL_law_557 : decode cL_law 557 = .ok (.iadd, 1) := by decide +kernel
theorem dL_law_558 : decode cL_law 558 = .ok (.iaload, 1) := by decide +kernel
theorem dL_law_559 : decode cL_law 559 = .ok (.invokevirtual 74, 3) := by decide +kernel
theorem dL_law_562 : decode cL_law 562 = .ok (.if_icmp .eq 316, 3) := by decide +kernel
theorem dL_law_565 : decode cL_law 565 = .ok (.iconst 0, 1) := by decide +kernel
theorem dL_law_566 : decode cL_law 566 = .ok (.ireturn, 1) := by decide +kernel
theorem dL_law_567 : decode cL_law 567 = .ok (.aload_n 1, 1) := by decide +kernel
theorem dL_law_568 : decode cL_law 568 = .ok (.aload_n 0, 1) := by decide +kernel
theorem dL_law_569 : decode cL_law 569 = .ok (.iload_n 3, 1) := by decide +kernel
theorem dL_law_570 : decode cL_law 570 = .ok (.iconst 1, 1) := by decide +kernel
theorem dL_law_571 : decode cL_law 571 = .ok (.iadd, 1) := by decide +kernel
theorem dL_law_572 : decode cL_law 572 = .ok (.iaload, 1) := by decide +kernel
theorem dL_law_573 : decode cL_law 573 = .ok (.aload_n 0, 1) := by decide +kernel
theorem dL_law_574 : decode cL_law 574 = .ok (.iload_n 3, 1) := by decide +kernel
theorem dL_law_575 : decode cL_law 575 = .ok (.iconst 2, 1) := by decide +kernel
theorem dL_law_576 : decode cL_law 576 = .ok (.iadd, 1) := by decide +kernel
theorem dL_law_577 : decode cL_law 577 = .ok (.iaload, 1) := by decide +kernel
theorem dL_law_578 : decode cL_law 578 = .ok (.invokevirtual 75, 3) := by decide +kernel
theorem dL_law_581 : decode cL_law 581 = .ok (.aload_n 2, 1) := by decide +kernel
theorem dL_law_582 : decode cL_law 582 = .ok (.aload_n 0, 1) := by decide +kernel
theorem dL_law_583 : decode cL_law 583 = .ok (.iload_n 3, 1) := by decide +kernel
theorem dL_law_584 : decode cL_law 584 = .ok (.iconst 1, 1) := by decide +kernel
theorem dL_law_585 : decode cL_law 585 = .ok (.iadd, 1) := by decide +kernel
theorem dL_law_586 : decode cL_law 586 = .ok (.iaload, 1) := by decide +kernel
theorem dL_law_587 : decode cL_law 587 = .ok (.aload_n 0, 1) := by decide +kernel
theorem dL_law_588 : decode cL_law 588 = .ok (.iload_n 3, 1) := by decide +kernel
theorem dL_law_589 : decode cL_law 589 = .ok (.iconst 2, 1) := by decide +kernel
theorem dL_law_590 : decode cL_law 590 = .ok (.iadd, 1) := by decide +kernel
theorem dL_law_591 : decode cL_law 591 = .ok (.iaload, 1) := by decide +kernel
theorem dL_law_592 : decode cL_law 592 = .ok (.invokevirtual 78, 3) := by decide +kernel
theorem dL_law_595 : decode cL_law 595 = .ok (.if_icmp .eq 283, 3) := by decide +kernel
theorem dL_law_598 : decode cL_law 598 = .ok (.iconst 0, 1) := by decide +kernel
theorem dL_law_599 : decode cL_law 599 = .ok (.ireturn, 1) := by decide +kernel
theorem dL_law_600 : decode cL_law 600 = .ok (.aload_n 1, 1) := by decide +kernel
theorem dL_law_601 : decode cL_law 601 = .ok (.aload_n 0, 1) := by decide +kernel
theorem dL_law_602 : decode cL_law 602 = .ok (.iload_n 3, 1) := by decide +kernel
theorem dL_law_603 : decode cL_law 603 = .ok (.iconst 1, 1) := by decide +kernel
theorem dL_law_604 : decode cL_law 604 = .ok (.iadd, 1) := by decide +kernel
theorem dL_law_605 : decode cL_law 605 = .ok (.iaload, 1) := by decide +kernel
theorem dL_law_606 : decode cL_law 606 = .ok (.aload_n 0, 1) := by decide +kernel
theorem dL_law_607 : decode cL_law 607 = .ok (.iload_n 3, 1) := by decide +kernel
theorem dL_law_608 : decode cL_law 608 = .ok (.iconst 2, 1) := by decide +kernel
theorem dL_law_609 : decode cL_law 609 = .ok (.iadd, 1) := by decide +kernel
theorem dL_law_610 : decode cL_law 610 = .ok (.iaload, 1) := by decide +kernel
theorem dL_law_611 : decode cL_law 611 = .ok (.aload_n 0, 1) := by decide +kernel
theorem dL_law_612 : decode cL_law 612 = .ok (.iload_n 3, 1) := by decide +kernel
theorem dL_law_613 : decode cL_law 613 = .ok (.iconst 3, 1) := by decide +kernel
theorem dL_law_614 : decode cL_law 614 = .ok (.iadd, 1) := by decide +kernel
theorem dL_law_615 : decode cL_law 615 = .ok (.iaload, 1) := by decide +kernel
theorem dL_law_616 : decode cL_law 616 = .ok (.aload_n 0, 1) := by decide +kernel
theorem dL_law_617 : decode cL_law 617 = .ok (.iload_n 3, 1) := by decide +kernel
theorem dL_law_618 : decode cL_law 618 = .ok (.iconst 4, 1) := by decide +kernel
theorem dL_law_619 : decode cL_law 619 = .ok (.iadd, 1) := by decide +kernel
theorem dL_law_620 : decode cL_law 620 = .ok (.iaload, 1) := by decide +kernel
theorem dL_law_621 : decode cL_law 621 = .ok (.invokevirtual 79, 3) := by decide +kernel
theorem dL_law_624 : decode cL_law 624 = .ok (.aload_n 2, 1) := by decide +kernel
theorem dL_law_625 : decode cL_law 625 = .ok (.aload_n 0, 1) := by decide +kernel
theorem dL_law_626 : decode cL_law 626 = .ok (.iload_n 3, 1) := by decide +kernel
theorem dL_law_627 : decode cL_law 627 = .ok (.iconst 1, 1) := by decide +kernel
theorem dL_law_628 : decode cL_law 628 = .ok (.iadd, 1) := by decide +kernel
theorem dL_law_629 : decode cL_law 629 = .ok (.iaload, 1) := by decide +kernel
theorem dL_law_630 : decode cL_law 630 = .ok (.aload_n 0, 1) := by decide +kernel
theorem dL_law_631 : decode cL_law 631 = .ok (.iload_n 3, 1) := by decide +kernel
theorem dL_law_632 : decode cL_law 632 = .ok (.iconst 2, 1) := by decide +kernel
theorem dL_law_633 : decode cL_law 633 = .ok (.iadd, 1) := by decide +kernel
theorem dL_law_634 : decode cL_law 634 = .ok (.iaload, 1) := by decide +kernel
theorem dL_law_635 : decode cL_law 635 = .ok (.aload_n 0, 1) := by decide +kernel
theorem dL_law_636 : decode cL_law 636 = .ok (.iload_n 3, 1) := by decide +kernel
theorem dL_law_637 : decode cL_law 637 = .ok (.iconst 3, 1) := by decide +kernel
theorem dL_law_638 : decode cL_law 638 = .ok (.iadd, 1) := by decide +kernel
theorem dL_law_639 : decode cL_law 639 = .ok (.iaload, 1) := by decide +kernel
theorem dL_law_640 : decode cL_law 640 = .ok (.aload_n 0, 1) := by decide +kernel
theorem dL_law_641 : decode cL_law 641 = .ok (.iload_n 3, 1) := by decide +kernel
theorem dL_law_642 : decode cL_law 642 = .ok (.iconst 4, 1) := by decide +kernel
theorem dL_law_643 : decode cL_law 643 = .ok (.iadd, 1) := by decide +kernel
theorem dL_law_644 : decode cL_law 644 = .ok (.iaload, 1) := by decide +kernel
theorem dL_law_645 : decode cL_law 645 = .ok (.invokevirtual 82, 3) := by decide +kernel
theorem dL_law_648 : decode cL_law 648 = .ok (.if_icmp .eq 230, 3) := by decide +kernel
theorem dL_law_651 : decode cL_law 651 = .ok (.iconst 0, 1) := by decide +kernel
theorem dL_law_652 : decode cL_law 652 = .ok (.ireturn, 1) := by decide +kernel
theorem dL_law_653 : decode cL_law 653 = .ok (.aload_n 1, 1) := by decide +kernel
theorem dL_law_654 : decode cL_law 654 = .ok (.aload_n 0, 1) := by decide +kernel
theorem dL_law_655 : decode cL_law 655 = .ok (.iload_n 3, 1) := by decide +kernel
theorem dL_law_656 : decode cL_law 656 = .ok (.iconst 1, 1) := by decide +kernel
theorem dL_law_657 : decode cL_law 657 = .ok (.iadd, 1) := by decide +kernel
theorem dL_law_658 : decode cL_law 658 = .ok (.iaload, 1) := by decide +kernel
theorem dL_law_659 : decode cL_law 659 = .ok (.aload_n 0, 1) := by decide +kernel
theorem dL_law_660 : decode cL_law 660 = .ok (.iload_n 3, 1) := by decide +kernel
theorem dL_law_661 : decode cL_law 661 = .ok (.iconst 2, 1) := by decide +kernel
theorem dL_law_662 : decode cL_law 662 = .ok (.iadd, 1) := by decide +kernel
theorem dL_law_663 : decode cL_law 663 = .ok (.iaload, 1) := by decide +kernel
theorem dL_law_664 : decode cL_law 664 = .ok (.invokevirtual 83, 3) := by decide +kernel
theorem dL_law_667 : decode cL_law 667 = .ok (.aload_n 2, 1) := by decide +kernel
theorem dL_law_668 : decode cL_law 668 = .ok (.aload_n 0, 1) := by decide +kernel
theorem dL_law_669 : decode cL_law 669 = .ok (.iload_n 3, 1) := by decide +kernel
theorem dL_law_670 : decode cL_law 670 = .ok (.iconst 1, 1) := by decide +kernel
theorem dL_law_671 : decode cL_law 671 = .ok (.iadd, 1) := by decide +kernel
theorem dL_law_672 : decode cL_law 672 = .ok (.iaload, 1) := by decide +kernel
theorem dL_law_673 : decode cL_law 673 = .ok (.aload_n 0, 1) := by decide +kernel
theorem dL_law_674 : decode cL_law 674 = .ok (.iload_n 3, 1) := by decide +kernel
theorem dL_law_675 : decode cL_law 675 = .ok (.iconst 2, 1) := by decide +kernel
theorem dL_law_676 : decode cL_law 676 = .ok (.iadd, 1) := by decide +kernel
theorem dL_law_677 : decode cL_law 677 = .ok (.iaload, 1) := by decide +kernel
theorem dL_law_678 : decode cL_law 678 = .ok (.invokevirtual 86, 3) := by decide +kernel
theorem dL_law_681 : decode cL_law 681 = .ok (.if_icmp .eq 197, 3) := by decide +kernel
theorem dL_law_684 : decode cL_law 684 = .ok (.iconst 0, 1) := by decide +kernel
theorem dL_law_685 : decode cL_law 685 = .ok (.ireturn, 1) := by decide +kernel
theorem dL_law_686 : decode cL_law 686 = .ok (.aload_n 1, 1) := by decide +kernel
theorem dL_law_687 : decode cL_law 687 = .ok (.aload_n 0, 1) := by decide +kernel
theorem dL_law_688 : decode cL_law 688 = .ok (.iload_n 3, 1) := by decide +kernel
theorem dL_law_689 : decode cL_law 689 = .ok (.iconst 1, 1) := by decide +kernel
theorem dL_law_690 : decode cL_law 690 = .ok (.iadd, 1) := by decide +kernel
theorem dL_law_691 : decode cL_law 691 = .ok (.iaload, 1) := by decide +kernel
theorem dL_law_692 : decode cL_law 692 = .ok (.aload_n 0, 1) := by decide +kernel
theorem dL_law_693 : decode cL_law 693 = .ok (.iload_n 3, 1) := by decide +kernel
theorem dL_law_694 : decode cL_law 694 = .ok (.iconst 2, 1) := by decide +kernel
theorem dL_law_695 : decode cL_law 695 = .ok (.iadd, 1) := by decide +kernel
theorem dL_law_696 : decode cL_law 696 = .ok (.iaload, 1) := by decide +kernel
theorem dL_law_697 : decode cL_law 697 = .ok (.aload_n 0, 1) := by decide +kernel
theorem dL_law_698 : decode cL_law 698 = .ok (.iload_n 3, 1) := by decide +kernel
theorem dL_law_699 : decode cL_law 699 = .ok (.iconst 3, 1) := by decide +kernel
theorem dL_law_700 : decode cL_law 700 = .ok (.iadd, 1) := by decide +kernel
theorem dL_law_701 : decode cL_law 701 = .ok (.iaload, 1) := by decide +kernel
theorem dL_law_702 : decode cL_law 702 = .ok (.invokevirtual 87, 3) := by decide +kernel
theorem dL_law_705 : decode cL_law 705 = .ok (.aload_n 2, 1) := by decide +kernel
theorem dL_law_706 : decode cL_law 706 = .ok (.aload_n 0, 1) := by decide +kernel
theorem dL_law_707 : decode cL_law 707 = .ok (.iload_n 3, 1) := by decide +kernel
theorem dL_law_708 : decode cL_law 708 = .ok (.iconst 1, 1) := by decide +kernel
theorem dL_law_709 : decode cL_law 709 = .ok (.iadd, 1) := by decide +kernel
theorem dL_law_710 : decode cL_law 710 = .ok (.iaload, 1) := by decide +kernel
theorem dL_law_711 : decode cL_law 711 = .ok (.aload_n 0, 1) := by decide +kernel
theorem dL_law_712 : decode cL_law 712 = .ok (.iload_n 3, 1) := by decide +kernel
theorem dL_law_713 : decode cL_law 713 = .ok (.iconst 2, 1) := by decide +kernel
theorem dL_law_714 : decode cL_law 714 = .ok (.iadd, 1) := by decide +kernel
theorem dL_law_715 : decode cL_law 715 = .ok (.iaload, 1) := by decide +kernel
theorem dL_law_716 : decode cL_law 716 = .ok (.aload_n 0, 1) := by decide +kernel
theorem dL_law_717 : decode cL_law 717 = .ok (.iload_n 3, 1) := by decide +kernel
theorem dL_law_718 : decode cL_law 718 = .ok (.iconst 3, 1) := by decide +kernel
theorem dL_law_719 : decode cL_law 719 = .ok (.iadd, 1) := by decide +kernel
theorem dL_law_720 : decode cL_law 720 = .ok (.iaload, 1) := by decide +kernel
theorem dL_law_721 : decode cL_law 721 = .ok (.invokevirtual 90, 3) := by decide +kernel
theorem dL_law_724 : decode cL_law 724 = .ok (.if_icmp .eq 154, 3) := by decide +kernel
theorem dL_law_727 : decode cL_law 727 = .ok (.iconst 0, 1) := by decide +kernel
theorem dL_law_728 : decode cL_law 728 = .ok (.ireturn, 1) := by decide +kernel
theorem dL_law_729 : decode cL_law 729 = .ok (.aload_n 1, 1) := by decide +kernel
theorem dL_law_730 : decode cL_law 730 = .ok (.aload_n 0, 1) := by decide +kernel
theorem dL_law_731 : decode cL_law 731 = .ok (.iload_n 3, 1) := by decide +kernel
theorem dL_law_732 : decode cL_law 732 = .ok (.iconst 1, 1) := by decide +kernel
theorem dL_law_733 : decode cL_law 733 = .ok (.iadd, 1) := by decide +kernel
theorem dL_law_734 : decode cL_law 734 = .ok (.iaload, 1) := by decide +kernel
theorem dL_law_735 : decode cL_law 735 = .ok (.aload_n 0, 1) := by decide +kernel
theorem dL_law_736 : decode cL_law 736 = .ok (.iload_n 3, 1) := by decide +kernel
theorem dL_law_737 : decode cL_law 737 = .ok (.iconst 2, 1) := by decide +kernel
theorem dL_law_738 : decode cL_law 738 = .ok (.iadd, 1) := by decide +kernel
theorem dL_law_739 : decode cL_law 739 = .ok (.iaload, 1) := by decide +kernel
theorem dL_law_740 : decode cL_law 740 = .ok (.invokevirtual 91, 3) := by decide +kernel
theorem dL_law_743 : decode cL_law 743 = .ok (.aload_n 2, 1) := by decide +kernel
theorem dL_law_744 : decode cL_law 744 = .ok (.aload_n 0, 1) := by decide +kernel
theorem dL_law_745 : decode cL_law 745 = .ok (.iload_n 3, 1) := by decide +kernel
theorem dL_law_746 : decode cL_law 746 = .ok (.iconst 1, 1) := by decide +kernel
theorem dL_law_747 : decode cL_law 747 = .ok (.iadd, 1) := by decide +kernel
theorem dL_law_748 : decode cL_law 748 = .ok (.iaload, 1) := by decide +kernel
theorem dL_law_749 : decode cL_law 749 = .ok (.aload_n 0, 1) := by decide +kernel
theorem dL_law_750 : decode cL_law 750 = .ok (.iload_n 3, 1) := by decide +kernel
theorem dL_law_751 : decode cL_law 751 = .ok (.iconst 2, 1) := by decide +kernel
theorem dL_law_752 : decode cL_law 752 = .ok (.iadd, 1) := by decide +kernel
theorem dL_law_753 : decode cL_law 753 = .ok (.iaload, 1) := by decide +kernel
theorem dL_law_754 : decode cL_law 754 = .ok (.invokevirtual 94, 3) := by decide +kernel
theorem dL_law_757 : decode cL_law 757 = .ok (.if_icmp .eq 121, 3) := by decide +kernel
theorem dL_law_760 : decode cL_law 760 = .ok (.iconst 0, 1) := by decide +kernel
theorem dL_law_761 : decode cL_law 761 = .ok (.ireturn, 1) := by decide +kernel
theorem dL_law_762 : decode cL_law 762 = .ok (.aload_n 1, 1) := by decide +kernel
theorem dL_law_763 : decode cL_law 763 = .ok (.invokevirtual 95, 3) := by decide +kernel
theorem dL_law_766 : decode cL_law 766 = .ok (.aload_n 2, 1) := by decide +kernel
theorem dL_law_767 : decode cL_law 767 = .ok (.invokevirtual 98, 3) := by decide +kernel
theorem dL_law_770 : decode cL_law 770 = .ok (.if_icmp .eq 108, 3) := by decide +kernel
theorem dL_law_773 : decode cL_law 773 = .ok (.iconst 0, 1) := by decide +kernel
theorem dL_law_774 : decode cL_law 774 = .ok (.ireturn, 1) := by decide +kernel
theorem dL_law_775 : decode cL_law 775 = .ok (.aload_n 1, 1) := by decide +kernel
theorem dL_law_776 : decode cL_law 776 = .ok (.aload_n 0, 1) := by decide +kernel
theorem dL_law_777 : decode cL_law 777 = .ok (.iload_n 3, 1) := by decide +kernel
theorem dL_law_778 : decode cL_law 778 = .ok (.iconst 1, 1) := by decide +kernel
theorem dL_law_779 : decode cL_law 779 = .ok (.iadd, 1) := by decide +kernel
theorem dL_law_780 : decode cL_law 780 = .ok (.iaload, 1) := by decide +kernel
theorem dL_law_781 : decode cL_law 781 = .ok (.invokevirtual 99, 3) := by decide +kernel
theorem dL_law_784 : decode cL_law 784 = .ok (.aload_n 2, 1) := by decide +kernel
theorem dL_law_785 : decode cL_law 785 = .ok (.aload_n 0, 1) := by decide +kernel
theorem dL_law_786 : decode cL_law 786 = .ok (.iload_n 3, 1) := by decide +kernel
theorem dL_law_787 : decode cL_law 787 = .ok (.iconst 1, 1) := by decide +kernel
theorem dL_law_788 : decode cL_law 788 = .ok (.iadd, 1) := by decide +kernel
theorem dL_law_789 : decode cL_law 789 = .ok (.iaload, 1) := by decide +kernel
theorem dL_law_790 : decode cL_law 790 = .ok (.invokevirtual 102, 3) := by decide +kernel
theorem dL_law_793 : decode cL_law 793 = .ok (.if_icmp .eq 85, 3) := by decide +kernel
theorem dL_law_796 : decode cL_law 796 = .ok (.iconst 0, 1) := by decide +kernel
theorem dL_law_797 : decode cL_law 797 = .ok (.ireturn, 1) := by decide +kernel
theorem dL_law_798 : decode cL_law 798 = .ok (.aload_n 1, 1) := by decide +kernel
theorem dL_law_799 : decode cL_law 799 = .ok (.aload_n 0, 1) := by decide +kernel
theorem dL_law_800 : decode cL_law 800 = .ok (.iload_n 3, 1) := by decide +kernel
theorem dL_law_801 : decode cL_law 801 = .ok (.iconst 1, 1) := by decide +kernel
theorem dL_law_802 : decode cL_law 802 = .ok (.iadd, 1) := by decide +kernel
theorem dL_law_803 : decode cL_law 803 = .ok (.iaload, 1) := by decide +kernel
theorem dL_law_804 : decode cL_law 804 = .ok (.aload_n 0, 1) := by decide +kernel
theorem dL_law_805 : decode cL_law 805 = .ok (.iload_n 3, 1) := by decide +kernel
theorem dL_law_806 : decode cL_law 806 = .ok (.iconst 2, 1) := by decide +kernel
theorem dL_law_807 : decode cL_law 807 = .ok (.iadd, 1) := by decide +kernel
theorem dL_law_808 : decode cL_law 808 = .ok (.iaload, 1) := by decide +kernel
theorem dL_law_809 : decode cL_law 809 = .ok (.aload_n 0, 1) := by decide +kernel
theorem dL_law_810 : decode cL_law 810 = .ok (.iload_n 3, 1) := by decide +kernel
theorem dL_law_811 : decode cL_law 811 = .ok (.iconst 3, 1) := by decide +kernel
theorem dL_law_812 : decode cL_law 812 = .ok (.iadd, 1) := by decide +kernel
theorem dL_law_813 : decode cL_law 813 = .ok (.iaload, 1) := by decide +kernel
theorem dL_law_814 : decode cL_law 814 = .ok (.invokevirtual 103, 3) := by decide +kernel
theorem dL_law_817 : decode cL_law 817 = .ok (.aload_n 2, 1) := by decide +kernel
theorem dL_law_818 : decode cL_law 818 = .ok (.aload_n 0, 1) := by decide +kernel
theorem dL_law_819 : decode cL_law 819 = .ok (.iload_n 3, 1) := by decide +kernel
theorem dL_law_820 : decode cL_law 820 = .ok (.iconst 1, 1) := by decide +kernel
theorem dL_law_821 : decode cL_law 821 = .ok (.iadd, 1) := by decide +kernel
theorem dL_law_822 : decode cL_law 822 = .ok (.iaload, 1) := by decide +kernel
theorem dL_law_823 : decode cL_law 823 = .ok (.aload_n 0, 1) := by decide +kernel
theorem dL_law_824 : decode cL_law 824 = .ok (.iload_n 3, 1) := by decide +kernel
theorem dL_law_825 : decode cL_law 825 = .ok (.iconst 2, 1) := by decide +kernel
theorem dL_law_826 : decode cL_law 826 = .ok (.iadd, 1) := by decide +kernel
theorem dL_law_827 : decode cL_law 827 = .ok (.iaload, 1) := by decide +kernel
theorem dL_law_828 : decode cL_law 828 = .ok (.aload_n 0, 1) := by decide +kernel
theorem dL_law_829 : decode cL_law 829 = .ok (.iload_n 3, 1) := by decide +kernel
theorem dL_law_830 : decode cL_law 830 = .ok (.iconst 3, 1) := by decide +kernel
theorem dL_law_831 : decode cL_law 831 = .ok (.iadd, 1) := by decide +kernel
theorem dL_law_832 : decode cL_law 832 = .ok (.iaload, 1) := by decide +kernel
theorem dL_law_833 : decode cL_law 833 = .ok (.invokevirtual 106, 3) := by decide +kernel
theorem dL_law_836 : decode cL_law 836 = .ok (.if_icmp .eq 42, 3) := by decide +kernel
theorem dL_law_839 : decode cL_law 839 = .ok (.iconst 0, 1) := by decide +kernel
theorem dL_law_840 : decode cL_law 840 = .ok (.ireturn, 1) := by decide +kernel
theorem dL_law_841 : decode cL_law 841 = .ok (.aload_n 1, 1) := by decide +kernel
theorem dL_law_842 : decode cL_law 842 = .ok (.aload_n 0, 1) := by decide +kernel
theorem dL_law_843 : decode cL_law 843 = .ok (.iload_n 3, 1) := by decide +kernel
theorem dL_law_844 : decode cL_law 844 = .ok (.iconst 1, 1) := by decide +kernel
theorem dL_law_845 : decode cL_law 845 = .ok (.iadd, 1) := by decide +kernel
theorem dL_law_846 : decode cL_law 846 = .ok (.iaload, 1) := by decide +kernel
theorem dL_law_847 : decode cL_law 847 = .ok (.invokevirtual 107, 3) := by decide +kernel
theorem dL_law_850 : decode cL_law 850 = .ok (.aload_n 2, 1) := by decide +kernel
theorem dL_law_851 : decode cL_law 851 = .ok (.aload_n 0, 1) := by decide +kernel
theorem dL_law_852 : decode cL_law 852 = .ok (.iload_n 3, 1) := by decide +kernel
theorem dL_law_853 : decode cL_law 853 = .ok (.iconst 1, 1) := by decide +kernel
theorem dL_law_854 : decode cL_law 854 = .ok (.iadd, 1) := by decide +kernel
theorem dL_law_855 : decode cL_law 855 = .ok (.iaload, 1) := by decide +kernel
theorem dL_law_856 : decode cL_law 856 = .ok (.invokevirtual 110, 3) := by decide +kernel
theorem dL_law_859 : decode cL_law 859 = .ok (.if_icmp .eq 19, 3) := by decide +kernel
theorem dL_law_862 : decode cL_law 862 = .ok (.iconst 0, 1) := by decide +kernel
theorem dL_law_863 : decode cL_law 863 = .ok (.ireturn, 1) := by decide +kernel
