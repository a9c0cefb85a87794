theorem dX12_part_58 : decode cX12_part 58 = .ok (.aload_n 0, 1) := by decide +kernel
theorem dX12_part_59 : decode cX12_part 59 = .ok (.iload_n 1, 1) := by decide +kernel
theorem dX12_part_60 : decode cX12_part 60 = .ok (.iload_n 2, 1) := by decide +kernel
theorem dX12_part_61 : decode cX12_part 61 = .ok (.iload_n 3, 1) := by decide +kernel
theorem dX12_part_62 : decode cX12_part 62 = .ok (.invokevirtual 115, 3) := by decide +kernel
theorem dX12_part_65 : decode cX12_part 65 = .ok (.aload_n 0, 1) := by decide +kernel
theorem dX12_part_66 : decode cX12_part 66 = .ok (.iload_n 3, 1) := by decide +kernel
theorem dX12_part_67 : decode cX12_part 67 = .ok (.iload_n 2, 1) := by decide +kernel
theorem dX12_part_68 : decode cX12_part 68 = .ok (.isub, 1) := by decide +kernel
theorem dX12_part_69 : decode cX12_part 69 = .ok (.iconst 1, 1) := by decide +kernel
theorem dX12_part_70 : decode cX12_part 70 = .ok (.iadd, 1) := by decide +kernel
theorem dX12_part_71 : decode cX12_part 71 = .ok (.invokevirtual 119, 3) := by decide +kernel
theorem dX12_part_74 : decode cX12_part 74 = .ok (.istore 5, 2) := by decide +kernel
theorem dX12_part_76 : decode cX12_part 76 = .ok (.iload 4, 2) := by decide +kernel
theorem dX12_part_78 : decode cX12_part 78 = .ok (.ifCond .ne 8, 3) := by decide +kernel
theorem dX12_part_81 : decode cX12_part 81 = .ok (.iload 5, 2) := by decide +kernel
theorem dX12_part_83 : decode cX12_part 83 = .ok (.goto 29, 3) := by decide +kernel
theorem dX12_part_86 : decode cX12_part 86 = .ok (.iload 4, 2) := by decide +kernel
theorem dX12_part_88 : decode cX12_part 88 = .ok (.iconst 1, 1) := by decide +kernel
theorem dX12_part_89 : decode cX12_part 89 = .ok (.if_icmp .ne 17, 3) := by decide +kernel
theorem dX12_part_92 : decode cX12_part 92 = .ok (.aload_n 0, 1) := by decide +kernel
theorem dX12_part_93 : decode cX12_part 93 = .ok (.iload_n 3, 1) := by decide +kernel
theorem dX12_part_94 : decode cX12_part 94 = .ok (.iload_n 2, 1) := by decide +kernel
theorem dX12_part_95 : decode cX12_part 95 = .ok (.isub, 1) := by decide +kernel
theorem dX12_part_96 : decode cX12_part 96 = .ok (.iconst 1, 1) := by decide +kernel
theorem dX12_part_97 : decode cX12_part 97 = .ok (.iadd, 1) := by decide +kernel
theorem dX12_part_98 : decode cX12_part 98 = .ok (.iload 5, 2) := by decide +kernel
theorem dX12_part_100 : decode cX12_part 100 = .ok (.invokevirtual 125, 3) := by decide +kernel
theorem dX12_part_103 : decode cX12_part 103 = .ok (.goto 9, 3) := by decide +kernel
theorem dX12_part_106 : decode cX12_part 106 = .ok (.aload_n 0, 1) := by decide +kernel
theorem dX12_part_107 : decode cX12_part 107 = .ok (.iload 5, 2) := by decide +kernel
theorem dX12_part_109 : decode cX12_part 109 = .ok (.invokevirtual 112, 3) := by decide +kernel
theorem dX12_part_112 : decode cX12_part 112 = .ok (.ireturn, 1) := by decide +kernel
theorem dX12_at_0 : decode cX12_at 0 = .ok (.iload_n 1, 1) := by decide +kernel
theorem dX12_at_1 : decode cX12_at 1 = .ok (.invokestatic 73, 3) := by decide +kernel
theorem dX12_at_4 : decode cX12_at 4 = .ok (.ifCond .eq 18, 3) := by decide +kernel
theorem dX12_at_7 : decode cX12_at 7 = .ok (.iload_n 2, 1) := by decide +kernel
theorem dX12_at_8 : decode cX12_at 8 = .ok (.iconst 0, 1) := by decide +kernel
theorem dX12_at_9 : decode cX12_at 9 = .ok (.aload_n 0, 1) := by decide +kernel
theorem dX12_at_10 : decode cX12_at 10 = .ok (.iload_n 1, 1) := by decide +kernel
theorem dX12_at_11 : decode cX12_at 11 = .ok (.invokevirtual 131, 3) := by decide +kernel
theorem dX12_at_14 : decode cX12_at 14 = .ok (.iconst 1, 1) := by decide +kernel
theorem dX12_at_15 : decode cX12_at 15 = .ok (.isub, 1) := by decide +kernel
theorem dX12_at_16 : decode cX12_at 16 = .ok (.invokestatic 68, 3) := by decide +kernel
theorem dX12_at_19 : decode cX12_at 19 = .ok (.ifCond .ne 6, 3) := by decide +kernel
theorem dX12_at_22 : decode cX12_at 22 = .ok (.bipush (-2), 2) := by decide +kernel
theorem dX12_at_24 : decode cX12_at 24 = .ok (.ireturn, 1) := by decide +kernel
theorem dX12_at_25 : decode cX12_at 25 = .ok (.aload_n 0, 1) := by decide +kernel
theorem dX12_at_26 : decode cX12_at 26 = .ok (.iload_n 1, 1) := by decide +kernel
theorem dX12_at_27 : decode cX12_at 27 = .ok (.aload_n 0, 1) := by decide +kernel
theorem dX12_at_28 : decode cX12_at 28 = .ok (.iload_n 1, 1) := by decide +kernel
theorem dX12_at_29 : decode cX12_at 29 = .ok (.iload_n 2, 1) := by decide +kernel
theorem dX12_at_30 : decode cX12_at 30 = .ok (.invokevirtual 164, 3) := by decide +kernel
theorem dX12_at_33 : decode cX12_at 33 = .ok (.invokevirtual 224, 3) := by decide +kernel
theorem dX12_at_36 : decode cX12_at 36 = .ok (.aload_n 0, 1) := by decide +kernel
theorem dX12_at_37 : decode cX12_at 37 = .ok (.iload_n 1, 1) := by decide +kernel
theorem dX12_at_38 : decode cX12_at 38 = .ok (.iload_n 2, 1) := by decide +kernel
theorem dX12_at_39 : decode cX12_at 39 = .ok (.invokevirtual 103, 3) := by decide +kernel
theorem dX12_at_42 : decode cX12_at 42 = .ok (.ireturn, 1) := by decide +kernel
theorem dX12_find_0 : decode cX12_find 0 = .ok (.iload_n 1, 1) := by decide +kernel
theorem dX12_find_1 : decode cX12_find 1 = .ok (.invokestatic 73, 3) := by decide +kernel
theorem dX12_find_4 : decode cX12_find 4 = .ok (.ifCond .eq 19, 3) := by decide +kernel
theorem dX12_find_7 : decode cX12_find 7 = .ok (.iload_n 2, 1) := by decide +kernel
theorem dX12_find_8 : decode cX12_find 8 = .ok (.invokestatic 147, 3) := by decide +kernel
theorem dX12_find_11 : decode cX12_find 11 = .ok (.ifCond .eq 12, 3) := by decide +kernel
theorem dX12_find_14 : decode cX12_find 14 = .ok (.iload_n 3, 1) := by decide +kernel
theorem dX12_find_15 : decode cX12_find 15 = .ok (.iconst 0, 1) := by decide +kernel
theorem dX12_find_16 : decode cX12_find 16 = .ok (.iconst 1, 1) := by decide +kernel
theorem dX12_find_17 : decode cX12_find 17 = .ok (.invokestatic 68, 3) := by decide +kernel
theorem dX12_find_20 : decode cX12_find 20 = .ok (.ifCond .ne 6, 3) := by decide +kernel
theorem dX12_find_23 : decode cX12_find 23 = .ok (.bipush (-2), 2) := by decide +kernel
theorem dX12_find_25 : decode cX12_find 25 = .ok (.ireturn, 1) := by decide +kernel
theorem dX12_find_26 : decode cX12_find 26 = .ok (.aload_n 0, 1) := by decide +kernel
theorem dX12_find_27 : decode cX12_find 27 = .ok (.iload_n 1, 1) := by decide +kernel
theorem dX12_find_28 : decode cX12_find 28 = .ok (.iload_n 2, 1) := by decide +kernel
theorem dX12_find_29 : decode cX12_find 29 = .ok (.invokevirtual 158, 3) := by decide +kernel
theorem dX12_find_32 : decode cX12_find 32 = .ok (.istore 4, 2) := by decide +kernel
theorem dX12_find_34 : decode cX12_find 34 = .ok (.iload 4, 2) := by decide +kernel
theorem dX12_find_36 : decode cX12_find 36 = .ok (.iconst (-1), 1) := by decide +kernel
theorem dX12_find_37 : decode cX12_find 37 = .ok (.if_icmp .eq 10, 3) := by decide +kernel
theorem dX12_find_40 : decode cX12_find 40 = .ok (.aload_n 0, 1) := by decide +kernel
theorem dX12_find_41 : decode cX12_find 41 = .ok (.iload_n 1, 1) := by decide +kernel
theorem dX12_find_42 : decode cX12_find 42 = .ok (.iload 4, 2) := by decide +kernel
theorem dX12_find_44 : decode cX12_find 44 = .ok (.invokevirtual 224, 3) := by decide +kernel
theorem dX12_find_47 : decode cX12_find 47 = .ok (.aload_n 0, 1) := by decide +kernel
theorem dX12_find_48 : decode cX12_find 48 = .ok (.iload_n 1, 1) := by decide +kernel
theorem dX12_find_49 : decode cX12_find 49 = .ok (.iload_n 2, 1) := by decide +kernel
theorem dX12_find_50 : decode cX12_find 50 = .ok (.invokevirtual 144, 3) := by decide +kernel
theorem dX12_find_53 : decode cX12_find 53 = .ok (.istore 5, 2) := by decide +kernel
theorem dX12_find_55 : decode cX12_find 55 = .ok (.iload 5, 2) := by decide +kernel
theorem dX12_find_57 : decode cX12_find 57 = .ok (.aload_n 0, 1) := by decide +kernel
theorem dX12_find_58 : decode cX12_find 58 = .ok (.iload_n 1, 1) := by decide +kernel
theorem dX12_find_59 : decode cX12_find 59 = .ok (.invokevirtual 131, 3) := by decide +kernel
theorem dX12_find_62 : decode cX12_find 62 = .ok (.if_icmp .ne 7, 3) := by decide +kernel
theorem dX12_find_65 : decode cX12_find 65 = .ok (.iconst (-1), 1) := by decide +kernel
theorem dX12_find_66 : decode cX12_find 66 = .ok (.goto 19, 3) := by decide +kernel
theorem dX12_find_69 : decode cX12_find 69 = .ok (.iload_n 3, 1) := by decide +kernel
theorem dX12_find_70 : decode cX12_find 70 = .ok (.ifCond .ne 8, 3) := by decide +kernel
theorem dX12_find_73 : decode cX12_find 73 = .ok (.iload 5, 2) := by decide +kernel
theorem dX12_find_75 : decode cX12_find 75 = .ok (.goto 10, 3) := by decide +kernel
theorem dX12_find_78 : decode cX12_find 78 = .ok (.aload_n 0, 1) := by decide +kernel
theorem dX12_find_79 : decode cX12_find 79 = .ok (.iload_n 1, 1) := by decide +kernel
theorem dX12_find_80 : decode cX12_find 80 = .ok (.iload 5, 2) := by decide +kernel
theorem dX12_find_82 : decode cX12_find 82 = .ok (.invokevirtual 103, 3) := by decide +kernel
theorem dX12_find_85 : decode cX12_find 85 = .ok (.ireturn, 1) := by decide +kernel
theorem dX12_cached_0 : decode cX12_cached 0 = .ok (.aload_n 0, 1) := by decide +kernel
theorem dX12_cached_1 : decode cX12_cached 1 = .ok (.iload_n 1, 1) := by decide +kernel
theorem dX12_cached_2 : decode cX12_cached 2 = .ok (.iload_n 2, 1) := by decide +kernel
theorem dX12_cached_3 : decode cX12_cached 3 = .ok (.invokevirtual 216, 3) := by decide +kernel
theorem dX12_cached_6 : decode cX12_cached 6 = .ok (.ifCond .ne 6, 3) := by decide +kernel
theorem dX12_cached_9 : decode cX12_cached 9 = .ok (.bipush (-2), 2) := by decide +kernel
theorem dX12_cached_11 : decode cX12_cached 11 = .ok (.ireturn, 1) := by decide +kernel
theorem dX12_cached_12 : decode cX12_cached 12 = .ok (.aload_n 0, 1) := by decide +kernel
theorem dX12_cached_13 : decode cX12_cached 13 = .ok (.iload_n 1, 1) := by decide +kernel
theorem dX12_cached_14 : decode cX12_cached 14 = .ok (.iload_n 2, 1) := by decide +kernel
theorem dX12_cached_15 : decode cX12_cached 15 = .ok (.invokevirtual 94, 3) := by decide +kernel
theorem dX12_cached_18 : decode cX12_cached 18 = .ok (.iconst (-1), 1) := by decide +kernel
theorem dX12_cached_19 : decode cX12_cached 19 = .ok (.if_icmp .ne 7, 3) := by decide +kernel
theorem dX12_cached_22 : decode cX12_cached 22 = .ok (.iconst 0, 1) := by decide +kernel
theorem dX12_cached_23 : decode cX12_cached 23 = .ok (.goto 4, 3) := by decide +kernel
theorem dX12_cached_26 : decode cX12_cached 26 = .ok (.iconst 1, 1) := by decide +kernel
theorem dX12_cached_27 : decode cX12_cached 27 = .ok (.ireturn, 1) := by decide +kernel
theorem dX12_probe_0 : decode cX12_probe 0 = .ok (.aload_n 0, 1) := by decide +kernel
theorem dX12_probe_1 : decode cX12_probe 1 = .ok (.dup, 1) := by decide +kernel
theorem dX12_probe_2 : decode cX12_probe 2 = .ok (.getfield 227, 3) := by decide +kernel
theorem dX12_probe_5 : decode cX12_probe 5 = .ok (.iconst 1, 1) := by decide +kernel
theorem dX12_probe_6 : decode cX12_probe 6 = .ok (.iadd, 1) := by decide +kernel
theorem dX12_probe_7 : decode cX12_probe 7 = .ok (.putfield 227, 3) := by decide +kernel
theorem dX12_probe_10 : decode cX12_probe 10 = .ok (.aload_n 0, 1) := by decide +kernel
theorem dX12_probe_11 : decode cX12_probe 11 = .ok (.getfield 53, 3) := by decide +kernel
theorem dX12_probe_14 : decode cX12_probe 14 = .ok (.sipush 1200, 3) := by decide +kernel
theorem dX12_probe_17 : decode cX12_probe 17 = .ok (.iload_n 1, 1) := by decide +kernel
theorem dX12_probe_18 : decode cX12_probe 18 = .ok (.imul, 1) := by decide +kernel
theorem dX12_probe_19 : decode cX12_probe 19 = .ok (.iload_n 2, 1) := by decide +kernel
theorem dX12_probe_20 : decode cX12_probe 20 = .ok (.iadd, 1) := by decide +kernel
theorem dX12_probe_21 : decode cX12_probe 21 = .ok (.iaload, 1) := by decide +kernel
theorem dX12_probe_22 : decode cX12_probe 22 = .ok (.iload_n 3, 1) := by decide +kernel
theorem dX12_probe_23 : decode cX12_probe 23 = .ok (.if_icmp .lt 7, 3) := by decide +kernel
theorem dX12_probe_26 : decode cX12_probe 26 = .ok (.iconst 1, 1) := by decide +kernel
theorem dX12_probe_27 : decode cX12_probe 27 = .ok (.goto 4, 3) := by decide +kernel
theorem dX12_probe_30 : decode cX12_probe 30 = .ok (.iconst 0, 1) := by decide +kernel
theorem dX12_probe_31 : decode cX12_probe 31 = .ok (.ireturn, 1) := by decide +kernel
theorem dX12_gallops_0 : decode cX12_gallops 0 = .ok (.aload_n 0, 1) := by decide +kernel
theorem dX12_gallops_1 : decode cX12_gallops 1 = .ok (.iload_n 1, 1) := by decide +kernel
theorem dX12_gallops_2 : decode cX12_gallops 2 = .ok (.iload_n 2, 1) := by decide +kernel
theorem dX12_gallops_3 : decode cX12_gallops 3 = .ok (.iload_n 3, 1) := by decide +kernel
theorem dX12_gallops_4 : decode cX12_gallops 4 = .ok (.invokevirtual 230, 3) := by decide +kernel
theorem dX12_gallops_7 : decode cX12_gallops 7 = .ok (.ifCond .eq 5, 3) := by decide +kernel
theorem dX12_gallops_10 : decode cX12_gallops 10 = .ok (.iload_n 2, 1) := by decide +kernel
theorem dX12_gallops_11 : decode cX12_gallops 11 = .ok (.ireturn, 1) := by decide +kernel
theorem dX12_gallops_12 : decode cX12_gallops 12 = .ok (.iload_n 2, 1) := by decide +kernel
theorem dX12_gallops_13 : decode cX12_gallops 13 = .ok (.istore 4, 2) := by decide +kernel
theorem dX12_gallops_15 : decode cX12_gallops 15 = .ok (.iconst 1, 1) := by decide +kernel
theorem dX12_gallops_16 : decode cX12_gallops 16 = .ok (.istore 5, 2) := by decide +kernel
theorem dX12_gallops_18 : decode cX12_gallops 18 = .ok (.aload_n 0, 1) := by decide +kernel
theorem dX12_gallops_19 : decode cX12_gallops 19 = .ok (.getfield 56, 3) := by decide +kernel
theorem dX12_gallops_22 : decode cX12_gallops 22 = .ok (.iload_n 1, 1) := by decide +kernel
theorem dX12_gallops_23 : decode cX12_gallops 23 = .ok (.iaload, 1) := by decide +kernel
theorem dX12_gallops_24 : decode cX12_gallops 24 = .ok (.istore 6, 2) := by decide +kernel
theorem dX12_gallops_26 : decode cX12_gallops 26 = .ok (.iload_n 2, 1) := by decide +kernel
theorem dX12_gallops_27 : decode cX12_gallops 27 = .ok (.iload 5, 2) := by decide +kernel
theorem dX12_gallops_29 : decode cX12_gallops 29 = .ok (.iadd, 1) := by decide +kernel
theorem dX12_gallops_30 : decode cX12_gallops 30 = .ok (.aload_n 0, 1) := by decide +kernel
theorem dX12_gallops_31 : decode cX12_gallops 31 = .ok (.getfield 56, 3) := by decide +kernel
theorem dX12_gallops_34 : decode cX12_gallops 34 = .ok (.iload_n 1, 1) := by decide +kernel
theorem dX12_gallops_35 : decode cX12_gallops 35 = .ok (.iaload, 1) := by decide +kernel
theorem dX12_gallops_36 : decode cX12_gallops 36 = .ok (.if_icmp .ge 7, 3) := by decide +kernel
theorem dX12_gallops_39 : decode cX12_gallops 39 = .ok (.iconst 1, 1) := by decide +kernel
theorem dX12_gallops_40 : decode cX12_gallops 40 = .ok (.goto 4, 3) := by decide +kernel
theorem dX12_gallops_43 : decode cX12_gallops 43 = .ok (.iconst 0, 1) := by decide +kernel
theorem dX12_gallops_44 : decode cX12_gallops 44 = .ok (.istore 7, 2) := by decide +kernel
theorem dX12_gallops_46 : decode cX12_gallops 46 = .ok (.iload 7, 2) := by decide +kernel
theorem dX12_gallops_48 : decode cX12_gallops 48 = .ok (.ifCond .eq 91, 3) := by decide +kernel
theorem dX12_gallops_51 : decode cX12_gallops 51 = .ok (.iload_n 2, 1) := by decide +kernel
theorem dX12_gallops_52 : decode cX12_gallops 52 = .ok (.iload 5, 2) := by decide +kernel
theorem dX12_gallops_54 : decode cX12_gallops 54 = .ok (.iadd, 1) := by decide +kernel
theorem dX12_gallops_55 : decode cX12_gallops 55 = .ok (.istore 8, 2) := by decide +kernel
theorem dX12_gallops_57 : decode cX12_gallops 57 = .ok (.aload_n 0, 1) := by decide +kernel
theorem dX12_gallops_58 : decode cX12_gallops 58 = .ok (.iload_n 1, 1) := by decide +kernel
theorem dX12_gallops_59 : decode cX12_gallops 59 = .ok (.iload 8, 2) := by decide +kernel
theorem dX12_gallops_61 : decode cX12_gallops 61 = .ok (.iload_n 3, 1) := by decide +kernel
theorem dX12_gallops_62 : decode cX12_gallops 62 = .ok (.invokevirtual 230, 3) := by decide +kernel
theorem dX12_gallops_65 : decode cX12_gallops 65 = .ok (.istore 9, 2) := by decide +kernel
theorem dX12_gallops_67 : decode cX12_gallops 67 = .ok (.iload 9, 2) := by decide +kernel
theorem dX12_gallops_69 : decode cX12_gallops 69 = .ok (.ifCond .eq 8, 3) := by decide +kernel
theorem dX12_gallops_72 : decode cX12_gallops 72 = .ok (.iload 8, 2) := by decide +kernel
theorem dX12_gallops_74 : decode cX12_gallops 74 = .ok (.goto 5, 3) := by decide +kernel
theorem dX12_gallops_77 : decode cX12_gallops 77 = .ok (.iload 6, 2) := by decide +kernel
theorem dX12_gallops_79 : decode cX12_gallops 79 = .ok (.istore 6, 2) := by decide +kernel
theorem dX12_gallops_81 : decode cX12_gallops 81 = .ok (.iload 9, 2) := by decide +kernel
theorem dX12_gallops_83 : decode cX12_gallops 83 = .ok (.ifCond .eq 8, 3) := by decide +kernel
theorem dX12_gallops_86 : decode cX12_gallops 86 = .ok (.iload 4, 2) := by decide +kernel
theorem dX12_gallops_88 : decode cX12_gallops 88 = .ok (.goto 5, 3) := by decide +kernel
theorem dX12_gallops_91 : decode cX12_gallops 91 = .ok (.iload 8, 2) := by decide +kernel
theorem dX12_gallops_93 : decode cX12_gallops 93 = .ok (.istore 4, 2) := by decide +kernel
theorem dX12_gallops_95 : decode cX12_gallops 95 = .ok (.iload 9, 2) := by decide +kernel
theorem dX12_gallops_97 : decode cX12_gallops 97 = .ok (.ifCond .eq 8, 3) := by decide +kernel
theorem dX12_gallops_100 : decode cX12_gallops 100 = .ok (.iload 5, 2) := by decide +kernel
theorem dX12_gallops_102 : decode cX12_gallops 102 = .ok (.goto 7, 3) := by decide +kernel
theorem dX12_gallops_105 : decode cX12_gallops 105 = .ok (.iconst 2, 1) := by decide +kernel
theorem dX12_gallops_106 : decode cX12_gallops 106 = .ok (.iload 5, 2) := by decide +kernel
theorem dX12_gallops_108 : decode cX12_gallops 108 = .ok (.imul, 1) := by decide +kernel
theorem dX12_gallops_109 : decode cX12_gallops 109 = .ok (.istore 5, 2) := by decide +kernel
theorem dX12_gallops_111 : decode cX12_gallops 111 = .ok (.iload 9, 2) := by decide +kernel
theorem dX12_gallops_113 : decode cX12_gallops 113 = .ok (.ifCond .ne 20, 3) := by decide +kernel
theorem dX12_gallops_116 : decode cX12_gallops 116 = .ok (.iload_n 2, 1) := by decide +kernel
theorem dX12_gallops_117 : decode cX12_gallops 117 = .ok (.iload 5, 2) := by decide +kernel
theorem dX12_gallops_119 : decode cX12_gallops 119 = .ok (.iadd, 1) := by decide +kernel
theorem dX12_gallops_120 : decode cX12_gallops 120 = .ok (.aload_n 0, 1) := by decide +kernel
theorem dX12_gallops_121 : decode cX12_gallops 121 = .ok (.getfield 56, 3) := by decide +kernel
theorem dX12_gallops_124 : decode cX12_gallops 124 = .ok (.iload_n 1, 1) := by decide +kernel
theorem dX12_gallops_125 : decode cX12_gallops 125 = .ok (.iaload, 1) := by decide +kernel
theorem dX12_gallops_126 : decode cX12_gallops 126 = .ok (.if_icmp .ge 7, 3) := by decide +kernel
theorem dX12_gallops_129 : decode cX12_gallops 129 = .ok (.iconst 1, 1) := by decide +kernel
theorem dX12_gallops_130 : decode cX12_gallops 130 = .ok (.goto 4, 3) := by decide +kernel
theorem dX12_gallops_133 : decode cX12_gallops 133 = .ok (.iconst 0, 1) := by decide +kernel
theorem dX12_gallops_134 : decode cX12_gallops 134 = .ok (.istore 7, 2) := by decide +kernel
theorem dX12_gallops_136 : decode cX12_gallops 136 = .ok (.goto (-90), 3) := by decide +kernel
theorem dX12_gallops_139 : decode cX12_gallops 139 = .ok (.iload 4, 2) := by decide +kernel
theorem dX12_gallops_141 : decode cX12_gallops 141 = .ok (.iconst 1, 1) := by decide +kernel
theorem dX12_gallops_142 : decode cX12_gallops 142 = .ok (.iadd, 1) := by decide +kernel
theorem dX12_gallops_143 : decode cX12_gallops 143 = .ok (.iload 6, 2) := by decide +kernel
theorem dX12_gallops_145 : decode cX12_gallops 145 = .ok (.if_icmp .ge 53, 3) := by decide +kernel
theorem dX12_gallops_148 : decode cX12_gallops 148 = .ok (.iload 4, 2) := by decide +kernel
theorem dX12_gallops_150 : decode cX12_gallops 150 = .ok (.iload 6, 2) := by decide +kernel
theorem dX12_gallops_152 : decode cX12_gallops 152 = .ok (.iadd, 1) := by decide +kernel
theorem dX12_gallops_153 : decode cX12_gallops 153 = .ok (.iconst 2, 1) := by decide +kernel
theorem dX12_gallops_154 : decode cX12_gallops 154 = .ok (.idiv, 1) := by decide +kernel
theorem dX12_gallops_155 : decode cX12_gallops 155 = .ok (.istore 8, 2) := by decide +kernel
theorem dX12_gallops_157 : decode cX12_gallops 157 = .ok (.aload_n 0, 1) := by decide +kernel
theorem dX12_gallops_158 : decode cX12_gallops 158 = .ok (.iload_n 1, 1) := by decide +kernel
theorem dX12_gallops_159 : decode cX12_gallops 159 = .ok (.iload 8, 2) := by decide +kernel
theorem dX12_gallops_161 : decode cX12_gallops 161 = .ok (.iload_n 3, 1) := by decide +kernel
theorem dX12_gallops_162 : decode cX12_gallops 162 = .ok (.invokevirtual 230, 3) := by decide +kernel
theorem dX12_gallops_165 : decode cX12_gallops 165 = .ok (.istore 9, 2) := by decide +kernel
theorem dX12_gallops_167 : decode cX12_gallops 167 = .ok (.iload 9, 2) := by decide +kernel
theorem dX12_gallops_169 : decode cX12_gallops 169 = .ok (.ifCond .eq 8, 3) := by decide +kernel
theorem dX12_gallops_172 : decode cX12_gallops 172 = .ok (.iload 8, 2) := by decide +kernel
theorem dX12_gallops_174 : decode cX12_gallops 174 = .ok (.goto 5, 3) := by decide +kernel
theorem dX12_gallops_177 : decode cX12_gallops 177 = .ok (.iload 6, 2) := by decide +kernel
theorem dX12_gallops_179 : decode cX12_gallops 179 = .ok (.istore 6, 2) := by decide +kernel
theorem dX12_gallops_181 : decode cX12_gallops 181 = .ok (.iload 9, 2) := by decide +kernel
theorem dX12_gallops_183 : decode cX12_gallops 183 = .ok (.ifCond .eq 8, 3) := by decide +kernel
theorem dX12_gallops_186 : decode cX12_gallops 186 = .ok (.iload 4, 2) := by decide +kernel
theorem dX12_gallops_188 : decode cX12_gallops 188 = .ok (.goto 5, 3) := by decide +kernel
theorem dX12_gallops_191 : decode cX12_gallops 191 = .ok (.iload 8, 2) := by decide +kernel
theorem dX12_gallops_193 : decode cX12_gallops 193 = .ok (.istore 4, 2) := by decide +kernel
theorem dX12_gallops_195 : decode cX12_gallops 195 = .ok (.goto (-56), 3) := by decide +kernel
theorem dX12_gallops_198 : decode cX12_gallops 198 = .ok (.iload 6, 2) := by decide +kernel
theorem dX12_gallops_200 : decode cX12_gallops 200 = .ok (.ireturn, 1) := by decide +kernel
theorem dX12_puts_0 : decode cX12_puts 0 = .ok (.aload_n 0, 1) := by decide +kernel
theorem dX12_puts_1 : decode cX12_puts 1 = .ok (.getfield 59, 3) := by decide +kernel
theorem dX12_puts_4 : decode cX12_puts 4 = .ok (.aload_n 0, 1) := by decide +kernel
theorem dX12_puts_5 : decode cX12_puts 5 = .ok (.getfield 233, 3) := by decide +kernel
theorem dX12_puts_8 : decode cX12_puts 8 = .ok (.iload_n 1, 1) := by decide +kernel
theorem dX12_puts_9 : decode cX12_puts 9 = .ok (.iastore, 1) := by decide +kernel
theorem dX12_puts_10 : decode cX12_puts 10 = .ok (.aload_n 0, 1) := by decide +kernel
theorem dX12_puts_11 : decode cX12_puts 11 = .ok (.dup, 1) := by decide +kernel
theorem dX12_puts_12 : decode cX12_puts 12 = .ok (.getfield 233, 3) := by decide +kernel
theorem dX12_puts_15 : decode cX12_puts 15 = .ok (.iconst 1, 1) := by decide +kernel
theorem dX12_puts_16 : decode cX12_puts 16 = .ok (.iadd, 1) := by decide +kernel
theorem dX12_puts_17 : decode cX12_puts 17 = .ok (.putfield 233, 3) := by decide +kernel
theorem dX12_puts_20 : decode cX12_puts 20 = .ok (.return_, 1) := by decide +kernel
theorem dX12_intersects_0 : decode cX12_intersects 0 = .ok (.aload_n 0, 1) := by decide +kernel
theorem dX12_intersects_1 : decode cX12_intersects 1 = .ok (.iconst 0, 1) := by decide +kernel
theorem dX12_intersects_2 : decode cX12_intersects 2 = .ok (.putfield 233, 3) := by decide +kernel
theorem dX12_intersects_5 : decode cX12_intersects 5 = .ok (.iconst 0, 1) := by decide +kernel
theorem dX12_intersects_6 : decode cX12_intersects 6 = .ok (.istore_n 3, 1) := by decide +kernel
theorem dX12_intersects_7 : decode cX12_intersects 7 = .ok (.iconst 0, 1) := by decide +kernel
theorem dX12_intersects_8 : decode cX12_intersects 8 = .ok (.istore 4, 2) := by decide +kernel
theorem dX12_intersects_10 : decode cX12_intersects 10 = .ok (.iload_n 3, 1) := by decide +kernel
theorem dX12_intersects_11 : decode cX12_intersects 11 = .ok (.aload_n 0, 1) := by decide +kernel
theorem dX12_intersects_12 : decode cX12_intersects 12 = .ok (.getfield 56, 3) := by decide +kernel
theorem dX12_intersects_15 : decode cX12_intersects 15 = .ok (.iload_n 1, 1) := by decide +kernel
theorem dX12_intersects_16 : decode cX12_intersects 16 = .ok (.iaload, 1) := by decide +kernel
theorem dX12_intersects_17 : decode cX12_intersects 17 = .ok (.if_icmp .ge 98, 3) := by decide +kernel
theorem dX12_intersects_20 : decode cX12_intersects 20 = .ok (.iload 4, 2) := by decide +kernel
theorem dX12_intersects_22 : decode cX12_intersects 22 = .ok (.aload_n 0, 1) := by decide +kernel
theorem dX12_intersects_23 : decode cX12_intersects 23 = .ok (.getfield 56, 3) := by decide +kernel
theorem dX12_intersects_26 : decode cX12_intersects 26 = .ok (.iload_n 2, 1) := by decide +kernel
theorem dX12_intersects_27 : decode cX12_intersects 27 = .ok (.iaload, 1) := by decide +kernel
theorem dX12_intersects_28 : decode cX12_intersects 28 = .ok (.if_icmp .ge 87, 3) := by decide +kernel
theorem dX12_intersects_31 : decode cX12_intersects 31 = .ok (.aload_n 0, 1) := by decide +kernel
theorem dX12_intersects_32 : decode cX12_intersects 32 = .ok (.getfield 53, 3) := by decide +kernel
theorem dX12_intersects_35 : decode cX12_intersects 35 = .ok (.sipush 1200, 3) := by decide +kernel
theorem dX12_intersects_38 : decode cX12_intersects 38 = .ok (.iload_n 1, 1) := by decide +kernel
theorem dX12_intersects_39 : decode cX12_intersects 39 = .ok (.imul, 1) := by decide +kernel
theorem dX12_intersects_40 : decode cX12_intersects 40 = .ok (.iload_n 3, 1) := by decide +kernel
theorem dX12_intersects_41 : decode cX12_intersects 41 = .ok (.iadd, 1) := by decide +kernel
theorem dX12_intersects_42 : decode cX12_intersects 42 = .ok (.iaload, 1) := by decide +kernel
theorem dX12_intersects_43 : decode cX12_intersects 43 = .ok (.istore 5, 2) := by decide +kernel
theorem dX12_intersects_45 : decode cX12_intersects 45 = .ok (.aload_n 0, 1) := by decide +kernel
theorem dX12_intersects_46 : decode cX12_intersects 46 = .ok (.getfield 53, 3) := by decide +kernel
theorem dX12_intersects_49 : decode cX12_intersects 49 = .ok (.sipush 1200, 3) := by decide +kernel
theorem dX12_intersects_52 : decode cX12_intersects 52 = .ok (.iload_n 2, 1) := by decide +kernel
theorem dX12_intersects_53 : decode cX12_intersects 53 = .ok (.imul, 1) := by decide +kernel
theorem dX12_intersects_54 : decode cX12_intersects 54 = .ok (.iload 4, 2) := by decide +kernel
theorem dX12_intersects_56 : decode cX12_intersects 56 = .ok (.iadd, 1) := by decide +kernel
theorem dX12_intersects_57 : decode cX12_intersects 57 = .ok (.iaload, 1) := by decide +kernel
theorem dX12_intersects_58 : decode cX12_intersects 58 = .ok (.istore 6, 2) := by decide +kernel
theorem dX12_intersects_60 : decode cX12_intersects 60 = .ok (.iload 5, 2) := by decide +kernel
theorem dX12_intersects_62 : decode cX12_intersects 62 = .ok (.iload 6, 2) := by decide +kernel
theorem dX12_intersects_64 : decode cX12_intersects 64 = .ok (.if_icmp .ne 18, 3) := by decide +kernel
theorem dX12_intersects_67 : decode cX12_intersects 67 = .ok (.aload_n 0, 1) := by decide +kernel
theorem dX12_intersects_68 : decode cX12_intersects 68 = .ok (.iload 5, 2) := by decide +kernel
theorem dX12_intersects_70 : decode cX12_intersects 70 = .ok (.invokevirtual 236, 3) := by decide +kernel
theorem dX12_intersects_73 : decode cX12_intersects 73 = .ok (.iinc 3 1, 3) := by decide +kernel
theorem dX12_intersects_76 : decode cX12_intersects 76 = .ok (.iinc 4 1, 3) := by decide +kernel
theorem dX12_intersects_79 : decode cX12_intersects 79 = .ok (.goto 33, 3) := by decide +kernel
theorem dX12_intersects_82 : decode cX12_intersects 82 = .ok (.iload 5, 2) := by decide +kernel
theorem dX12_intersects_84 : decode cX12_intersects 84 = .ok (.iload 6, 2) := by decide +kernel
theorem dX12_intersects_86 : decode cX12_intersects 86 = .ok (.if_icmp .ge 15, 3) := by decide +kernel
theorem dX12_intersects_89 : decode cX12_intersects 89 = .ok (.aload_n 0, 1) := by decide +kernel
theorem dX12_intersects_90 : decode cX12_intersects 90 = .ok (.iload_n 1, 1) := by decide +kernel
theorem dX12_intersects_91 : decode cX12_intersects 91 = .ok (.iload_n 3, 1) := by decide +kernel
theorem dX12_intersects_92 : decode cX12_intersects 92 = .ok (.iload 6, 2) := by decide +kernel
theorem dX12_intersects_94 : decode cX12_intersects 94 = .ok (.invokevirtual 239, 3) := by decide +kernel
theorem dX12_intersects_97 : decode cX12_intersects 97 = .ok (.istore_n 3, 1) := by decide +kernel
theorem dX12_intersects_98 : decode cX12_intersects 98 = .ok (.goto 14, 3) := by decide +kernel
theorem dX12_intersects_101 : decode cX12_intersects 101 = .ok (.aload_n 0, 1) := by decide +kernel
theorem dX12_intersects_102 : decode cX12_intersects 102 = .ok (.iload_n 2, 1) := by decide +kernel
theorem dX12_intersects_103 : decode cX12_intersects 103 = .ok (.iload 4, 2) := by decide +kernel
theorem dX12_intersects_105 : decode cX12_intersects 105 = .ok (.iload 5, 2) := by decide +kernel
theorem dX12_intersects_107 : decode cX12_intersects 107 = .ok (.invokevirtual 239, 3) := by decide +kernel
theorem dX12_intersects_110 : decode cX12_intersects 110 = .ok (.istore 4, 2) := by decide +kernel
theorem dX12_intersects_112 : decode cX12_intersects 112 = .ok (.goto (-102), 3) := by decide +kernel
theorem dX12_intersects_115 : decode cX12_intersects 115 = .ok (.return_, 1) := by decide +kernel
theorem dX12_merges_0 : decode cX12_merges 0 = .ok (.aload_n 0, 1) := by decide +kernel
theorem dX12_merges_1 : decode cX12_merges 1 = .ok (.iconst 0, 1) := by decide +kernel
theorem dX12_merges_2 : decode cX12_merges 2 = .ok (.putfield 233, 3) := by decide +kernel
theorem dX12_merges_5 : decode cX12_merges 5 = .ok (.iconst 0, 1) := by decide +kernel
theorem dX12_merges_6 : decode cX12_merges 6 = .ok (.istore 4, 2) := by decide +kernel
theorem dX12_merges_8 : decode cX12_merges 8 = .ok (.iconst 0, 1) := by decide +kernel
theorem dX12_merges_9 : decode cX12_merges 9 = .ok (.istore 5, 2) := by decide +kernel
theorem dX12_merges_11 : decode cX12_merges 11 = .ok (.iload 4, 2) := by decide +kernel
theorem dX12_merges_13 : decode cX12_merges 13 = .ok (.aload_n 0, 1) := by decide +kernel
theorem dX12_merges_14 : decode cX12_merges 14 = .ok (.getfield 56, 3) := by decide +kernel
theorem dX12_merges_17 : decode cX12_merges 17 = .ok (.iload_n 1, 1) := by decide +kernel
theorem dX12_merges_18 : decode cX12_merges 18 = .ok (.iaload, 1) := by decide +kernel
theorem dX12_merges_19 : decode cX12_merges 19 = .ok (.if_icmp .lt 14, 3) := by decide +kernel
theorem dX12_merges_22 : decode cX12_merges 22 = .ok (.iload 5, 2) := by decide +kernel
theorem dX12_merges_24 : decode cX12_merges 24 = .ok (.aload_n 0, 1) := by decide +kernel
theorem dX12_merges_25 : decode cX12_merges 25 = .ok (.getfield 56, 3) := by decide +kernel
theorem dX12_merges_28 : decode cX12_merges 28 = .ok (.iload_n 2, 1) := by decide +kernel
theorem dX12_merges_29 : decode cX12_merges 29 = .ok (.iaload, 1) := by decide +kernel
theorem dX12_merges_30 : decode cX12_merges 30 = .ok (.if_icmp .ge 238, 3) := by decide +kernel
theorem dX12_merges_33 : decode cX12_merges 33 = .ok (.iload 4, 2) := by decide +kernel
theorem dX12_merges_35 : decode cX12_merges 35 = .ok (.aload_n 0, 1) := by decide +kernel
theorem dX12_merges_36 : decode cX12_merges 36 = .ok (.getfield 56, 3) := by decide +kernel
theorem dX12_merges_39 : decode cX12_merges 39 = .ok (.iload_n 1, 1) := by decide +kernel
theorem dX12_merges_40 : decode cX12_merges 40 = .ok (.iaload, 1) := by decide +kernel
theorem dX12_merges_41 : decode cX12_merges 41 = .ok (.if_icmp .ge 47, 3) := by decide +kernel
theorem dX12_merges_44 : decode cX12_merges 44 = .ok (.iload 5, 2) := by decide +kernel
theorem dX12_merges_46 : decode cX12_merges 46 = .ok (.aload_n 0, 1) := by decide +kernel
theorem dX12_merges_47 : decode cX12_merges 47 = .ok (.getfield 56, 3) := by decide +kernel
theorem dX12_merges_50 : decode cX12_merges 50 = .ok (.iload_n 2, 1) := by decide +kernel
theorem dX12_merges_51 : decode cX12_merges 51 = .ok (.iaload, 1) := by decide +kernel
theorem dX12_merges_52 : decode cX12_merges 52 = .ok (.if_icmp .eq 32, 3) := by decide +kernel
theorem dX12_merges_55 : decode cX12_merges 55 = .ok (.aload_n 0, 1) := by decide +kernel
theorem dX12_merges_56 : decode cX12_merges 56 = .ok (.getfield 53, 3) := by decide +kernel
theorem dX12_merges_59 : decode cX12_merges 59 = .ok (.sipush 1200, 3) := by decide +kernel
theorem dX12_merges_62 : decode cX12_merges 62 = .ok (.iload_n 1, 1) := by decide +kernel
theorem dX12_merges_63 : decode cX12_merges 63 = .ok (.imul, 1) := by decide +kernel
theorem dX12_merges_64 : decode cX12_merges 64 = .ok (.iload 4, 2) := by decide +kernel
theorem dX12_merges_66 : decode cX12_merges 66 = .ok (.iadd, 1) := by decide +kernel
theorem dX12_merges_67 : decode cX12_merges 67 = .ok (.iaload, 1) := by decide +kernel
theorem dX12_merges_68 : decode cX12_merges 68 = .ok (.aload_n 0, 1) := by decide +kernel
theorem dX12_merges_69 : decode cX12_merges 69 = .ok (.getfield 53, 3) := by decide +kernel
theorem dX12_merges_72 : decode cX12_merges 72 = .ok (.sipush 1200, 3) := by decide +kernel
theorem dX12_merges_75 : decode cX12_merges 75 = .ok (.iload_n 2, 1) := by decide +kernel
theorem dX12_merges_76 : decode cX12_merges 76 = .ok (.imul, 1) := by decide +kernel
theorem dX12_merges_77 : decode cX12_merges 77 = .ok (.iload 5, 2) := by decide +kernel
theorem dX12_merges_79 : decode cX12_merges 79 = .ok (.iadd, 1) := by decide +kernel
theorem dX12_merges_80 : decode cX12_merges 80 = .ok (.iaload, 1) := by decide +kernel
theorem dX12_merges_81 : decode cX12_merges 81 = .ok (.if_icmp .gt 7, 3) := by decide +kernel
theorem dX12_merges_84 : decode cX12_merges 84 = .ok (.iconst 1, 1) := by decide +kernel
theorem dX12_merges_85 : decode cX12_merges 85 = .ok (.goto 4, 3) := by decide +kernel
theorem dX12_merges_88 : decode cX12_merges 88 = .ok (.iconst 0, 1) := by decide +kernel
theorem dX12_merges_89 : decode cX12_merges 89 = .ok (.istore 6, 2) := by decide +kernel
theorem dX12_merges_91 : decode cX12_merges 91 = .ok (.iload 5, 2) := by decide +kernel
theorem dX12_merges_93 : decode cX12_merges 93 = .ok (.aload_n 0, 1) := by decide +kernel
theorem dX12_merges_94 : decode cX12_merges 94 = .ok (.getfield 56, 3) := by decide +kernel
theorem dX12_merges_97 : decode cX12_merges 97 = .ok (.iload_n 2, 1) := by decide +kernel
theorem dX12_merges_98 : decode cX12_merges 98 = .ok (.iaload, 1) := by decide +kernel
theorem dX12_merges_99 : decode cX12_merges 99 = .ok (.if_icmp .ge 47, 3) := by decide +kernel
theorem dX12_merges_102 : decode cX12_merges 102 = .ok (.iload 4, 2) := by decide +kernel
theorem dX12_merges_104 : decode cX12_merges 104 = .ok (.aload_n 0, 1) := by decide +kernel
theorem dX12_merges_105 : decode cX12_merges 105 = .ok (.getfield 56, 3) := by decide +kernel
theorem dX12_merges_108 : decode cX12_merges 108 = .ok (.iload_n 1, 1) := by decide +kernel
theorem dX12_merges_109 : decode cX12_merges 109 = .ok (.iaload, 1) := by decide +kernel
theorem dX12_merges_110 : decode cX12_merges 110 = .ok (.if_icmp .eq 32, 3) := by decide +kernel
theorem dX12_merges_113 : decode cX12_merges 113 = .ok (.aload_n 0, 1) := by decide +kernel
theorem dX12_merges_114 : decode cX12_merges 114 = .ok (.getfield 53, 3) := by decide +kernel
theorem dX12_merges_117 : decode cX12_merges 117 = .ok (.sipush 1200, 3) := by decide +kernel
theorem dX12_merges_120 : decode cX12_merges 120 = .ok (.iload_n 2, 1) := by decide +kernel
theorem dX12_merges_121 : decode cX12_merges 121 = .ok (.imul, 1) := by decide +kernel
theorem dX12_merges_122 : decode cX12_merges 122 = .ok (.iload 5, 2) := by decide +kernel
theorem dX12_merges_124 : decode cX12_merges 124 = .ok (.iadd, 1) := by decide +kernel
theorem dX12_merges_125 : decode cX12_merges 125 = .ok (.iaload, 1) := by decide +kernel
theorem dX12_merges_126 : decode cX12_merges 126 = .ok (.aload_n 0, 1) := by decide +kernel
theorem dX12_merges_127 : decode cX12_merges 127 = .ok (.getfield 53, 3) := by decide +kernel
theorem dX12_merges_130 : decode cX12_merges 130 = .ok (.sipush 1200, 3) := by decide +kernel
theorem dX12_merges_133 : decode cX12_merges 133 = .ok (.iload_n 1, 1) := by decide +kernel
theorem dX12_merges_134 : decode cX12_merges 134 = .ok (.imul, 1) := by decide +kernel
theorem dX12_merges_135 : decode cX12_merges 135 = .ok (.iload 4, 2) := by decide +kernel
theorem dX12_merges_137 : decode cX12_merges 137 = .ok (.iadd, 1) := by decide +kernel
theorem dX12_merges_138 : decode cX12_merges 138 = .ok (.iaload, 1) := by decide +kernel
theorem dX12_merges_139 : decode cX12_merges 139 = .ok (.if_icmp .gt 7, 3) := by decide +kernel
theorem dX12_merges_142 : decode cX12_merges 142 = .ok (.iconst 1, 1) := by decide +kernel
theorem dX12_merges_143 : decode cX12_merges 143 = .ok (.goto 4, 3) := by decide +kernel
theorem dX12_merges_146 : decode cX12_merges 146 = .ok (.iconst 0, 1) := by decide +kernel
theorem dX12_merges_147 : decode cX12_merges 147 = .ok (.istore 7, 2) := by decide +kernel
theorem dX12_merges_149 : decode cX12_merges 149 = .ok (.iload 6, 2) := by decide +kernel
theorem dX12_merges_151 : decode cX12_merges 151 = .ok (.ifCond .eq 19, 3) := by decide +kernel
theorem dX12_merges_154 : decode cX12_merges 154 = .ok (.aload_n 0, 1) := by decide +kernel
theorem dX12_merges_155 : decode cX12_merges 155 = .ok (.getfield 53, 3) := by decide +kernel
theorem dX12_merges_158 : decode cX12_merges 158 = .ok (.sipush 1200, 3) := by decide +kernel
theorem dX12_merges_161 : decode cX12_merges 161 = .ok (.iload_n 1, 1) := by decide +kernel
theorem dX12_merges_162 : decode cX12_merges 162 = .ok (.imul, 1) := by decide +kernel
theorem dX12_merges_163 : decode cX12_merges 163 = .ok (.iload 4, 2) := by decide +kernel
theorem dX12_merges_165 : decode cX12_merges 165 = .ok (.iadd, 1) := by decide +kernel
theorem dX12_merges_166 : decode cX12_merges 166 = .ok (.iaload, 1) := by decide +kernel
theorem dX12_merges_167 : decode cX12_merges 167 = .ok (.goto 16, 3) := by decide +kernel
theorem dX12_merges_170 : decode cX12_merges 170 = .ok (.aload_n 0, 1) := by decide +kernel
theorem dX12_merges_171 : decode cX12_merges 171 = .ok (.getfield 53, 3) := by decide +kernel
theorem dX12_merges_174 : decode cX12_merges 174 = .ok (.sipush 1200, 3) := by decide +kernel
theorem dX12_merges_177 : decode cX12_merges 177 = .ok (.iload_n 2, 1) := by decide +kernel
theorem dX12_merges_178 : decode cX12_merges 178 = .ok (.imul, 1) := by decide +kernel
theorem dX12_merges_179 : decode cX12_merges 179 = .ok (.iload 5, 2) := by decide +kernel
theorem dX12_merges_181 : decode cX12_merges 181 = .ok (.iadd, 1) := by decide +kernel
theorem dX12_merges_182 : decode cX12_merges 182 = .ok (.iaload, 1) := by decide +kernel
theorem dX12_merges_183 : decode cX12_merges 183 = .ok (.istore 8, 2) := by decide +kernel
theorem dX12_merges_185 : decode cX12_merges 185 = .ok (.iload_n 3, 1) := by decide +kernel
theorem dX12_merges_186 : decode cX12_merges 186 = .ok (.bipush 124, 2) := by decide +kernel
theorem dX12_merges_188 : decode cX12_merges 188 = .ok (.if_icmp .eq 29, 3) := by decide +kernel
theorem dX12_merges_191 : decode cX12_merges 191 = .ok (.iload_n 3, 1) := by decide +kernel
theorem dX12_merges_192 : decode cX12_merges 192 = .ok (.bipush 45, 2) := by decide +kernel
theorem dX12_merges_194 : decode cX12_merges 194 = .ok (.if_icmp .ne 16, 3) := by decide +kernel
theorem dX12_merges_197 : decode cX12_merges 197 = .ok (.iload 6, 2) := by decide +kernel
theorem dX12_merges_199 : decode cX12_merges 199 = .ok (.ifCond .eq 22, 3) := by decide +kernel
theorem dX12_merges_202 : decode cX12_merges 202 = .ok (.iload 7, 2) := by decide +kernel
theorem dX12_merges_204 : decode cX12_merges 204 = .ok (.ifCond .ne 17, 3) := by decide +kernel
theorem dX12_merges_207 : decode cX12_merges 207 = .ok (.goto 10, 3) := by decide +kernel
theorem dX12_merges_210 : decode cX12_merges 210 = .ok (.iload 6, 2) := by decide +kernel
theorem dX12_merges_212 : decode cX12_merges 212 = .ok (.iload 7, 2) := by decide +kernel
theorem dX12_merges_214 : decode cX12_merges 214 = .ok (.if_icmp .eq 7, 3) := by decide +kernel
theorem dX12_merges_217 : decode cX12_merges 217 = .ok (.iconst 1, 1) := by decide +kernel
theorem dX12_merges_218 : decode cX12_merges 218 = .ok (.goto 4, 3) := by decide +kernel
theorem dX12_merges_221 : decode cX12_merges 221 = .ok (.iconst 0, 1) := by decide +kernel
theorem dX12_merges_222 : decode cX12_merges 222 = .ok (.istore 9, 2) := by decide +kernel
theorem dX12_merges_224 : decode cX12_merges 224 = .ok (.iload 9, 2) := by decide +kernel
theorem dX12_merges_226 : decode cX12_merges 226 = .ok (.ifCond .eq 9, 3) := by decide +kernel
theorem dX12_merges_229 : decode cX12_merges 229 = .ok (.aload_n 0, 1) := by decide +kernel
theorem dX12_merges_230 : decode cX12_merges 230 = .ok (.iload 8, 2) := by decide +kernel
theorem dX12_merges_232 : decode cX12_merges 232 = .ok (.invokevirtual 236, 3) := by decide +kernel
theorem dX12_merges_235 : decode cX12_merges 235 = .ok (.iload 4, 2) := by decide +kernel
theorem dX12_merges_237 : decode cX12_merges 237 = .ok (.iload 6, 2) := by decide +kernel
theorem dX12_merges_239 : decode cX12_merges 239 = .ok (.ifCond .eq 7, 3) := by decide +kernel
theorem dX12_merges_242 : decode cX12_merges 242 = .ok (.iconst 1, 1) := by decide +kernel
theorem dX12_merges_243 : decode cX12_merges 243 = .ok (.goto 4, 3) := by decide +kernel
theorem dX12_merges_246 : decode cX12_merges 246 = .ok (.iconst 0, 1) := by decide +kernel
theorem dX12_merges_247 : decode cX12_merges 247 = .ok (.iadd, 1) := by decide +kernel
theorem dX12_merges_248 : decode cX12_merges 248 = .ok (.istore 4, 2) := by decide +kernel
theorem dX12_merges_250 : decode cX12_merges 250 = .ok (.iload 5, 2) := by decide +kernel
theorem dX12_merges_252 : decode cX12_merges 252 = .ok (.iload 7, 2) := by decide +kernel
theorem dX12_merges_254 : decode cX12_merges 254 = .ok (.ifCond .eq 7, 3) := by decide +kernel
theorem dX12_merges_257 : decode cX12_merges 257 = .ok (.iconst 1, 1) := by decide +kernel
theorem dX12_merges_258 : decode cX12_merges 258 = .ok (.goto 4, 3) := by decide +kernel
theorem dX12_merges_261 : decode cX12_merges 261 = .ok (.iconst 0, 1) := by decide +kernel
theorem dX12_merges_262 : decode cX12_merges 262 = .ok (.iadd, 1) := by decide +kernel
theorem dX12_merges_263 : decode cX12_merges 263 = .ok (.istore 5, 2) := by decide +kernel
theorem dX12_merges_265 : decode cX12_merges 265 = .ok (.goto (-254), 3) := by decide +kernel
theorem dX12_merges_268 : decode cX12_merges 268 = .ok (.return_, 1) := by decide +kernel
theorem dX12_copies_0 : decode cX12_copies 0 = .ok (.aload_n 0, 1) := by decide +kernel
theorem dX12_copies_1 : decode cX12_copies 1 = .ok (.getfield 56, 3) := by decide +kernel
theorem dX12_copies_4 : decode cX12_copies 4 = .ok (.iload_n 2, 1) := by decide +kernel
theorem dX12_copies_5 : decode cX12_copies 5 = .ok (.aload_n 0, 1) := by decide +kernel
theorem dX12_copies_6 : decode cX12_copies 6 = .ok (.iload_n 1, 1) := by decide +kernel
theorem dX12_copies_7 : decode cX12_copies 7 = .ok (.invokevirtual 131, 3) := by decide +kernel
theorem dX12_copies_10 : decode cX12_copies 10 = .ok (.iastore, 1) := by decide +kernel
theorem dX12_copies_11 : decode cX12_copies 11 = .ok (.iconst 0, 1) := by decide +kernel
theorem dX12_copies_12 : decode cX12_copies 12 = .ok (.istore_n 3, 1) := by decide +kernel
theorem dX12_copies_13 : decode cX12_copies 13 = .ok (.iload_n 3, 1) := by decide +kernel
theorem dX12_copies_14 : decode cX12_copies 14 = .ok (.aload_n 0, 1) := by decide +kernel
theorem dX12_copies_15 : decode cX12_copies 15 = .ok (.iload_n 1, 1) := by decide +kernel
theorem dX12_copies_16 : decode cX12_copies 16 = .ok (.invokevirtual 131, 3) := by decide +kernel
theorem dX12_copies_19 : decode cX12_copies 19 = .ok (.if_icmp .ge 27, 3) := by decide +kernel
theorem dX12_copies_22 : decode cX12_copies 22 = .ok (.aload_n 0, 1) := by decide +kernel
theorem dX12_copies_23 : decode cX12_copies 23 = .ok (.getfield 53, 3) := by decide +kernel
theorem dX12_copies_26 : decode cX12_copies 26 = .ok (.sipush 1200, 3) := by decide +kernel
theorem dX12_copies_29 : decode cX12_copies 29 = .ok (.iload_n 2, 1) := by decide +kernel
theorem dX12_copies_30 : decode cX12_copies 30 = .ok (.imul, 1) := by decide +kernel
theorem dX12_copies_31 : decode cX12_copies 31 = .ok (.iload_n 3, 1) := by decide +kernel
theorem dX12_copies_32 : decode cX12_copies 32 = .ok (.iadd, 1) := by decide +kernel
theorem dX12_copies_33 : decode cX12_copies 33 = .ok (.aload_n 0, 1) := by decide +kernel
theorem dX12_copies_34 : decode cX12_copies 34 = .ok (.iload_n 1, 1) := by decide +kernel
theorem dX12_copies_35 : decode cX12_copies 35 = .ok (.iload_n 3, 1) := by decide +kernel
theorem dX12_copies_36 : decode cX12_copies 36 = .ok (.invokevirtual 103, 3) := by decide +kernel
theorem dX12_copies_39 : decode cX12_copies 39 = .ok (.iastore, 1) := by decide +kernel
theorem dX12_copies_40 : decode cX12_copies 40 = .ok (.iinc 3 1, 3) := by decide +kernel
theorem dX12_copies_43 : decode cX12_copies 43 = .ok (.goto (-30), 3) := by decide +kernel
theorem dX12_copies_46 : decode cX12_copies 46 = .ok (.return_, 1) := by decide +kernel
theorem dX12_orders_0 : decode cX12_orders 0 = .ok (.aload_n 0, 1) := by decide +kernel
theorem dX12_orders_1 : decode cX12_orders 1 = .ok (.getfield 62, 3) := by decide +kernel
theorem dX12_orders_4 : decode cX12_orders 4 = .ok (.aload_n 0, 1) := by decide +kernel
theorem dX12_orders_5 : decode cX12_orders 5 = .ok (.getfield 243, 3) := by decide +kernel
theorem dX12_orders_8 : decode cX12_orders 8 = .ok (.iload_n 1, 1) := by decide +kernel
theorem dX12_orders_9 : decode cX12_orders 9 = .ok (.iastore, 1) := by decide +kernel
theorem dX12_orders_10 : decode cX12_orders 10 = .ok (.aload_n 0, 1) := by decide +kernel
theorem dX12_orders_11 : decode cX12_orders 11 = .ok (.dup, 1) := by decide +kernel
theorem dX12_orders_12 : decode cX12_orders 12 = .ok (.getfield 243, 3) := by decide +kernel
theorem dX12_orders_15 : decode cX12_orders 15 = .ok (.iconst 1, 1) := by decide +kernel
theorem dX12_orders_16 : decode cX12_orders 16 = .ok (.iadd, 1) := by decide +kernel
theorem dX12_orders_17 : decode cX12_orders 17 = .ok (.putfield 243, 3) := by decide +kernel
theorem dX12_orders_20 : decode cX12_orders 20 = .ok (.return_, 1) := by decide +kernel
theorem dX12_rank_0 : decode cX12_rank 0 = .ok (.iload_n 0, 1) := by decide +kernel
theorem dX12_rank_1 : decode cX12_rank 1 = .ok (.bipush 38, 2) := by decide +kernel
theorem dX12_rank_3 : decode cX12_rank 3 = .ok (.if_icmp .ne 7, 3) := by decide +kernel
theorem dX12_rank_6 : decode cX12_rank 6 = .ok (.iconst 2, 1) := by decide +kernel
theorem dX12_rank_7 : decode cX12_rank 7 = .ok (.goto 14, 3) := by decide +kernel
theorem dX12_rank_10 : decode cX12_rank 10 = .ok (.iload_n 0, 1) := by decide +kernel
theorem dX12_rank_11 : decode cX12_rank 11 = .ok (.bipush 40, 2) := by decide +kernel
theorem dX12_rank_13 : decode cX12_rank 13 = .ok (.if_icmp .ne 7, 3) := by decide +kernel
theorem dX12_rank_16 : decode cX12_rank 16 = .ok (.iconst 0, 1) := by decide +kernel
theorem dX12_rank_17 : decode cX12_rank 17 = .ok (.goto 4, 3) := by decide +kernel
theorem dX12_rank_20 : decode cX12_rank 20 = .ok (.iconst 1, 1) := by decide +kernel
theorem dX12_rank_21 : decode cX12_rank 21 = .ok (.ireturn, 1) := by decide +kernel
theorem dX12_readsOperand_0 : decode cX12_readsOperand 0 = .ok (.aload_n 0, 1) := by decide +kernel
theorem dX12_readsOperand_1 : decode cX12_readsOperand 1 = .ok (.invokevirtual 176, 3) := by decide +kernel
theorem dX12_readsOperand_4 : decode cX12_readsOperand 4 = .ok (.istore_n 1, 1) := by decide +kernel
theorem dX12_readsOperand_5 : decode cX12_readsOperand 5 = .ok (.iload_n 1, 1) := by decide +kernel
theorem dX12_readsOperand_6 : decode cX12_readsOperand 6 = .ok (.bipush 40, 2) := by decide +kernel
theorem dX12_readsOperand_8 : decode cX12_readsOperand 8 = .ok (.if_icmp .ne 45, 3) := by decide +kernel
theorem dX12_readsOperand_11 : decode cX12_readsOperand 11 = .ok (.aload_n 0, 1) := by decide +kernel
theorem dX12_readsOperand_12 : decode cX12_readsOperand 12 = .ok (.getfield 246, 3) := by decide +kernel
theorem dX12_readsOperand_15 : decode cX12_readsOperand 15 = .ok (.bipush 8, 2) := by decide +kernel
theorem dX12_readsOperand_17 : decode cX12_readsOperand 17 = .ok (.if_icmp .ge 36, 3) := by decide +kernel
theorem dX12_readsOperand_20 : decode cX12_readsOperand 20 = .ok (.aload_n 0, 1) := by decide +kernel
theorem dX12_readsOperand_21 : decode cX12_readsOperand 21 = .ok (.dup, 1) := by decide +kernel
theorem dX12_readsOperand_22 : decode cX12_readsOperand 22 = .ok (.getfield 246, 3) := by decide +kernel
theorem dX12_readsOperand_25 : decode cX12_readsOperand 25 = .ok (.iconst 1, 1) := by decide +kernel
theorem dX12_readsOperand_26 : decode cX12_readsOperand 26 = .ok (.iadd, 1) := by decide +kernel
theorem dX12_readsOperand_27 : decode cX12_readsOperand 27 = .ok (.putfield 246, 3) := by decide +kernel
theorem dX12_readsOperand_30 : decode cX12_readsOperand 30 = .ok (.aload_n 0, 1) := by decide +kernel
theorem dX12_readsOperand_31 : decode cX12_readsOperand 31 = .ok (.getfield 65, 3) := by decide +kernel
theorem dX12_readsOperand_34 : decode cX12_readsOperand 34 = .ok (.aload_n 0, 1) := by decide +kernel
theorem dX12_readsOperand_35 : decode cX12_readsOperand 35 = .ok (.getfield 249, 3) := by decide +kernel
theorem dX12_readsOperand_38 : decode cX12_readsOperand 38 = .ok (.bipush 40, 2) := by decide +kernel
theorem dX12_readsOperand_40 : decode cX12_readsOperand 40 = .ok (.iastore, 1) := by decide +kernel
theorem dX12_readsOperand_41 : decode cX12_readsOperand 41 = .ok (.aload_n 0, 1) := by decide +kernel
theorem dX12_readsOperand_42 : decode cX12_readsOperand 42 = .ok (.dup, 1) := by decide +kernel
theorem dX12_readsOperand_43 : decode cX12_readsOperand 43 = .ok (.getfield 249, 3) := by decide +kernel
theorem dX12_readsOperand_46 : decode cX12_readsOperand 46 = .ok (.iconst 1, 1) := by decide +kernel
theorem dX12_readsOperand_47 : decode cX12_readsOperand 47 = .ok (.iadd, 1) := by decide +kernel
theorem dX12_readsOperand_48 : decode cX12_readsOperand 48 = .ok (.putfield 249, 3) := by decide +kernel
theorem dX12_readsOperand_51 : decode cX12_readsOperand 51 = .ok (.iconst 0, 1) := by decide +kernel
theorem dX12_readsOperand_52 : decode cX12_readsOperand 52 = .ok (.ireturn, 1) := by decide +kernel
theorem dX12_readsOperand_53 : decode cX12_readsOperand 53 = .ok (.iload_n 1, 1) := by decide +kernel
theorem dX12_readsOperand_54 : decode cX12_readsOperand 54 = .ok (.bipush 65, 2) := by decide +kernel
theorem dX12_readsOperand_56 : decode cX12_readsOperand 56 = .ok (.bipush 70, 2) := by decide +kernel
theorem dX12_readsOperand_58 : decode cX12_readsOperand 58 = .ok (.invokestatic 68, 3) := by decide +kernel
theorem dX12_readsOperand_61 : decode cX12_readsOperand 61 = .ok (.ifCond .ne 11, 3) := by decide +kernel
theorem dX12_readsOperand_64 : decode cX12_readsOperand 64 = .ok (.aload_n 0, 1) := by decide +kernel
theorem dX12_readsOperand_65 : decode cX12_readsOperand 65 = .ok (.aload_n 0, 1) := by decide +kernel
theorem dX12_readsOperand_66 : decode cX12_readsOperand 66 = .ok (.getfield 173, 3) := by decide +kernel
theorem dX12_readsOperand_69 : decode cX12_readsOperand 69 = .ok (.invokevirtual 183, 3) := by decide +kernel
theorem dX12_readsOperand_72 : decode cX12_readsOperand 72 = .ok (.aload_n 0, 1) := by decide +kernel
theorem dX12_readsOperand_73 : decode cX12_readsOperand 73 = .ok (.iload_n 1, 1) := by decide +kernel
theorem dX12_readsOperand_74 : decode cX12_readsOperand 74 = .ok (.invokevirtual 252, 3) := by decide +kernel
theorem dX12_readsOperand_77 : decode cX12_readsOperand 77 = .ok (.iconst 1, 1) := by decide +kernel
theorem dX12_readsOperand_78 : decode cX12_readsOperand 78 = .ok (.ireturn, 1) := by decide +kernel
theorem dX12_readsSign_0 : decode cX12_readsSign 0 = .ok (.aload_n 0, 1) := by decide +kernel
theorem dX12_readsSign_1 : decode cX12_readsSign 1 = .ok (.invokevirtual 176, 3) := by decide +kernel
theorem dX12_readsSign_4 : decode cX12_readsSign 4 = .ok (.istore_n 1, 1) := by decide +kernel
theorem dX12_readsSign_5 : decode cX12_readsSign 5 = .ok (.iload_n 1, 1) := by decide +kernel
theorem dX12_readsSign_6 : decode cX12_readsSign 6 = .ok (.bipush 41, 2) := by decide +kernel
theorem dX12_readsSign_8 : decode cX12_readsSign 8 = .ok (.if_icmp .ne 74, 3) := by decide +kernel
theorem dX12_readsSign_11 : decode cX12_readsSign 11 = .ok (.aload_n 0, 1) := by decide +kernel
theorem dX12_readsSign_12 : decode cX12_readsSign 12 = .ok (.getfield 246, 3) := by decide +kernel
theorem dX12_readsSign_15 : decode cX12_readsSign 15 = .ok (.ifCond .le 67, 3) := by decide +kernel
theorem dX12_readsSign_18 : decode cX12_readsSign 18 = .ok (.aload_n 0, 1) := by decide +kernel
theorem dX12_readsSign_19 : decode cX12_readsSign 19 = .ok (.dup, 1) := by decide +kernel
theorem dX12_readsSign_20 : decode cX12_readsSign 20 = .ok (.getfield 246, 3) := by decide +kernel
theorem dX12_readsSign_23 : decode cX12_readsSign 23 = .ok (.iconst 1, 1) := by decide +kernel
theorem dX12_readsSign_24 : decode cX12_readsSign 24 = .ok (.isub, 1) := by decide +kernel
theorem dX12_readsSign_25 : decode cX12_readsSign 25 = .ok (.putfield 246, 3) := by decide +kernel
theorem dX12_readsSign_28 : decode cX12_readsSign 28 = .ok (.aload_n 0, 1) := by decide +kernel
theorem dX12_readsSign_29 : decode cX12_readsSign 29 = .ok (.getfield 65, 3) := by decide +kernel
theorem dX12_readsSign_32 : decode cX12_readsSign 32 = .ok (.aload_n 0, 1) := by decide +kernel
theorem dX12_readsSign_33 : decode cX12_readsSign 33 = .ok (.getfield 249, 3) := by decide +kernel
theorem dX12_readsSign_36 : decode cX12_readsSign 36 = .ok (.iconst 1, 1) := by decide +kernel
theorem dX12_readsSign_37 : decode cX12_readsSign 37 = .ok (.isub, 1) := by decide +kernel
theorem dX12_readsSign_38 : decode cX12_readsSign 38 = .ok (.iaload, 1) := by decide +kernel
theorem dX12_readsSign_39 : decode cX12_readsSign 39 = .ok (.bipush 40, 2) := by decide +kernel
theorem dX12_readsSign_41 : decode cX12_readsSign 41 = .ok (.if_icmp .eq 29, 3) := by decide +kernel
theorem dX12_readsSign_44 : decode cX12_readsSign 44 = .ok (.aload_n 0, 1) := by decide +kernel
theorem dX12_readsSign_45 : decode cX12_readsSign 45 = .ok (.dup, 1) := by decide +kernel
theorem dX12_readsSign_46 : decode cX12_readsSign 46 = .ok (.getfield 249, 3) := by decide +kernel
theorem dX12_readsSign_49 : decode cX12_readsSign 49 = .ok (.iconst 1, 1) := by decide +kernel
theorem dX12_readsSign_50 : decode cX12_readsSign 50 = .ok (.isub, 1) := by decide +kernel
theorem dX12_readsSign_51 : decode cX12_readsSign 51 = .ok (.putfield 249, 3) := by decide +kernel
theorem dX12_readsSign_54 : decode cX12_readsSign 54 = .ok (.aload_n 0, 1) := by decide +kernel
theorem dX12_readsSign_55 : decode cX12_readsSign 55 = .ok (.aload_n 0, 1) := by decide +kernel
theorem dX12_readsSign_56 : decode cX12_readsSign 56 = .ok (.getfield 65, 3) := by decide +kernel
theorem dX12_readsSign_59 : decode cX12_readsSign 59 = .ok (.aload_n 0, 1) := by decide +kernel
theorem dX12_readsSign_60 : decode cX12_readsSign 60 = .ok (.getfield 249, 3) := by decide +kernel
theorem dX12_readsSign_63 : decode cX12_readsSign 63 = .ok (.iaload, 1) := by decide +kernel
theorem dX12_readsSign_64 : decode cX12_readsSign 64 = .ok (.invokevirtual 252, 3) := by decide +kernel
theorem dX12_readsSign_67 : decode cX12_readsSign 67 = .ok (.goto (-39), 3) := by decide +kernel
theorem dX12_readsSign_70 : decode cX12_readsSign 70 = .ok (.aload_n 0, 1) := by decide +kernel
theorem dX12_readsSign_71 : decode cX12_readsSign 71 = .ok (.dup, 1) := by decide +kernel
theorem dX12_readsSign_72 : decode cX12_readsSign 72 = .ok (.getfield 249, 3) := by decide +kernel
theorem dX12_readsSign_75 : decode cX12_readsSign 75 = .ok (.iconst 1, 1) := by decide +kernel
theorem dX12_readsSign_76 : decode cX12_readsSign 76 = .ok (.isub, 1) := by decide +kernel
theorem dX12_readsSign_77 : decode cX12_readsSign 77 = .ok (.putfield 249, 3) := by decide +kernel
theorem dX12_readsSign_80 : decode cX12_readsSign 80 = .ok (.iconst 0, 1) := by decide +kernel
theorem dX12_readsSign_81 : decode cX12_readsSign 81 = .ok (.ireturn, 1) := by decide +kernel
theorem dX12_readsSign_82 : decode cX12_readsSign 82 = .ok (.iload_n 1, 1) := by decide +kernel
theorem dX12_readsSign_83 : decode cX12_readsSign 83 = .ok (.bipush 38, 2) := by decide +kernel
theorem dX12_readsSign_85 : decode cX12_readsSign 85 = .ok (.if_icmp .eq 31, 3) := by decide +kernel
theorem dX12_readsSign_88 : decode cX12_readsSign 88 = .ok (.iload_n 1, 1) := by decide +kernel
theorem dX12_readsSign_89 : decode cX12_readsSign 89 = .ok (.bipush 124, 2) := by decide +kernel
theorem dX12_readsSign_91 : decode cX12_readsSign 91 = .ok (.if_icmp .eq 25, 3) := by decide +kernel
theorem dX12_readsSign_94 : decode cX12_readsSign 94 = .ok (.iload_n 1, 1) := by decide +kernel
theorem dX12_readsSign_95 : decode cX12_readsSign 95 = .ok (.bipush 45, 2) := by decide +kernel
theorem dX12_readsSign_97 : decode cX12_readsSign 97 = .ok (.if_icmp .eq 19, 3) := by decide +kernel
theorem dX12_readsSign_100 : decode cX12_readsSign 100 = .ok (.iload_n 1, 1) := by decide +kernel
theorem dX12_readsSign_101 : decode cX12_readsSign 101 = .ok (.bipush 94, 2) := by decide +kernel
theorem dX12_readsSign_103 : decode cX12_readsSign 103 = .ok (.if_icmp .eq 13, 3) := by decide +kernel
theorem dX12_readsSign_106 : decode cX12_readsSign 106 = .ok (.aload_n 0, 1) := by decide +kernel
theorem dX12_readsSign_107 : decode cX12_readsSign 107 = .ok (.aload_n 0, 1) := by decide +kernel
theorem dX12_readsSign_108 : decode cX12_readsSign 108 = .ok (.getfield 173, 3) := by decide +kernel
theorem dX12_readsSign_111 : decode cX12_readsSign 111 = .ok (.invokevirtual 183, 3) := by decide +kernel
theorem dX12_readsSign_114 : decode cX12_readsSign 114 = .ok (.iconst 0, 1) := by decide +kernel
theorem dX12_readsSign_115 : decode cX12_readsSign 115 = .ok (.ireturn, 1) := by decide +kernel
theorem dX12_readsSign_116 : decode cX12_readsSign 116 = .ok (.aload_n 0, 1) := by decide +kernel
theorem dX12_readsSign_117 : decode cX12_readsSign 117 = .ok (.getfield 249, 3) := by decide +kernel
theorem dX12_readsSign_120 : decode cX12_readsSign 120 = .ok (.ifCond .le 50, 3) := by decide +kernel
theorem dX12_readsSign_123 : decode cX12_readsSign 123 = .ok (.aload_n 0, 1) := by decide +kernel
theorem dX12_readsSign_124 : decode cX12_readsSign 124 = .ok (.getfield 65, 3) := by decide +kernel
theorem dX12_readsSign_127 : decode cX12_readsSign 127 = .ok (.aload_n 0, 1) := by decide +kernel
theorem dX12_readsSign_128 : decode cX12_readsSign 128 = .ok (.getfield 249, 3) := by decide +kernel
theorem dX12_readsSign_131 : decode cX12_readsSign 131 = .ok (.iconst 1, 1) := by decide +kernel
theorem dX12_readsSign_132 : decode cX12_readsSign 132 = .ok (.isub, 1) := by decide +kernel
theorem dX12_readsSign_133 : decode cX12_readsSign 133 = .ok (.iaload, 1) := by decide +kernel
theorem dX12_readsSign_134 : decode cX12_readsSign 134 = .ok (.invokestatic 254, 3) := by decide +kernel
theorem dX12_readsSign_137 : decode cX12_readsSign 137 = .ok (.iload_n 1, 1) := by decide +kernel
theorem dX12_readsSign_138 : decode cX12_readsSign 138 = .ok (.invokestatic 254, 3) := by decide +kernel
theorem dX12_readsSign_141 : decode cX12_readsSign 141 = .ok (.if_icmp .lt 29, 3) := by decide +kernel
theorem dX12_readsSign_144 : decode cX12_readsSign 144 = .ok (.aload_n 0, 1) := by decide +kernel
theorem dX12_readsSign_145 : decode cX12_readsSign 145 = .ok (.dup, 1) := by decide +kernel
theorem dX12_readsSign_146 : decode cX12_readsSign 146 = .ok (.getfield 249, 3) := by decide +kernel
theorem dX12_readsSign_149 : decode cX12_readsSign 149 = .ok (.iconst 1, 1) := by decide +kernel
theorem dX12_readsSign_150 : decode cX12_readsSign 150 = .ok (.isub, 1) := by decide +kernel
theorem dX12_readsSign_151 : decode cX12_readsSign 151 = .ok (.putfield 249, 3) := by decide +kernel
theorem dX12_readsSign_154 : decode cX12_readsSign 154 = .ok (.aload_n 0, 1) := by decide +kernel
theorem dX12_readsSign_155 : decode cX12_readsSign 155 = .ok (.aload_n 0, 1) := by decide +kernel
theorem dX12_readsSign_156 : decode cX12_readsSign 156 = .ok (.getfield 65, 3) := by decide +kernel
theorem dX12_readsSign_159 : decode cX12_readsSign 159 = .ok (.aload_n 0, 1) := by decide +kernel
theorem dX12_readsSign_160 : decode cX12_readsSign 160 = .ok (.getfield 249, 3) := by decide +kernel
theorem dX12_readsSign_163 : decode cX12_readsSign 163 = .ok (.iaload, 1) := by decide +kernel
theorem dX12_readsSign_164 : decode cX12_readsSign 164 = .ok (.invokevirtual 252, 3) := by decide +kernel
theorem dX12_readsSign_167 : decode cX12_readsSign 167 = .ok (.goto (-51), 3) := by decide +kernel
theorem dX12_readsSign_170 : decode cX12_readsSign 170 = .ok (.aload_n 0, 1) := by decide +kernel
theorem dX12_readsSign_171 : decode cX12_readsSign 171 = .ok (.getfield 65, 3) := by decide +kernel
theorem dX12_readsSign_174 : decode cX12_readsSign 174 = .ok (.aload_n 0, 1) := by decide +kernel
theorem dX12_readsSign_175 : decode cX12_readsSign 175 = .ok (.getfield 249, 3) := by decide +kernel
theorem dX12_readsSign_178 : decode cX12_readsSign 178 = .ok (.iload_n 1, 1) := by decide +kernel
theorem dX12_readsSign_179 : decode cX12_readsSign 179 = .ok (.iastore, 1) := by decide +kernel
theorem dX12_readsSign_180 : decode cX12_readsSign 180 = .ok (.aload_n 0, 1) := by decide +kernel
theorem dX12_readsSign_181 : decode cX12_readsSign 181 = .ok (.dup, 1) := by decide +kernel
theorem dX12_readsSign_182 : decode cX12_readsSign 182 = .ok (.getfield 249, 3) := by decide +kernel
theorem dX12_readsSign_185 : decode cX12_readsSign 185 = .ok (.iconst 1, 1) := by decide +kernel
theorem dX12_readsSign_186 : decode cX12_readsSign 186 = .ok (.iadd, 1) := by decide +kernel
theorem dX12_readsSign_187 : decode cX12_readsSign 187 = .ok (.putfield 249, 3) := by decide +kernel
theorem dX12_readsSign_190 : decode cX12_readsSign 190 = .ok (.iconst 1, 1) := by decide +kernel
theorem dX12_readsSign_191 : decode cX12_readsSign 191 = .ok (.ireturn, 1) := by decide +kernel
theorem dX12_readsExpression_0 : decode cX12_readsExpression 0 = .ok (.aload_n 0, 1) := by decide +kernel
theorem dX12_readsExpression_1 : decode cX12_readsExpression 1 = .ok (.iconst 0, 1) := by decide +kernel
theorem dX12_readsExpression_2 : decode cX12_readsExpression 2 = .ok (.putfield 173, 3) := by decide +kernel
theorem dX12_readsExpression_5 : decode cX12_readsExpression 5 = .ok (.aload_n 0, 1) := by decide +kernel
theorem dX12_readsExpression_6 : decode cX12_readsExpression 6 = .ok (.iconst (-1), 1) := by decide +kernel
theorem dX12_readsExpression_7 : decode cX12_readsExpression 7 = .ok (.putfield 180, 3) := by decide +kernel
theorem dX12_readsExpression_10 : decode cX12_readsExpression 10 = .ok (.aload_n 0, 1) := by decide +kernel
theorem dX12_readsExpression_11 : decode cX12_readsExpression 11 = .ok (.iconst 0, 1) := by decide +kernel
theorem dX12_readsExpression_12 : decode cX12_readsExpression 12 = .ok (.putfield 243, 3) := by decide +kernel
theorem dX12_readsExpression_15 : decode cX12_readsExpression 15 = .ok (.aload_n 0, 1) := by decide +kernel
theorem dX12_readsExpression_16 : decode cX12_readsExpression 16 = .ok (.iconst 0, 1) := by decide +kernel
theorem dX12_readsExpression_17 : decode cX12_readsExpression 17 = .ok (.putfield 249, 3) := by decide +kernel
theorem dX12_readsExpression_20 : decode cX12_readsExpression 20 = .ok (.aload_n 0, 1) := by decide +kernel
theorem dX12_readsExpression_21 : decode cX12_readsExpression 21 = .ok (.iconst 0, 1) := by decide +kernel
theorem dX12_readsExpression_22 : decode cX12_readsExpression 22 = .ok (.putfield 246, 3) := by decide +kernel
theorem dX12_readsExpression_25 : decode cX12_readsExpression 25 = .ok (.iconst 1, 1) := by decide +kernel
theorem dX12_readsExpression_26 : decode cX12_readsExpression 26 = .ok (.istore_n 1, 1) := by decide +kernel
theorem dX12_readsExpression_27 : decode cX12_readsExpression 27 = .ok (.aload_n 0, 1) := by decide +kernel
theorem dX12_readsExpression_28 : decode cX12_readsExpression 28 = .ok (.invokevirtual 189, 3) := by decide +kernel
theorem dX12_readsExpression_31 : decode cX12_readsExpression 31 = .ok (.aload_n 0, 1) := by decide +kernel
theorem dX12_readsExpression_32 : decode cX12_readsExpression 32 = .ok (.getfield 173, 3) := by decide +kernel
theorem dX12_readsExpression_35 : decode cX12_readsExpression 35 = .ok (.aload_n 0, 1) := by decide +kernel
theorem dX12_readsExpression_36 : decode cX12_readsExpression 36 = .ok (.getfield 170, 3) := by decide +kernel
theorem dX12_readsExpression_39 : decode cX12_readsExpression 39 = .ok (.if_icmp .ge 52, 3) := by decide +kernel
theorem dX12_readsExpression_42 : decode cX12_readsExpression 42 = .ok (.aload_n 0, 1) := by decide +kernel
theorem dX12_readsExpression_43 : decode cX12_readsExpression 43 = .ok (.getfield 180, 3) := by decide +kernel
theorem dX12_readsExpression_46 : decode cX12_readsExpression 46 = .ok (.iconst (-1), 1) := by decide +kernel
theorem dX12_readsExpression_47 : decode cX12_readsExpression 47 = .ok (.if_icmp .ne 44, 3) := by decide +kernel
theorem dX12_readsExpression_50 : decode cX12_readsExpression 50 = .ok (.iload_n 1, 1) := by decide +kernel
theorem dX12_readsExpression_51 : decode cX12_readsExpression 51 = .ok (.ifCond .eq 18, 3) := by decide +kernel
theorem dX12_readsExpression_54 : decode cX12_readsExpression 54 = .ok (.aload_n 0, 1) := by decide +kernel
theorem dX12_readsExpression_55 : decode cX12_readsExpression 55 = .ok (.invokevirtual 257, 3) := by decide +kernel
theorem dX12_readsExpression_58 : decode cX12_readsExpression 58 = .ok (.ifCond .ne 7, 3) := by decide +kernel
theorem dX12_readsExpression_61 : decode cX12_readsExpression 61 = .ok (.iconst 1, 1) := by decide +kernel
theorem dX12_readsExpression_62 : decode cX12_readsExpression 62 = .ok (.goto 11, 3) := by decide +kernel
theorem dX12_readsExpression_65 : decode cX12_readsExpression 65 = .ok (.iconst 0, 1) := by decide +kernel
theorem dX12_readsExpression_66 : decode cX12_readsExpression 66 = .ok (.goto 7, 3) := by decide +kernel
theorem dX12_readsExpression_69 : decode cX12_readsExpression 69 = .ok (.aload_n 0, 1) := by decide +kernel
theorem dX12_readsExpression_70 : decode cX12_readsExpression 70 = .ok (.invokevirtual 261, 3) := by decide +kernel
theorem dX12_readsExpression_73 : decode cX12_readsExpression 73 = .ok (.istore_n 1, 1) := by decide +kernel
theorem dX12_readsExpression_74 : decode cX12_readsExpression 74 = .ok (.aload_n 0, 1) := by decide +kernel
theorem dX12_readsExpression_75 : decode cX12_readsExpression 75 = .ok (.dup, 1) := by decide +kernel
theorem dX12_readsExpression_76 : decode cX12_readsExpression 76 = .ok (.getfield 173, 3) := by decide +kernel
theorem dX12_readsExpression_79 : decode cX12_readsExpression 79 = .ok (.iconst 1, 1) := by decide +kernel
theorem dX12_readsExpression_80 : decode cX12_readsExpression 80 = .ok (.iadd, 1) := by decide +kernel
theorem dX12_readsExpression_81 : decode cX12_readsExpression 81 = .ok (.putfield 173, 3) := by decide +kernel
theorem dX12_readsExpression_84 : decode cX12_readsExpression 84 = .ok (.aload_n 0, 1) := by decide +kernel
theorem dX12_readsExpression_85 : decode cX12_readsExpression 85 = .ok (.invokevirtual 189, 3) := by decide +kernel
theorem dX12_readsExpression_88 : decode cX12_readsExpression 88 = .ok (.goto (-57), 3) := by decide +kernel
theorem dX12_readsExpression_91 : decode cX12_readsExpression 91 = .ok (.iload_n 1, 1) := by decide +kernel
theorem dX12_readsExpression_92 : decode cX12_readsExpression 92 = .ok (.ifCond .ne 10, 3) := by decide +kernel
theorem dX12_readsExpression_95 : decode cX12_readsExpression 95 = .ok (.aload_n 0, 1) := by decide +kernel
theorem dX12_readsExpression_96 : decode cX12_readsExpression 96 = .ok (.getfield 246, 3) := by decide +kernel
theorem dX12_readsExpression_99 : decode cX12_readsExpression 99 = .ok (.ifCond .le 11, 3) := by decide +kernel
theorem dX12_readsExpression_102 : decode cX12_readsExpression 102 = .ok (.aload_n 0, 1) := by decide +kernel
theorem dX12_readsExpression_103 : decode cX12_readsExpression 103 = .ok (.aload_n 0, 1) := by decide +kernel
theorem dX12_readsExpression_104 : decode cX12_readsExpression 104 = .ok (.getfield 170, 3) := by decide +kernel
theorem dX12_readsExpression_107 : decode cX12_readsExpression 107 = .ok (.invokevirtual 183, 3) := by decide +kernel
theorem dX12_readsExpression_110 : decode cX12_readsExpression 110 = .ok (.aload_n 0, 1) := by decide +kernel
theorem dX12_readsExpression_111 : decode cX12_readsExpression 111 = .ok (.getfield 249, 3) := by decide +kernel
theorem dX12_readsExpression_114 : decode cX12_readsExpression 114 = .ok (.ifCond .le 29, 3) := by decide +kernel
theorem dX12_readsExpression_117 : decode cX12_readsExpression 117 = .ok (.aload_n 0, 1) := by decide +kernel
theorem dX12_readsExpression_118 : decode cX12_readsExpression 118 = .ok (.dup, 1) := by decide +kernel
theorem dX12_readsExpression_119 : decode cX12_readsExpression 119 = .ok (.getfield 249, 3) := by decide +kernel
theorem dX12_readsExpression_122 : decode cX12_readsExpression 122 = .ok (.iconst 1, 1) := by decide +kernel
theorem dX12_readsExpression_123 : decode cX12_readsExpression 123 = .ok (.isub, 1) := by decide +kernel
theorem dX12_readsExpression_124 : decode cX12_readsExpression 124 = .ok (.putfield 249, 3) := by decide +kernel
theorem dX12_readsExpression_127 : decode cX12_readsExpression 127 = .ok (.aload_n 0, 1) := by decide +kernel
theorem dX12_readsExpression_128 : decode cX12_readsExpression 128 = .ok (.aload_n 0, 1) := by decide +kernel
theorem dX12_readsExpression_129 : decode cX12_readsExpression 129 = .ok (.getfield 65, 3) := by decide +kernel
theorem dX12_readsExpression_132 : decode cX12_readsExpression 132 = .ok (.aload_n 0, 1) := by decide +kernel
theorem dX12_readsExpression_133 : decode cX12_readsExpression 133 = .ok (.getfield 249, 3) := by decide +kernel
theorem dX12_readsExpression_136 : decode cX12_readsExpression 136 = .ok (.iaload, 1) := by decide +kernel
theorem dX12_readsExpression_137 : decode cX12_readsExpression 137 = .ok (.invokevirtual 252, 3) := by decide +kernel
theorem dX12_readsExpression_140 : decode cX12_readsExpression 140 = .ok (.goto (-30), 3) := by decide +kernel
theorem dX12_readsExpression_143 : decode cX12_readsExpression 143 = .ok (.return_, 1) := by decide +kernel
theorem dX12_query_0 : decode cX12_query 0 = .ok (.aload_n 0, 1) := by decide +kernel
theorem dX12_query_1 : decode cX12_query 1 = .ok (.invokevirtual 264, 3) := by decide +kernel
theorem dX12_query_4 : decode cX12_query 4 = .ok (.aload_n 0, 1) := by decide +kernel
theorem dX12_query_5 : decode cX12_query 5 = .ok (.getfield 180, 3) := by decide +kernel
theorem dX12_query_8 : decode cX12_query 8 = .ok (.iconst (-1), 1) := by decide +kernel
theorem dX12_query_9 : decode cX12_query 9 = .ok (.if_icmp .eq 12, 3) := by decide +kernel
theorem dX12_query_12 : decode cX12_query 12 = .ok (.sipush (-2000), 3) := by decide +kernel
theorem dX12_query_15 : decode cX12_query 15 = .ok (.aload_n 0, 1) := by decide +kernel
theorem dX12_query_16 : decode cX12_query 16 = .ok (.getfield 180, 3) := by decide +kernel
theorem dX12_query_19 : decode cX12_query 19 = .ok (.isub, 1) := by decide +kernel
theorem dX12_query_20 : decode cX12_query 20 = .ok (.ireturn, 1) := by decide +kernel
theorem dX12_query_21 : decode cX12_query 21 = .ok (.aload_n 0, 1) := by decide +kernel
theorem dX12_query_22 : decode cX12_query 22 = .ok (.iconst 0, 1) := by decide +kernel
theorem dX12_query_23 : decode cX12_query 23 = .ok (.putfield 227, 3) := by decide +kernel
theorem dX12_query_26 : decode cX12_query 26 = .ok (.iconst 0, 1) := by decide +kernel
theorem dX12_query_27 : decode cX12_query 27 = .ok (.istore_n 1, 1) := by decide +kernel
theorem dX12_query_28 : decode cX12_query 28 = .ok (.iconst 0, 1) := by decide +kernel
theorem dX12_query_29 : decode cX12_query 29 = .ok (.istore_n 2, 1) := by decide +kernel
theorem dX12_query_30 : decode cX12_query 30 = .ok (.iload_n 2, 1) := by decide +kernel
theorem dX12_query_31 : decode cX12_query 31 = .ok (.aload_n 0, 1) := by decide +kernel
theorem dX12_query_32 : decode cX12_query 32 = .ok (.getfield 243, 3) := by decide +kernel
theorem dX12_query_35 : decode cX12_query 35 = .ok (.if_icmp .ge 62, 3) := by decide +kernel
theorem dX12_query_38 : decode cX12_query 38 = .ok (.aload_n 0, 1) := by decide +kernel
theorem dX12_query_39 : decode cX12_query 39 = .ok (.getfield 62, 3) := by decide +kernel
theorem dX12_query_42 : decode cX12_query 42 = .ok (.iload_n 2, 1) := by decide +kernel
theorem dX12_query_43 : decode cX12_query 43 = .ok (.iaload, 1) := by decide +kernel
theorem dX12_query_44 : decode cX12_query 44 = .ok (.bipush 65, 2) := by decide +kernel
theorem dX12_query_46 : decode cX12_query 46 = .ok (.bipush 70, 2) := by decide +kernel
theorem dX12_query_48 : decode cX12_query 48 = .ok (.invokestatic 68, 3) := by decide +kernel
theorem dX12_query_51 : decode cX12_query 51 = .ok (.ifCond .eq 23, 3) := by decide +kernel
theorem dX12_query_54 : decode cX12_query 54 = .ok (.aload_n 0, 1) := by decide +kernel
theorem dX12_query_55 : decode cX12_query 55 = .ok (.aload_n 0, 1) := by decide +kernel
theorem dX12_query_56 : decode cX12_query 56 = .ok (.getfield 62, 3) := by decide +kernel
theorem dX12_query_59 : decode cX12_query 59 = .ok (.iload_n 2, 1) := by decide +kernel
theorem dX12_query_60 : decode cX12_query 60 = .ok (.iaload, 1) := by decide +kernel
theorem dX12_query_61 : decode cX12_query 61 = .ok (.bipush 65, 2) := by decide +kernel
theorem dX12_query_63 : decode cX12_query 63 = .ok (.isub, 1) := by decide +kernel
theorem dX12_query_64 : decode cX12_query 64 = .ok (.iload_n 1, 1) := by decide +kernel
theorem dX12_query_65 : decode cX12_query 65 = .ok (.invokevirtual 267, 3) := by decide +kernel
theorem dX12_query_68 : decode cX12_query 68 = .ok (.iinc 1 1, 3) := by decide +kernel
theorem dX12_query_71 : decode cX12_query 71 = .ok (.goto 20, 3) := by decide +kernel
theorem dX12_query_74 : decode cX12_query 74 = .ok (.iinc 1 (-1), 3) := by decide +kernel
theorem dX12_query_77 : decode cX12_query 77 = .ok (.aload_n 0, 1) := by decide +kernel
theorem dX12_query_78 : decode cX12_query 78 = .ok (.iload_n 1, 1) := by decide +kernel
theorem dX12_query_79 : decode cX12_query 79 = .ok (.iconst 1, 1) := by decide +kernel
theorem dX12_query_80 : decode cX12_query 80 = .ok (.isub, 1) := by decide +kernel
theorem dX12_query_81 : decode cX12_query 81 = .ok (.iload_n 1, 1) := by decide +kernel
theorem dX12_query_82 : decode cX12_query 82 = .ok (.aload_n 0, 1) := by decide +kernel
theorem dX12_query_83 : decode cX12_query 83 = .ok (.getfield 62, 3) := by decide +kernel
theorem dX12_query_86 : decode cX12_query 86 = .ok (.iload_n 2, 1) := by decide +kernel
theorem dX12_query_87 : decode cX12_query 87 = .ok (.iaload, 1) := by decide +kernel
theorem dX12_query_88 : decode cX12_query 88 = .ok (.invokevirtual 270, 3) := by decide +kernel
theorem dX12_query_91 : decode cX12_query 91 = .ok (.iinc 2 1, 3) := by decide +kernel
theorem dX12_query_94 : decode cX12_query 94 = .ok (.goto (-64), 3) := by decide +kernel
theorem dX12_query_97 : decode cX12_query 97 = .ok (.aload_n 0, 1) := by decide +kernel
theorem dX12_query_98 : decode cX12_query 98 = .ok (.aload_n 0, 1) := by decide +kernel
theorem dX12_query_99 : decode cX12_query 99 = .ok (.getfield 56, 3) := by decide +kernel
theorem dX12_query_102 : decode cX12_query 102 = .ok (.iconst 0, 1) := by decide +kernel
theorem dX12_query_103 : decode cX12_query 103 = .ok (.iaload, 1) := by decide +kernel
theorem dX12_query_104 : decode cX12_query 104 = .ok (.putfield 25, 3) := by decide +kernel
theorem dX12_query_107 : decode cX12_query 107 = .ok (.aload_n 0, 1) := by decide +kernel
theorem dX12_query_108 : decode cX12_query 108 = .ok (.aload_n 0, 1) := by decide +kernel
theorem dX12_query_109 : decode cX12_query 109 = .ok (.getfield 227, 3) := by decide +kernel
theorem dX12_query_112 : decode cX12_query 112 = .ok (.putfield 29, 3) := by decide +kernel
theorem dX12_query_115 : decode cX12_query 115 = .ok (.iconst 0, 1) := by decide +kernel
theorem dX12_query_116 : decode cX12_query 116 = .ok (.istore_n 2, 1) := by decide +kernel
theorem dX12_query_117 : decode cX12_query 117 = .ok (.iload_n 2, 1) := by decide +kernel
theorem dX12_query_118 : decode cX12_query 118 = .ok (.aload_n 0, 1) := by decide +kernel
theorem dX12_query_119 : decode cX12_query 119 = .ok (.getfield 25, 3) := by decide +kernel
theorem dX12_query_122 : decode cX12_query 122 = .ok (.if_icmp .ge 21, 3) := by decide +kernel
theorem dX12_query_125 : decode cX12_query 125 = .ok (.aload_n 0, 1) := by decide +kernel
theorem dX12_query_126 : decode cX12_query 126 = .ok (.getfield 22, 3) := by decide +kernel
theorem dX12_query_129 : decode cX12_query 129 = .ok (.iload_n 2, 1) := by decide +kernel
theorem dX12_query_130 : decode cX12_query 130 = .ok (.aload_n 0, 1) := by decide +kernel
theorem dX12_query_131 : decode cX12_query 131 = .ok (.getfield 53, 3) := by decide +kernel
theorem dX12_query_134 : decode cX12_query 134 = .ok (.iload_n 2, 1) := by decide +kernel
theorem dX12_query_135 : decode cX12_query 135 = .ok (.iaload, 1) := by decide +kernel
theorem dX12_query_136 : decode cX12_query 136 = .ok (.iastore, 1) := by decide +kernel
theorem dX12_query_137 : decode cX12_query 137 = .ok (.iinc 2 1, 3) := by decide +kernel
theorem dX12_query_140 : decode cX12_query 140 = .ok (.goto (-23), 3) := by decide +kernel
theorem dX12_query_143 : decode cX12_query 143 = .ok (.aload_n 0, 1) := by decide +kernel
theorem dX12_query_144 : decode cX12_query 144 = .ok (.getfield 25, 3) := by decide +kernel
theorem dX12_query_147 : decode cX12_query 147 = .ok (.ireturn, 1) := by decide +kernel
theorem dX12_joins_0 : decode cX12_joins 0 = .ok (.iload_n 3, 1) := by decide +kernel
theorem dX12_joins_1 : decode cX12_joins 1 = .ok (.bipush 38, 2) := by decide +kernel
theorem dX12_joins_3 : decode cX12_joins 3 = .ok (.if_icmp .ne 12, 3) := by decide +kernel
theorem dX12_joins_6 : decode cX12_joins 6 = .ok (.aload_n 0, 1) := by decide +kernel
theorem dX12_joins_7 : decode cX12_joins 7 = .ok (.iload_n 1, 1) := by decide +kernel
theorem dX12_joins_8 : decode cX12_joins 8 = .ok (.iload_n 2, 1) := by decide +kernel
theorem dX12_joins_9 : decode cX12_joins 9 = .ok (.invokevirtual 273, 3) := by decide +kernel
theorem dX12_joins_12 : decode cX12_joins 12 = .ok (.goto 10, 3) := by decide +kernel
theorem dX12_joins_15 : decode cX12_joins 15 = .ok (.aload_n 0, 1) := by decide +kernel
theorem dX12_joins_16 : decode cX12_joins 16 = .ok (.iload_n 1, 1) := by decide +kernel
theorem dX12_joins_17 : decode cX12_joins 17 = .ok (.iload_n 2, 1) := by decide +kernel
theorem dX12_joins_18 : decode cX12_joins 18 = .ok (.iload_n 3, 1) := by decide +kernel
theorem dX12_joins_19 : decode cX12_joins 19 = .ok (.invokevirtual 276, 3) := by decide +kernel
theorem dX12_joins_22 : decode cX12_joins 22 = .ok (.aload_n 0, 1) := by decide +kernel
theorem dX12_joins_23 : decode cX12_joins 23 = .ok (.getfield 56, 3) := by decide +kernel
theorem dX12_joins_26 : decode cX12_joins 26 = .ok (.iload_n 1, 1) := by decide +kernel
theorem dX12_joins_27 : decode cX12_joins 27 = .ok (.aload_n 0, 1) := by decide +kernel
theorem dX12_joins_28 : decode cX12_joins 28 = .ok (.getfield 233, 3) := by decide +kernel
theorem dX12_joins_31 : decode cX12_joins 31 = .ok (.iastore, 1) := by decide +kernel
theorem dX12_joins_32 : decode cX12_joins 32 = .ok (.iconst 0, 1) := by decide +kernel
theorem dX12_joins_33 : decode cX12_joins 33 = .ok (.istore 4, 2) := by decide +kernel
theorem dX12_joins_35 : decode cX12_joins 35 = .ok (.iload 4, 2) := by decide +kernel
theorem dX12_joins_37 : decode cX12_joins 37 = .ok (.aload_n 0, 1) := by decide +kernel
theorem dX12_joins_38 : decode cX12_joins 38 = .ok (.getfield 233, 3) := by decide +kernel
theorem dX12_joins_41 : decode cX12_joins 41 = .ok (.if_icmp .ge 29, 3) := by decide +kernel
theorem dX12_joins_44 : decode cX12_joins 44 = .ok (.aload_n 0, 1) := by decide +kernel
theorem dX12_joins_45 : decode cX12_joins 45 = .ok (.getfield 53, 3) := by decide +kernel
theorem dX12_joins_48 : decode cX12_joins 48 = .ok (.sipush 1200, 3) := by decide +kernel
theorem dX12_joins_51 : decode cX12_joins 51 = .ok (.iload_n 1, 1) := by decide +kernel
theorem dX12_joins_52 : decode cX12_joins 52 = .ok (.imul, 1) := by decide +kernel
theorem dX12_joins_53 : decode cX12_joins 53 = .ok (.iload 4, 2) := by decide +kernel
theorem dX12_joins_55 : decode cX12_joins 55 = .ok (.iadd, 1) := by decide +kernel
theorem dX12_joins_56 : decode cX12_joins 56 = .ok (.aload_n 0, 1) := by decide +kernel
theorem dX12_joins_57 : decode cX12_joins 57 = .ok (.getfield 59, 3) := by decide +kernel
theorem dX12_joins_60 : decode cX12_joins 60 = .ok (.iload 4, 2) := by decide +kernel
theorem dX12_joins_62 : decode cX12_joins 62 = .ok (.iaload, 1) := by decide +kernel
theorem dX12_joins_63 : decode cX12_joins 63 = .ok (.iastore, 1) := by decide +kernel
theorem dX12_joins_64 : decode cX12_joins 64 = .ok (.iinc 4 1, 3) := by decide +kernel
theorem dX12_joins_67 : decode cX12_joins 67 = .ok (.goto (-32), 3) := by decide +kernel
theorem dX12_joins_70 : decode cX12_joins 70 = .ok (.return_, 1) := by decide +kernel
theorem dX12_result_0 : decode cX12_result 0 = .ok (.iload_n 1, 1) := by decide +kernel
theorem dX12_result_1 : decode cX12_result 1 = .ok (.ifCond .ge 6, 3) := by decide +kernel
theorem dX12_result_4 : decode cX12_result 4 = .ok (.bipush (-2), 2) := by decide +kernel
theorem dX12_result_6 : decode cX12_result 6 = .ok (.ireturn, 1) := by decide +kernel
theorem dX12_result_7 : decode cX12_result 7 = .ok (.aload_n 0, 1) := by decide +kernel
theorem dX12_result_8 : decode cX12_result 8 = .ok (.getfield 25, 3) := by decide +kernel
theorem dX12_result_11 : decode cX12_result 11 = .ok (.iconst (-1), 1) := by decide +kernel
theorem dX12_result_12 : decode cX12_result 12 = .ok (.if_icmp .ne 8, 3) := by decide +kernel
theorem dX12_result_15 : decode cX12_result 15 = .ok (.bipush (-3), 2) := by decide +kernel
theorem dX12_result_17 : decode cX12_result 17 = .ok (.goto 21, 3) := by decide +kernel
theorem dX12_result_20 : decode cX12_result 20 = .ok (.iload_n 1, 1) := by decide +kernel
theorem dX12_result_21 : decode cX12_result 21 = .ok (.aload_n 0, 1) := by decide +kernel
theorem dX12_result_22 : decode cX12_result 22 = .ok (.getfield 25, 3) := by decide +kernel
theorem dX12_result_25 : decode cX12_result 25 = .ok (.if_icmp .ge 12, 3) := by decide +kernel
theorem dX12_result_28 : decode cX12_result 28 = .ok (.aload_n 0, 1) := by decide +kernel
theorem dX12_result_29 : decode cX12_result 29 = .ok (.getfield 22, 3) := by decide +kernel
theorem dX12_result_32 : decode cX12_result 32 = .ok (.iload_n 1, 1) := by decide +kernel
theorem dX12_result_33 : decode cX12_result 33 = .ok (.iaload, 1) := by decide +kernel
theorem dX12_result_34 : decode cX12_result 34 = .ok (.goto 4, 3) := by decide +kernel
theorem dX12_result_37 : decode cX12_result 37 = .ok (.iconst (-1), 1) := by decide +kernel
theorem dX12_result_38 : decode cX12_result 38 = .ok (.ireturn, 1) := by decide +kernel
theorem dX12_common_0 : decode cX12_common 0 = .ok (.iload_n 1, 1) := by decide +kernel
theorem dX12_common_1 : decode cX12_common 1 = .ok (.invokestatic 73, 3) := by decide +kernel
theorem dX12_common_4 : decode cX12_common 4 = .ok (.ifCond .eq 19, 3) := by decide +kernel
