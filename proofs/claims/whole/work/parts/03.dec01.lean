theorem dX4_intersect_68 : decode cX4_intersect 68 = .ok (.iload 5, 2) := by decide +kernel
theorem dX4_intersect_70 : decode cX4_intersect 70 = .ok (.iload 6, 2) := by decide +kernel
theorem dX4_intersect_72 : decode cX4_intersect 72 = .ok (.if_icmp .ge 21, 3) := by decide +kernel
theorem dX4_intersect_75 : decode cX4_intersect 75 = .ok (.iload_n 3, 1) := by decide +kernel
theorem dX4_intersect_76 : decode cX4_intersect 76 = .ok (.iconst 1, 1) := by decide +kernel
theorem dX4_intersect_77 : decode cX4_intersect 77 = .ok (.iadd, 1) := by decide +kernel
theorem dX4_intersect_78 : decode cX4_intersect 78 = .ok (.aload_n 0, 1) := by decide +kernel
theorem dX4_intersect_79 : decode cX4_intersect 79 = .ok (.aload_n 1, 1) := by decide +kernel
theorem dX4_intersect_80 : decode cX4_intersect 80 = .ok (.iload_n 3, 1) := by decide +kernel
theorem dX4_intersect_81 : decode cX4_intersect 81 = .ok (.iload 6, 2) := by decide +kernel
theorem dX4_intersect_83 : decode cX4_intersect 83 = .ok (.invokevirtual 22, 3) := by decide +kernel
theorem dX4_intersect_86 : decode cX4_intersect 86 = .ok (.invokestatic 26, 3) := by decide +kernel
theorem dX4_intersect_89 : decode cX4_intersect 89 = .ok (.istore_n 3, 1) := by decide +kernel
theorem dX4_intersect_90 : decode cX4_intersect 90 = .ok (.goto 21, 3) := by decide +kernel
theorem dX4_intersect_93 : decode cX4_intersect 93 = .ok (.iload 4, 2) := by decide +kernel
theorem dX4_intersect_95 : decode cX4_intersect 95 = .ok (.iconst 1, 1) := by decide +kernel
theorem dX4_intersect_96 : decode cX4_intersect 96 = .ok (.iadd, 1) := by decide +kernel
theorem dX4_intersect_97 : decode cX4_intersect 97 = .ok (.aload_n 0, 1) := by decide +kernel
theorem dX4_intersect_98 : decode cX4_intersect 98 = .ok (.aload_n 2, 1) := by decide +kernel
theorem dX4_intersect_99 : decode cX4_intersect 99 = .ok (.iload 4, 2) := by decide +kernel
theorem dX4_intersect_101 : decode cX4_intersect 101 = .ok (.iload 5, 2) := by decide +kernel
theorem dX4_intersect_103 : decode cX4_intersect 103 = .ok (.invokevirtual 22, 3) := by decide +kernel
theorem dX4_intersect_106 : decode cX4_intersect 106 = .ok (.invokestatic 26, 3) := by decide +kernel
theorem dX4_intersect_109 : decode cX4_intersect 109 = .ok (.istore 4, 2) := by decide +kernel
theorem dX4_intersect_111 : decode cX4_intersect 111 = .ok (.goto (-101), 3) := by decide +kernel
theorem dX4_intersect_114 : decode cX4_intersect 114 = .ok (.return_, 1) := by decide +kernel
theorem dX4_gallop_0 : decode cX4_gallop 0 = .ok (.aload_n 0, 1) := by decide +kernel
theorem dX4_gallop_1 : decode cX4_gallop 1 = .ok (.aload_n 1, 1) := by decide +kernel
theorem dX4_gallop_2 : decode cX4_gallop 2 = .ok (.iload_n 2, 1) := by decide +kernel
theorem dX4_gallop_3 : decode cX4_gallop 3 = .ok (.iload_n 3, 1) := by decide +kernel
theorem dX4_gallop_4 : decode cX4_gallop 4 = .ok (.invokevirtual 32, 3) := by decide +kernel
theorem dX4_gallop_7 : decode cX4_gallop 7 = .ok (.ifCond .eq 5, 3) := by decide +kernel
theorem dX4_gallop_10 : decode cX4_gallop 10 = .ok (.iload_n 2, 1) := by decide +kernel
theorem dX4_gallop_11 : decode cX4_gallop 11 = .ok (.ireturn, 1) := by decide +kernel
theorem dX4_gallop_12 : decode cX4_gallop 12 = .ok (.iload_n 2, 1) := by decide +kernel
theorem dX4_gallop_13 : decode cX4_gallop 13 = .ok (.istore 4, 2) := by decide +kernel
theorem dX4_gallop_15 : decode cX4_gallop 15 = .ok (.aload_n 1, 1) := by decide +kernel
theorem dX4_gallop_16 : decode cX4_gallop 16 = .ok (.getfield 13, 3) := by decide +kernel
theorem dX4_gallop_19 : decode cX4_gallop 19 = .ok (.istore 5, 2) := by decide +kernel
theorem dX4_gallop_21 : decode cX4_gallop 21 = .ok (.iconst 1, 1) := by decide +kernel
theorem dX4_gallop_22 : decode cX4_gallop 22 = .ok (.istore 6, 2) := by decide +kernel
theorem dX4_gallop_24 : decode cX4_gallop 24 = .ok (.iload_n 2, 1) := by decide +kernel
theorem dX4_gallop_25 : decode cX4_gallop 25 = .ok (.iload 6, 2) := by decide +kernel
theorem dX4_gallop_27 : decode cX4_gallop 27 = .ok (.iadd, 1) := by decide +kernel
theorem dX4_gallop_28 : decode cX4_gallop 28 = .ok (.aload_n 1, 1) := by decide +kernel
theorem dX4_gallop_29 : decode cX4_gallop 29 = .ok (.getfield 13, 3) := by decide +kernel
theorem dX4_gallop_32 : decode cX4_gallop 32 = .ok (.if_icmp .ge 40, 3) := by decide +kernel
theorem dX4_gallop_35 : decode cX4_gallop 35 = .ok (.aload_n 0, 1) := by decide +kernel
theorem dX4_gallop_36 : decode cX4_gallop 36 = .ok (.aload_n 1, 1) := by decide +kernel
theorem dX4_gallop_37 : decode cX4_gallop 37 = .ok (.iload_n 2, 1) := by decide +kernel
theorem dX4_gallop_38 : decode cX4_gallop 38 = .ok (.iload 6, 2) := by decide +kernel
theorem dX4_gallop_40 : decode cX4_gallop 40 = .ok (.iadd, 1) := by decide +kernel
theorem dX4_gallop_41 : decode cX4_gallop 41 = .ok (.iload_n 3, 1) := by decide +kernel
theorem dX4_gallop_42 : decode cX4_gallop 42 = .ok (.invokevirtual 32, 3) := by decide +kernel
theorem dX4_gallop_45 : decode cX4_gallop 45 = .ok (.ifCond .eq 12, 3) := by decide +kernel
theorem dX4_gallop_48 : decode cX4_gallop 48 = .ok (.iload_n 2, 1) := by decide +kernel
theorem dX4_gallop_49 : decode cX4_gallop 49 = .ok (.iload 6, 2) := by decide +kernel
theorem dX4_gallop_51 : decode cX4_gallop 51 = .ok (.iadd, 1) := by decide +kernel
theorem dX4_gallop_52 : decode cX4_gallop 52 = .ok (.istore 5, 2) := by decide +kernel
theorem dX4_gallop_54 : decode cX4_gallop 54 = .ok (.goto 18, 3) := by decide +kernel
theorem dX4_gallop_57 : decode cX4_gallop 57 = .ok (.iload_n 2, 1) := by decide +kernel
theorem dX4_gallop_58 : decode cX4_gallop 58 = .ok (.iload 6, 2) := by decide +kernel
theorem dX4_gallop_60 : decode cX4_gallop 60 = .ok (.iadd, 1) := by decide +kernel
theorem dX4_gallop_61 : decode cX4_gallop 61 = .ok (.istore 4, 2) := by decide +kernel
theorem dX4_gallop_63 : decode cX4_gallop 63 = .ok (.iload 6, 2) := by decide +kernel
theorem dX4_gallop_65 : decode cX4_gallop 65 = .ok (.iconst 2, 1) := by decide +kernel
theorem dX4_gallop_66 : decode cX4_gallop 66 = .ok (.imul, 1) := by decide +kernel
theorem dX4_gallop_67 : decode cX4_gallop 67 = .ok (.istore 6, 2) := by decide +kernel
theorem dX4_gallop_69 : decode cX4_gallop 69 = .ok (.goto (-45), 3) := by decide +kernel
theorem dX4_gallop_72 : decode cX4_gallop 72 = .ok (.iload 4, 2) := by decide +kernel
theorem dX4_gallop_74 : decode cX4_gallop 74 = .ok (.iconst 1, 1) := by decide +kernel
theorem dX4_gallop_75 : decode cX4_gallop 75 = .ok (.iadd, 1) := by decide +kernel
theorem dX4_gallop_76 : decode cX4_gallop 76 = .ok (.iload 5, 2) := by decide +kernel
theorem dX4_gallop_78 : decode cX4_gallop 78 = .ok (.if_icmp .ge 37, 3) := by decide +kernel
theorem dX4_gallop_81 : decode cX4_gallop 81 = .ok (.iload 4, 2) := by decide +kernel
theorem dX4_gallop_83 : decode cX4_gallop 83 = .ok (.iload 5, 2) := by decide +kernel
theorem dX4_gallop_85 : decode cX4_gallop 85 = .ok (.iadd, 1) := by decide +kernel
theorem dX4_gallop_86 : decode cX4_gallop 86 = .ok (.iconst 2, 1) := by decide +kernel
theorem dX4_gallop_87 : decode cX4_gallop 87 = .ok (.idiv, 1) := by decide +kernel
theorem dX4_gallop_88 : decode cX4_gallop 88 = .ok (.istore 6, 2) := by decide +kernel
theorem dX4_gallop_90 : decode cX4_gallop 90 = .ok (.aload_n 0, 1) := by decide +kernel
theorem dX4_gallop_91 : decode cX4_gallop 91 = .ok (.aload_n 1, 1) := by decide +kernel
theorem dX4_gallop_92 : decode cX4_gallop 92 = .ok (.iload 6, 2) := by decide +kernel
theorem dX4_gallop_94 : decode cX4_gallop 94 = .ok (.iload_n 3, 1) := by decide +kernel
theorem dX4_gallop_95 : decode cX4_gallop 95 = .ok (.invokevirtual 32, 3) := by decide +kernel
theorem dX4_gallop_98 : decode cX4_gallop 98 = .ok (.ifCond .eq 10, 3) := by decide +kernel
theorem dX4_gallop_101 : decode cX4_gallop 101 = .ok (.iload 6, 2) := by decide +kernel
theorem dX4_gallop_103 : decode cX4_gallop 103 = .ok (.istore 5, 2) := by decide +kernel
theorem dX4_gallop_105 : decode cX4_gallop 105 = .ok (.goto 7, 3) := by decide +kernel
theorem dX4_gallop_108 : decode cX4_gallop 108 = .ok (.iload 6, 2) := by decide +kernel
theorem dX4_gallop_110 : decode cX4_gallop 110 = .ok (.istore 4, 2) := by decide +kernel
theorem dX4_gallop_112 : decode cX4_gallop 112 = .ok (.goto (-40), 3) := by decide +kernel
theorem dX4_gallop_115 : decode cX4_gallop 115 = .ok (.iload 5, 2) := by decide +kernel
theorem dX4_gallop_117 : decode cX4_gallop 117 = .ok (.ireturn, 1) := by decide +kernel
theorem dX4_reaches_0 : decode cX4_reaches 0 = .ok (.aload_n 0, 1) := by decide +kernel
theorem dX4_reaches_1 : decode cX4_reaches 1 = .ok (.dup, 1) := by decide +kernel
theorem dX4_reaches_2 : decode cX4_reaches 2 = .ok (.getfield 36, 3) := by decide +kernel
theorem dX4_reaches_5 : decode cX4_reaches 5 = .ok (.iconst 1, 1) := by decide +kernel
theorem dX4_reaches_6 : decode cX4_reaches 6 = .ok (.iadd, 1) := by decide +kernel
theorem dX4_reaches_7 : decode cX4_reaches 7 = .ok (.putfield 36, 3) := by decide +kernel
theorem dX4_reaches_10 : decode cX4_reaches 10 = .ok (.aload_n 1, 1) := by decide +kernel
theorem dX4_reaches_11 : decode cX4_reaches 11 = .ok (.iload_n 2, 1) := by decide +kernel
theorem dX4_reaches_12 : decode cX4_reaches 12 = .ok (.invokevirtual 18, 3) := by decide +kernel
theorem dX4_reaches_15 : decode cX4_reaches 15 = .ok (.iload_n 3, 1) := by decide +kernel
theorem dX4_reaches_16 : decode cX4_reaches 16 = .ok (.if_icmp .lt 7, 3) := by decide +kernel
theorem dX4_reaches_19 : decode cX4_reaches 19 = .ok (.iconst 1, 1) := by decide +kernel
theorem dX4_reaches_20 : decode cX4_reaches 20 = .ok (.goto 4, 3) := by decide +kernel
theorem dX4_reaches_23 : decode cX4_reaches 23 = .ok (.iconst 0, 1) := by decide +kernel
theorem dX4_reaches_24 : decode cX4_reaches 24 = .ok (.ireturn, 1) := by decide +kernel
theorem dX5_init_0 : decode cX5_init 0 = .ok (.aload_n 0, 1) := by decide +kernel
theorem dX5_init_1 : decode cX5_init 1 = .ok (.invokespecial 3, 3) := by decide +kernel
theorem dX5_init_4 : decode cX5_init 4 = .ok (.aload_n 0, 1) := by decide +kernel
theorem dX5_init_5 : decode cX5_init 5 = .ok (.bipush 8, 2) := by decide +kernel
theorem dX5_init_7 : decode cX5_init 7 = .ok (.newarray .int, 2) := by decide +kernel
theorem dX5_init_9 : decode cX5_init 9 = .ok (.putfield 9, 3) := by decide +kernel
theorem dX5_init_12 : decode cX5_init 12 = .ok (.aload_n 0, 1) := by decide +kernel
theorem dX5_init_13 : decode cX5_init 13 = .ok (.bipush 8, 2) := by decide +kernel
theorem dX5_init_15 : decode cX5_init 15 = .ok (.anewarray 15, 3) := by decide +kernel
theorem dX5_init_18 : decode cX5_init 18 = .ok (.putfield 17, 3) := by decide +kernel
theorem dX5_init_21 : decode cX5_init 21 = .ok (.iconst 0, 1) := by decide +kernel
theorem dX5_init_22 : decode cX5_init 22 = .ok (.istore_n 1, 1) := by decide +kernel
theorem dX5_init_23 : decode cX5_init 23 = .ok (.iload_n 1, 1) := by decide +kernel
theorem dX5_init_24 : decode cX5_init 24 = .ok (.bipush 8, 2) := by decide +kernel
theorem dX5_init_26 : decode cX5_init 26 = .ok (.if_icmp .ge 22, 3) := by decide +kernel
theorem dX5_init_29 : decode cX5_init 29 = .ok (.aload_n 0, 1) := by decide +kernel
theorem dX5_init_30 : decode cX5_init 30 = .ok (.getfield 17, 3) := by decide +kernel
theorem dX5_init_33 : decode cX5_init 33 = .ok (.iload_n 1, 1) := by decide +kernel
theorem dX5_init_34 : decode cX5_init 34 = .ok (.new 15, 3) := by decide +kernel
theorem dX5_init_37 : decode cX5_init 37 = .ok (.dup, 1) := by decide +kernel
theorem dX5_init_38 : decode cX5_init 38 = .ok (.invokespecial 21, 3) := by decide +kernel
theorem dX5_init_41 : decode cX5_init 41 = .ok (.aastore, 1) := by decide +kernel
theorem dX5_init_42 : decode cX5_init 42 = .ok (.iinc 1 1, 3) := by decide +kernel
theorem dX5_init_45 : decode cX5_init 45 = .ok (.goto (-22), 3) := by decide +kernel
theorem dX5_init_48 : decode cX5_init 48 = .ok (.return_, 1) := by decide +kernel
theorem dX5_record_0 : decode cX5_record 0 = .ok (.aload_n 0, 1) := by decide +kernel
theorem dX5_record_1 : decode cX5_record 1 = .ok (.aload_n 0, 1) := by decide +kernel
theorem dX5_record_2 : decode cX5_record 2 = .ok (.getfield 22, 3) := by decide +kernel
theorem dX5_record_5 : decode cX5_record 5 = .ok (.iconst 1, 1) := by decide +kernel
theorem dX5_record_6 : decode cX5_record 6 = .ok (.iadd, 1) := by decide +kernel
theorem dX5_record_7 : decode cX5_record 7 = .ok (.bipush 8, 2) := by decide +kernel
theorem dX5_record_9 : decode cX5_record 9 = .ok (.irem, 1) := by decide +kernel
theorem dX5_record_10 : decode cX5_record 10 = .ok (.putfield 22, 3) := by decide +kernel
theorem dX5_record_13 : decode cX5_record 13 = .ok (.aload_n 0, 1) := by decide +kernel
theorem dX5_record_14 : decode cX5_record 14 = .ok (.getfield 9, 3) := by decide +kernel
theorem dX5_record_17 : decode cX5_record 17 = .ok (.aload_n 0, 1) := by decide +kernel
theorem dX5_record_18 : decode cX5_record 18 = .ok (.getfield 22, 3) := by decide +kernel
theorem dX5_record_21 : decode cX5_record 21 = .ok (.iload_n 1, 1) := by decide +kernel
theorem dX5_record_22 : decode cX5_record 22 = .ok (.iastore, 1) := by decide +kernel
theorem dX5_record_23 : decode cX5_record 23 = .ok (.aload_n 0, 1) := by decide +kernel
theorem dX5_record_24 : decode cX5_record 24 = .ok (.getfield 17, 3) := by decide +kernel
theorem dX5_record_27 : decode cX5_record 27 = .ok (.aload_n 0, 1) := by decide +kernel
theorem dX5_record_28 : decode cX5_record 28 = .ok (.getfield 22, 3) := by decide +kernel
theorem dX5_record_31 : decode cX5_record 31 = .ok (.aaload, 1) := by decide +kernel
theorem dX5_record_32 : decode cX5_record 32 = .ok (.aload_n 2, 1) := by decide +kernel
theorem dX5_record_33 : decode cX5_record 33 = .ok (.invokevirtual 26, 3) := by decide +kernel
theorem dX5_record_36 : decode cX5_record 36 = .ok (.aload_n 0, 1) := by decide +kernel
theorem dX5_record_37 : decode cX5_record 37 = .ok (.aload_n 0, 1) := by decide +kernel
theorem dX5_record_38 : decode cX5_record 38 = .ok (.getfield 30, 3) := by decide +kernel
theorem dX5_record_41 : decode cX5_record 41 = .ok (.iconst 1, 1) := by decide +kernel
theorem dX5_record_42 : decode cX5_record 42 = .ok (.iadd, 1) := by decide +kernel
theorem dX5_record_43 : decode cX5_record 43 = .ok (.bipush 8, 2) := by decide +kernel
theorem dX5_record_45 : decode cX5_record 45 = .ok (.invokestatic 33, 3) := by decide +kernel
theorem dX5_record_48 : decode cX5_record 48 = .ok (.putfield 30, 3) := by decide +kernel
theorem dX5_record_51 : decode cX5_record 51 = .ok (.return_, 1) := by decide +kernel
theorem dX5_restoreLatest_0 : decode cX5_restoreLatest 0 = .ok (.aload_n 0, 1) := by decide +kernel
theorem dX5_restoreLatest_1 : decode cX5_restoreLatest 1 = .ok (.getfield 30, 3) := by decide +kernel
theorem dX5_restoreLatest_4 : decode cX5_restoreLatest 4 = .ok (.ifCond .le 66, 3) := by decide +kernel
theorem dX5_restoreLatest_7 : decode cX5_restoreLatest 7 = .ok (.aload_n 0, 1) := by decide +kernel
theorem dX5_restoreLatest_8 : decode cX5_restoreLatest 8 = .ok (.getfield 9, 3) := by decide +kernel
theorem dX5_restoreLatest_11 : decode cX5_restoreLatest 11 = .ok (.aload_n 0, 1) := by decide +kernel
theorem dX5_restoreLatest_12 : decode cX5_restoreLatest 12 = .ok (.getfield 22, 3) := by decide +kernel
theorem dX5_restoreLatest_15 : decode cX5_restoreLatest 15 = .ok (.iaload, 1) := by decide +kernel
theorem dX5_restoreLatest_16 : decode cX5_restoreLatest 16 = .ok (.aload_n 1, 1) := by decide +kernel
theorem dX5_restoreLatest_17 : decode cX5_restoreLatest 17 = .ok (.arraylength, 1) := by decide +kernel
theorem dX5_restoreLatest_18 : decode cX5_restoreLatest 18 = .ok (.if_icmp .ge 52, 3) := by decide +kernel
theorem dX5_restoreLatest_21 : decode cX5_restoreLatest 21 = .ok (.aload_n 1, 1) := by decide +kernel
theorem dX5_restoreLatest_22 : decode cX5_restoreLatest 22 = .ok (.aload_n 0, 1) := by decide +kernel
theorem dX5_restoreLatest_23 : decode cX5_restoreLatest 23 = .ok (.getfield 9, 3) := by decide +kernel
theorem dX5_restoreLatest_26 : decode cX5_restoreLatest 26 = .ok (.aload_n 0, 1) := by decide +kernel
theorem dX5_restoreLatest_27 : decode cX5_restoreLatest 27 = .ok (.getfield 22, 3) := by decide +kernel
theorem dX5_restoreLatest_30 : decode cX5_restoreLatest 30 = .ok (.iaload, 1) := by decide +kernel
theorem dX5_restoreLatest_31 : decode cX5_restoreLatest 31 = .ok (.aaload, 1) := by decide +kernel
theorem dX5_restoreLatest_32 : decode cX5_restoreLatest 32 = .ok (.aload_n 0, 1) := by decide +kernel
theorem dX5_restoreLatest_33 : decode cX5_restoreLatest 33 = .ok (.getfield 17, 3) := by decide +kernel
theorem dX5_restoreLatest_36 : decode cX5_restoreLatest 36 = .ok (.aload_n 0, 1) := by decide +kernel
theorem dX5_restoreLatest_37 : decode cX5_restoreLatest 37 = .ok (.getfield 22, 3) := by decide +kernel
theorem dX5_restoreLatest_40 : decode cX5_restoreLatest 40 = .ok (.aaload, 1) := by decide +kernel
theorem dX5_restoreLatest_41 : decode cX5_restoreLatest 41 = .ok (.invokevirtual 26, 3) := by decide +kernel
theorem dX5_restoreLatest_44 : decode cX5_restoreLatest 44 = .ok (.aload_n 0, 1) := by decide +kernel
theorem dX5_restoreLatest_45 : decode cX5_restoreLatest 45 = .ok (.aload_n 0, 1) := by decide +kernel
theorem dX5_restoreLatest_46 : decode cX5_restoreLatest 46 = .ok (.getfield 22, 3) := by decide +kernel
theorem dX5_restoreLatest_49 : decode cX5_restoreLatest 49 = .ok (.bipush 8, 2) := by decide +kernel
theorem dX5_restoreLatest_51 : decode cX5_restoreLatest 51 = .ok (.iadd, 1) := by decide +kernel
theorem dX5_restoreLatest_52 : decode cX5_restoreLatest 52 = .ok (.iconst 1, 1) := by decide +kernel
theorem dX5_restoreLatest_53 : decode cX5_restoreLatest 53 = .ok (.isub, 1) := by decide +kernel
theorem dX5_restoreLatest_54 : decode cX5_restoreLatest 54 = .ok (.bipush 8, 2) := by decide +kernel
theorem dX5_restoreLatest_56 : decode cX5_restoreLatest 56 = .ok (.irem, 1) := by decide +kernel
theorem dX5_restoreLatest_57 : decode cX5_restoreLatest 57 = .ok (.putfield 22, 3) := by decide +kernel
theorem dX5_restoreLatest_60 : decode cX5_restoreLatest 60 = .ok (.aload_n 0, 1) := by decide +kernel
theorem dX5_restoreLatest_61 : decode cX5_restoreLatest 61 = .ok (.dup, 1) := by decide +kernel
theorem dX5_restoreLatest_62 : decode cX5_restoreLatest 62 = .ok (.getfield 30, 3) := by decide +kernel
theorem dX5_restoreLatest_65 : decode cX5_restoreLatest 65 = .ok (.iconst 1, 1) := by decide +kernel
theorem dX5_restoreLatest_66 : decode cX5_restoreLatest 66 = .ok (.isub, 1) := by decide +kernel
theorem dX5_restoreLatest_67 : decode cX5_restoreLatest 67 = .ok (.putfield 30, 3) := by decide +kernel
theorem dX5_restoreLatest_70 : decode cX5_restoreLatest 70 = .ok (.return_, 1) := by decide +kernel
theorem dX6_init_0 : decode cX6_init 0 = .ok (.aload_n 0, 1) := by decide +kernel
theorem dX6_init_1 : decode cX6_init 1 = .ok (.invokespecial 3, 3) := by decide +kernel
theorem dX6_init_4 : decode cX6_init 4 = .ok (.aload_n 0, 1) := by decide +kernel
theorem dX6_init_5 : decode cX6_init 5 = .ok (.new 9, 3) := by decide +kernel
theorem dX6_init_8 : decode cX6_init 8 = .ok (.dup, 1) := by decide +kernel
theorem dX6_init_9 : decode cX6_init 9 = .ok (.invokespecial 11, 3) := by decide +kernel
theorem dX6_init_12 : decode cX6_init 12 = .ok (.putfield 12, 3) := by decide +kernel
theorem dX6_init_15 : decode cX6_init 15 = .ok (.aload_n 0, 1) := by decide +kernel
theorem dX6_init_16 : decode cX6_init 16 = .ok (.new 18, 3) := by decide +kernel
theorem dX6_init_19 : decode cX6_init 19 = .ok (.dup, 1) := by decide +kernel
theorem dX6_init_20 : decode cX6_init 20 = .ok (.sipush 1200, 3) := by decide +kernel
theorem dX6_init_23 : decode cX6_init 23 = .ok (.invokespecial 20, 3) := by decide +kernel
theorem dX6_init_26 : decode cX6_init 26 = .ok (.putfield 23, 3) := by decide +kernel
theorem dX6_init_29 : decode cX6_init 29 = .ok (.aload_n 0, 1) := by decide +kernel
theorem dX6_init_30 : decode cX6_init 30 = .ok (.new 18, 3) := by decide +kernel
theorem dX6_init_33 : decode cX6_init 33 = .ok (.dup, 1) := by decide +kernel
theorem dX6_init_34 : decode cX6_init 34 = .ok (.sipush 1200, 3) := by decide +kernel
theorem dX6_init_37 : decode cX6_init 37 = .ok (.invokespecial 20, 3) := by decide +kernel
theorem dX6_init_40 : decode cX6_init 40 = .ok (.putfield 27, 3) := by decide +kernel
theorem dX6_init_43 : decode cX6_init 43 = .ok (.aload_n 0, 1) := by decide +kernel
theorem dX6_init_44 : decode cX6_init 44 = .ok (.sipush 1200, 3) := by decide +kernel
theorem dX6_init_47 : decode cX6_init 47 = .ok (.newarray .int, 2) := by decide +kernel
theorem dX6_init_49 : decode cX6_init 49 = .ok (.putfield 30, 3) := by decide +kernel
theorem dX6_init_52 : decode cX6_init 52 = .ok (.aload_n 0, 1) := by decide +kernel
theorem dX6_init_53 : decode cX6_init 53 = .ok (.new 18, 3) := by decide +kernel
theorem dX6_init_56 : decode cX6_init 56 = .ok (.dup, 1) := by decide +kernel
theorem dX6_init_57 : decode cX6_init 57 = .ok (.sipush 1200, 3) := by decide +kernel
theorem dX6_init_60 : decode cX6_init 60 = .ok (.invokespecial 20, 3) := by decide +kernel
theorem dX6_init_63 : decode cX6_init 63 = .ok (.putfield 34, 3) := by decide +kernel
theorem dX6_init_66 : decode cX6_init 66 = .ok (.aload_n 0, 1) := by decide +kernel
theorem dX6_init_67 : decode cX6_init 67 = .ok (.new 18, 3) := by decide +kernel
theorem dX6_init_70 : decode cX6_init 70 = .ok (.dup, 1) := by decide +kernel
theorem dX6_init_71 : decode cX6_init 71 = .ok (.sipush 1200, 3) := by decide +kernel
theorem dX6_init_74 : decode cX6_init 74 = .ok (.invokespecial 20, 3) := by decide +kernel
theorem dX6_init_77 : decode cX6_init 77 = .ok (.putfield 37, 3) := by decide +kernel
theorem dX6_init_80 : decode cX6_init 80 = .ok (.aload_n 0, 1) := by decide +kernel
theorem dX6_init_81 : decode cX6_init 81 = .ok (.bipush 100, 2) := by decide +kernel
theorem dX6_init_83 : decode cX6_init 83 = .ok (.newarray .long, 2) := by decide +kernel
theorem dX6_init_85 : decode cX6_init 85 = .ok (.putfield 40, 3) := by decide +kernel
theorem dX6_init_88 : decode cX6_init 88 = .ok (.aload_n 0, 1) := by decide +kernel
theorem dX6_init_89 : decode cX6_init 89 = .ok (.bipush 6, 2) := by decide +kernel
theorem dX6_init_91 : decode cX6_init 91 = .ok (.newarray .int, 2) := by decide +kernel
theorem dX6_init_93 : decode cX6_init 93 = .ok (.putfield 44, 3) := by decide +kernel
theorem dX6_init_96 : decode cX6_init 96 = .ok (.return_, 1) := by decide +kernel
theorem dX6_carryOut_0 : decode cX6_carryOut 0 = .ok (.aload_n 0, 1) := by decide +kernel
theorem dX6_carryOut_1 : decode cX6_carryOut 1 = .ok (.aload_n 2, 1) := by decide +kernel
theorem dX6_carryOut_2 : decode cX6_carryOut 2 = .ok (.invokevirtual 47, 3) := by decide +kernel
theorem dX6_carryOut_5 : decode cX6_carryOut 5 = .ok (.aload_n 0, 1) := by decide +kernel
theorem dX6_carryOut_6 : decode cX6_carryOut 6 = .ok (.getfield 12, 3) := by decide +kernel
theorem dX6_carryOut_9 : decode cX6_carryOut 9 = .ok (.iconst 0, 1) := by decide +kernel
theorem dX6_carryOut_10 : decode cX6_carryOut 10 = .ok (.putfield 51, 3) := by decide +kernel
theorem dX6_carryOut_13 : decode cX6_carryOut 13 = .ok (.iconst 0, 1) := by decide +kernel
theorem dX6_carryOut_14 : decode cX6_carryOut 14 = .ok (.istore_n 3, 1) := by decide +kernel
theorem dX6_carryOut_15 : decode cX6_carryOut 15 = .ok (.iconst 0, 1) := by decide +kernel
theorem dX6_carryOut_16 : decode cX6_carryOut 16 = .ok (.istore 4, 2) := by decide +kernel
theorem dX6_carryOut_18 : decode cX6_carryOut 18 = .ok (.iload 4, 2) := by decide +kernel
theorem dX6_carryOut_20 : decode cX6_carryOut 20 = .ok (.aload_n 1, 1) := by decide +kernel
theorem dX6_carryOut_21 : decode cX6_carryOut 21 = .ok (.getfield 55, 3) := by decide +kernel
theorem dX6_carryOut_24 : decode cX6_carryOut 24 = .ok (.if_icmp .ge 88, 3) := by decide +kernel
theorem dX6_carryOut_27 : decode cX6_carryOut 27 = .ok (.aload_n 1, 1) := by decide +kernel
theorem dX6_carryOut_28 : decode cX6_carryOut 28 = .ok (.iload 4, 2) := by decide +kernel
theorem dX6_carryOut_30 : decode cX6_carryOut 30 = .ok (.invokevirtual 58, 3) := by decide +kernel
theorem dX6_carryOut_33 : decode cX6_carryOut 33 = .ok (.istore 5, 2) := by decide +kernel
theorem dX6_carryOut_35 : decode cX6_carryOut 35 = .ok (.iload 5, 2) := by decide +kernel
theorem dX6_carryOut_37 : decode cX6_carryOut 37 = .ok (.bipush 65, 2) := by decide +kernel
theorem dX6_carryOut_39 : decode cX6_carryOut 39 = .ok (.if_icmp .lt 31, 3) := by decide +kernel
theorem dX6_carryOut_42 : decode cX6_carryOut 42 = .ok (.iload 5, 2) := by decide +kernel
theorem dX6_carryOut_44 : decode cX6_carryOut 44 = .ok (.bipush 71, 2) := by decide +kernel
theorem dX6_carryOut_46 : decode cX6_carryOut 46 = .ok (.if_icmp .ge 24, 3) := by decide +kernel
theorem dX6_carryOut_49 : decode cX6_carryOut 49 = .ok (.aload_n 0, 1) := by decide +kernel
theorem dX6_carryOut_50 : decode cX6_carryOut 50 = .ok (.getfield 40, 3) := by decide +kernel
theorem dX6_carryOut_53 : decode cX6_carryOut 53 = .ok (.iload_n 3, 1) := by decide +kernel
theorem dX6_carryOut_54 : decode cX6_carryOut 54 = .ok (.getstatic 62, 3) := by decide +kernel
theorem dX6_carryOut_57 : decode cX6_carryOut 57 = .ok (.iload 5, 2) := by decide +kernel
theorem dX6_carryOut_59 : decode cX6_carryOut 59 = .ok (.bipush 65, 2) := by decide +kernel
theorem dX6_carryOut_61 : decode cX6_carryOut 61 = .ok (.isub, 1) := by decide +kernel
theorem dX6_carryOut_62 : decode cX6_carryOut 62 = .ok (.laload, 1) := by decide +kernel
theorem dX6_carryOut_63 : decode cX6_carryOut 63 = .ok (.lastore, 1) := by decide +kernel
theorem dX6_carryOut_64 : decode cX6_carryOut 64 = .ok (.iinc 3 1, 3) := by decide +kernel
theorem dX6_carryOut_67 : decode cX6_carryOut 67 = .ok (.goto 39, 3) := by decide +kernel
theorem dX6_carryOut_70 : decode cX6_carryOut 70 = .ok (.iload_n 3, 1) := by decide +kernel
theorem dX6_carryOut_71 : decode cX6_carryOut 71 = .ok (.iconst 1, 1) := by decide +kernel
theorem dX6_carryOut_72 : decode cX6_carryOut 72 = .ok (.if_icmp .le 34, 3) := by decide +kernel
theorem dX6_carryOut_75 : decode cX6_carryOut 75 = .ok (.iinc 3 (-1), 3) := by decide +kernel
theorem dX6_carryOut_78 : decode cX6_carryOut 78 = .ok (.aload_n 0, 1) := by decide +kernel
theorem dX6_carryOut_79 : decode cX6_carryOut 79 = .ok (.getfield 40, 3) := by decide +kernel
theorem dX6_carryOut_82 : decode cX6_carryOut 82 = .ok (.iload_n 3, 1) := by decide +kernel
theorem dX6_carryOut_83 : decode cX6_carryOut 83 = .ok (.iconst 1, 1) := by decide +kernel
theorem dX6_carryOut_84 : decode cX6_carryOut 84 = .ok (.isub, 1) := by decide +kernel
theorem dX6_carryOut_85 : decode cX6_carryOut 85 = .ok (.aload_n 0, 1) := by decide +kernel
theorem dX6_carryOut_86 : decode cX6_carryOut 86 = .ok (.iload 5, 2) := by decide +kernel
theorem dX6_carryOut_88 : decode cX6_carryOut 88 = .ok (.aload_n 0, 1) := by decide +kernel
theorem dX6_carryOut_89 : decode cX6_carryOut 89 = .ok (.getfield 40, 3) := by decide +kernel
theorem dX6_carryOut_92 : decode cX6_carryOut 92 = .ok (.iload_n 3, 1) := by decide +kernel
theorem dX6_carryOut_93 : decode cX6_carryOut 93 = .ok (.iconst 1, 1) := by decide +kernel
theorem dX6_carryOut_94 : decode cX6_carryOut 94 = .ok (.isub, 1) := by decide +kernel
theorem dX6_carryOut_95 : decode cX6_carryOut 95 = .ok (.laload, 1) := by decide +kernel
theorem dX6_carryOut_96 : decode cX6_carryOut 96 = .ok (.aload_n 0, 1) := by decide +kernel
theorem dX6_carryOut_97 : decode cX6_carryOut 97 = .ok (.getfield 40, 3) := by decide +kernel
theorem dX6_carryOut_100 : decode cX6_carryOut 100 = .ok (.iload_n 3, 1) := by decide +kernel
theorem dX6_carryOut_101 : decode cX6_carryOut 101 = .ok (.laload, 1) := by decide +kernel
theorem dX6_carryOut_102 : decode cX6_carryOut 102 = .ok (.invokevirtual 65, 3) := by decide +kernel
theorem dX6_carryOut_105 : decode cX6_carryOut 105 = .ok (.lastore, 1) := by decide +kernel
theorem dX6_carryOut_106 : decode cX6_carryOut 106 = .ok (.iinc 4 1, 3) := by decide +kernel
theorem dX6_carryOut_109 : decode cX6_carryOut 109 = .ok (.goto (-91), 3) := by decide +kernel
theorem dX6_carryOut_112 : decode cX6_carryOut 112 = .ok (.aload_n 0, 1) := by decide +kernel
theorem dX6_carryOut_113 : decode cX6_carryOut 113 = .ok (.aload_n 0, 1) := by decide +kernel
theorem dX6_carryOut_114 : decode cX6_carryOut 114 = .ok (.getfield 40, 3) := by decide +kernel
theorem dX6_carryOut_117 : decode cX6_carryOut 117 = .ok (.iconst 0, 1) := by decide +kernel
theorem dX6_carryOut_118 : decode cX6_carryOut 118 = .ok (.laload, 1) := by decide +kernel
theorem dX6_carryOut_119 : decode cX6_carryOut 119 = .ok (.aload_n 0, 1) := by decide +kernel
theorem dX6_carryOut_120 : decode cX6_carryOut 120 = .ok (.getfield 23, 3) := by decide +kernel
theorem dX6_carryOut_123 : decode cX6_carryOut 123 = .ok (.invokevirtual 69, 3) := by decide +kernel
theorem dX6_carryOut_126 : decode cX6_carryOut 126 = .ok (.return_, 1) := by decide +kernel
theorem dX6_join_0 : decode cX6_join 0 = .ok (.iload_n 1, 1) := by decide +kernel
theorem dX6_join_1 : decode cX6_join 1 = .ok (.lookupswitch 54 #[(45, 40), (94, 49), (124, 35)], 35) := by decide +kernel
theorem dX6_join_36 : decode cX6_join 36 = .ok (.lload_n 2, 1) := by decide +kernel
theorem dX6_join_37 : decode cX6_join 37 = .ok (.lload 4, 2) := by decide +kernel
theorem dX6_join_39 : decode cX6_join 39 = .ok (.lor, 1) := by decide +kernel
theorem dX6_join_40 : decode cX6_join 40 = .ok (.lreturn, 1) := by decide +kernel
theorem dX6_join_41 : decode cX6_join 41 = .ok (.lload_n 2, 1) := by decide +kernel
theorem dX6_join_42 : decode cX6_join 42 = .ok (.lload 4, 2) := by decide +kernel
theorem dX6_join_44 : decode cX6_join 44 = .ok (.ldc2_w 73, 3) := by decide +kernel
theorem dX6_join_47 : decode cX6_join 47 = .ok (.lxor, 1) := by decide +kernel
theorem dX6_join_48 : decode cX6_join 48 = .ok (.land, 1) := by decide +kernel
theorem dX6_join_49 : decode cX6_join 49 = .ok (.lreturn, 1) := by decide +kernel
theorem dX6_join_50 : decode cX6_join 50 = .ok (.lload_n 2, 1) := by decide +kernel
theorem dX6_join_51 : decode cX6_join 51 = .ok (.lload 4, 2) := by decide +kernel
theorem dX6_join_53 : decode cX6_join 53 = .ok (.lxor, 1) := by decide +kernel
theorem dX6_join_54 : decode cX6_join 54 = .ok (.lreturn, 1) := by decide +kernel
theorem dX6_join_55 : decode cX6_join 55 = .ok (.aload_n 0, 1) := by decide +kernel
theorem dX6_join_56 : decode cX6_join 56 = .ok (.lload_n 2, 1) := by decide +kernel
theorem dX6_join_57 : decode cX6_join 57 = .ok (.aload_n 0, 1) := by decide +kernel
theorem dX6_join_58 : decode cX6_join 58 = .ok (.getfield 34, 3) := by decide +kernel
theorem dX6_join_61 : decode cX6_join 61 = .ok (.invokevirtual 69, 3) := by decide +kernel
theorem dX6_join_64 : decode cX6_join 64 = .ok (.aload_n 0, 1) := by decide +kernel
theorem dX6_join_65 : decode cX6_join 65 = .ok (.lload 4, 2) := by decide +kernel
theorem dX6_join_67 : decode cX6_join 67 = .ok (.aload_n 0, 1) := by decide +kernel
theorem dX6_join_68 : decode cX6_join 68 = .ok (.getfield 37, 3) := by decide +kernel
theorem dX6_join_71 : decode cX6_join 71 = .ok (.invokevirtual 69, 3) := by decide +kernel
theorem dX6_join_74 : decode cX6_join 74 = .ok (.aload_n 0, 1) := by decide +kernel
theorem dX6_join_75 : decode cX6_join 75 = .ok (.getfield 12, 3) := by decide +kernel
theorem dX6_join_78 : decode cX6_join 78 = .ok (.aload_n 0, 1) := by decide +kernel
theorem dX6_join_79 : decode cX6_join 79 = .ok (.getfield 34, 3) := by decide +kernel
theorem dX6_join_82 : decode cX6_join 82 = .ok (.aload_n 0, 1) := by decide +kernel
theorem dX6_join_83 : decode cX6_join 83 = .ok (.getfield 37, 3) := by decide +kernel
theorem dX6_join_86 : decode cX6_join 86 = .ok (.invokevirtual 75, 3) := by decide +kernel
theorem dX6_join_89 : decode cX6_join 89 = .ok (.lload_n 2, 1) := by decide +kernel
theorem dX6_join_90 : decode cX6_join 90 = .ok (.lload 4, 2) := by decide +kernel
theorem dX6_join_92 : decode cX6_join 92 = .ok (.land, 1) := by decide +kernel
theorem dX6_join_93 : decode cX6_join 93 = .ok (.lreturn, 1) := by decide +kernel
theorem dX6_makeRow_0 : decode cX6_makeRow 0 = .ok (.aload_n 3, 1) := by decide +kernel
theorem dX6_makeRow_1 : decode cX6_makeRow 1 = .ok (.iconst 0, 1) := by decide +kernel
theorem dX6_makeRow_2 : decode cX6_makeRow 2 = .ok (.putfield 55, 3) := by decide +kernel
theorem dX6_makeRow_5 : decode cX6_makeRow 5 = .ok (.iconst 0, 1) := by decide +kernel
theorem dX6_makeRow_6 : decode cX6_makeRow 6 = .ok (.istore 4, 2) := by decide +kernel
theorem dX6_makeRow_8 : decode cX6_makeRow 8 = .ok (.iload 4, 2) := by decide +kernel
theorem dX6_makeRow_10 : decode cX6_makeRow 10 = .ok (.aload_n 0, 1) := by decide +kernel
theorem dX6_makeRow_11 : decode cX6_makeRow 11 = .ok (.getfield 27, 3) := by decide +kernel
theorem dX6_makeRow_14 : decode cX6_makeRow 14 = .ok (.getfield 55, 3) := by decide +kernel
theorem dX6_makeRow_17 : decode cX6_makeRow 17 = .ok (.if_icmp .ge 38, 3) := by decide +kernel
theorem dX6_makeRow_20 : decode cX6_makeRow 20 = .ok (.lload_n 1, 1) := by decide +kernel
theorem dX6_makeRow_21 : decode cX6_makeRow 21 = .ok (.aload_n 0, 1) := by decide +kernel
theorem dX6_makeRow_22 : decode cX6_makeRow 22 = .ok (.getfield 30, 3) := by decide +kernel
theorem dX6_makeRow_25 : decode cX6_makeRow 25 = .ok (.iload 4, 2) := by decide +kernel
theorem dX6_makeRow_27 : decode cX6_makeRow 27 = .ok (.iaload, 1) := by decide +kernel
theorem dX6_makeRow_28 : decode cX6_makeRow 28 = .ok (.lushr, 1) := by decide +kernel
theorem dX6_makeRow_29 : decode cX6_makeRow 29 = .ok (.lconst 1, 1) := by decide +kernel
theorem dX6_makeRow_30 : decode cX6_makeRow 30 = .ok (.land, 1) := by decide +kernel
theorem dX6_makeRow_31 : decode cX6_makeRow 31 = .ok (.lconst 1, 1) := by decide +kernel
theorem dX6_makeRow_32 : decode cX6_makeRow 32 = .ok (.lcmp, 1) := by decide +kernel
theorem dX6_makeRow_33 : decode cX6_makeRow 33 = .ok (.ifCond .ne 16, 3) := by decide +kernel
theorem dX6_makeRow_36 : decode cX6_makeRow 36 = .ok (.aload_n 3, 1) := by decide +kernel
theorem dX6_makeRow_37 : decode cX6_makeRow 37 = .ok (.aload_n 0, 1) := by decide +kernel
theorem dX6_makeRow_38 : decode cX6_makeRow 38 = .ok (.getfield 27, 3) := by decide +kernel
theorem dX6_makeRow_41 : decode cX6_makeRow 41 = .ok (.iload 4, 2) := by decide +kernel
theorem dX6_makeRow_43 : decode cX6_makeRow 43 = .ok (.invokevirtual 58, 3) := by decide +kernel
theorem dX6_makeRow_46 : decode cX6_makeRow 46 = .ok (.invokevirtual 79, 3) := by decide +kernel
theorem dX6_makeRow_49 : decode cX6_makeRow 49 = .ok (.iinc 4 1, 3) := by decide +kernel
theorem dX6_makeRow_52 : decode cX6_makeRow 52 = .ok (.goto (-44), 3) := by decide +kernel
theorem dX6_makeRow_55 : decode cX6_makeRow 55 = .ok (.return_, 1) := by decide +kernel
theorem dX6_gatherAll_0 : decode cX6_gatherAll 0 = .ok (.aload_n 0, 1) := by decide +kernel
theorem dX6_gatherAll_1 : decode cX6_gatherAll 1 = .ok (.getfield 44, 3) := by decide +kernel
theorem dX6_gatherAll_4 : decode cX6_gatherAll 4 = .ok (.iconst 0, 1) := by decide +kernel
theorem dX6_gatherAll_5 : decode cX6_gatherAll 5 = .ok (.invokestatic 82, 3) := by decide +kernel
theorem dX6_gatherAll_8 : decode cX6_gatherAll 8 = .ok (.aload_n 0, 1) := by decide +kernel
theorem dX6_gatherAll_9 : decode cX6_gatherAll 9 = .ok (.getfield 27, 3) := by decide +kernel
theorem dX6_gatherAll_12 : decode cX6_gatherAll 12 = .ok (.iconst 0, 1) := by decide +kernel
theorem dX6_gatherAll_13 : decode cX6_gatherAll 13 = .ok (.putfield 55, 3) := by decide +kernel
theorem dX6_gatherAll_16 : decode cX6_gatherAll 16 = .ok (.iconst 0, 1) := by decide +kernel
theorem dX6_gatherAll_17 : decode cX6_gatherAll 17 = .ok (.istore_n 2, 1) := by decide +kernel
theorem dX6_gatherAll_18 : decode cX6_gatherAll 18 = .ok (.iload_n 2, 1) := by decide +kernel
theorem dX6_gatherAll_19 : decode cX6_gatherAll 19 = .ok (.aload_n 0, 1) := by decide +kernel
theorem dX6_gatherAll_20 : decode cX6_gatherAll 20 = .ok (.getfield 30, 3) := by decide +kernel
theorem dX6_gatherAll_23 : decode cX6_gatherAll 23 = .ok (.arraylength, 1) := by decide +kernel
theorem dX6_gatherAll_24 : decode cX6_gatherAll 24 = .ok (.if_icmp .ge 44, 3) := by decide +kernel
theorem dX6_gatherAll_27 : decode cX6_gatherAll 27 = .ok (.aload_n 0, 1) := by decide +kernel
theorem dX6_gatherAll_28 : decode cX6_gatherAll 28 = .ok (.aload_n 1, 1) := by decide +kernel
theorem dX6_gatherAll_29 : decode cX6_gatherAll 29 = .ok (.invokevirtual 88, 3) := by decide +kernel
theorem dX6_gatherAll_32 : decode cX6_gatherAll 32 = .ok (.istore_n 3, 1) := by decide +kernel
theorem dX6_gatherAll_33 : decode cX6_gatherAll 33 = .ok (.iload_n 3, 1) := by decide +kernel
theorem dX6_gatherAll_34 : decode cX6_gatherAll 34 = .ok (.ldc 92, 2) := by decide +kernel
theorem dX6_gatherAll_36 : decode cX6_gatherAll 36 = .ok (.if_icmp .le 6, 3) := by decide +kernel
theorem dX6_gatherAll_39 : decode cX6_gatherAll 39 = .ok (.goto 29, 3) := by decide +kernel
theorem dX6_gatherAll_42 : decode cX6_gatherAll 42 = .ok (.aload_n 0, 1) := by decide +kernel
theorem dX6_gatherAll_43 : decode cX6_gatherAll 43 = .ok (.getfield 27, 3) := by decide +kernel
theorem dX6_gatherAll_46 : decode cX6_gatherAll 46 = .ok (.iload_n 3, 1) := by decide +kernel
theorem dX6_gatherAll_47 : decode cX6_gatherAll 47 = .ok (.invokevirtual 79, 3) := by decide +kernel
theorem dX6_gatherAll_50 : decode cX6_gatherAll 50 = .ok (.aload_n 0, 1) := by decide +kernel
theorem dX6_gatherAll_51 : decode cX6_gatherAll 51 = .ok (.getfield 30, 3) := by decide +kernel
theorem dX6_gatherAll_54 : decode cX6_gatherAll 54 = .ok (.iload_n 2, 1) := by decide +kernel
theorem dX6_gatherAll_55 : decode cX6_gatherAll 55 = .ok (.aload_n 0, 1) := by decide +kernel
theorem dX6_gatherAll_56 : decode cX6_gatherAll 56 = .ok (.aload_n 1, 1) := by decide +kernel
theorem dX6_gatherAll_57 : decode cX6_gatherAll 57 = .ok (.iload_n 3, 1) := by decide +kernel
theorem dX6_gatherAll_58 : decode cX6_gatherAll 58 = .ok (.invokevirtual 93, 3) := by decide +kernel
theorem dX6_gatherAll_61 : decode cX6_gatherAll 61 = .ok (.iastore, 1) := by decide +kernel
theorem dX6_gatherAll_62 : decode cX6_gatherAll 62 = .ok (.iinc 2 1, 3) := by decide +kernel
theorem dX6_gatherAll_65 : decode cX6_gatherAll 65 = .ok (.goto (-47), 3) := by decide +kernel
theorem dX6_gatherAll_68 : decode cX6_gatherAll 68 = .ok (.return_, 1) := by decide +kernel
theorem dX6_leastAtCursors_0 : decode cX6_leastAtCursors 0 = .ok (.ldc 97, 2) := by decide +kernel
theorem dX6_leastAtCursors_2 : decode cX6_leastAtCursors 2 = .ok (.istore_n 2, 1) := by decide +kernel
theorem dX6_leastAtCursors_3 : decode cX6_leastAtCursors 3 = .ok (.iconst 0, 1) := by decide +kernel
theorem dX6_leastAtCursors_4 : decode cX6_leastAtCursors 4 = .ok (.istore_n 3, 1) := by decide +kernel
theorem dX6_leastAtCursors_5 : decode cX6_leastAtCursors 5 = .ok (.iload_n 3, 1) := by decide +kernel
theorem dX6_leastAtCursors_6 : decode cX6_leastAtCursors 6 = .ok (.bipush 6, 2) := by decide +kernel
theorem dX6_leastAtCursors_8 : decode cX6_leastAtCursors 8 = .ok (.if_icmp .ge 47, 3) := by decide +kernel
theorem dX6_leastAtCursors_11 : decode cX6_leastAtCursors 11 = .ok (.aload_n 0, 1) := by decide +kernel
theorem dX6_leastAtCursors_12 : decode cX6_leastAtCursors 12 = .ok (.getfield 44, 3) := by decide +kernel
theorem dX6_leastAtCursors_15 : decode cX6_leastAtCursors 15 = .ok (.iload_n 3, 1) := by decide +kernel
theorem dX6_leastAtCursors_16 : decode cX6_leastAtCursors 16 = .ok (.iaload, 1) := by decide +kernel
theorem dX6_leastAtCursors_17 : decode cX6_leastAtCursors 17 = .ok (.aload_n 1, 1) := by decide +kernel
theorem dX6_leastAtCursors_18 : decode cX6_leastAtCursors 18 = .ok (.iload_n 3, 1) := by decide +kernel
theorem dX6_leastAtCursors_19 : decode cX6_leastAtCursors 19 = .ok (.aaload, 1) := by decide +kernel
theorem dX6_leastAtCursors_20 : decode cX6_leastAtCursors 20 = .ok (.getfield 98, 3) := by decide +kernel
theorem dX6_leastAtCursors_23 : decode cX6_leastAtCursors 23 = .ok (.getfield 55, 3) := by decide +kernel
theorem dX6_leastAtCursors_26 : decode cX6_leastAtCursors 26 = .ok (.if_icmp .ge 23, 3) := by decide +kernel
theorem dX6_leastAtCursors_29 : decode cX6_leastAtCursors 29 = .ok (.iload_n 2, 1) := by decide +kernel
theorem dX6_leastAtCursors_30 : decode cX6_leastAtCursors 30 = .ok (.aload_n 1, 1) := by decide +kernel
theorem dX6_leastAtCursors_31 : decode cX6_leastAtCursors 31 = .ok (.iload_n 3, 1) := by decide +kernel
theorem dX6_leastAtCursors_32 : decode cX6_leastAtCursors 32 = .ok (.aaload, 1) := by decide +kernel
theorem dX6_leastAtCursors_33 : decode cX6_leastAtCursors 33 = .ok (.getfield 98, 3) := by decide +kernel
theorem dX6_leastAtCursors_36 : decode cX6_leastAtCursors 36 = .ok (.aload_n 0, 1) := by decide +kernel
theorem dX6_leastAtCursors_37 : decode cX6_leastAtCursors 37 = .ok (.getfield 44, 3) := by decide +kernel
theorem dX6_leastAtCursors_40 : decode cX6_leastAtCursors 40 = .ok (.iload_n 3, 1) := by decide +kernel
theorem dX6_leastAtCursors_41 : decode cX6_leastAtCursors 41 = .ok (.iaload, 1) := by decide +kernel
theorem dX6_leastAtCursors_42 : decode cX6_leastAtCursors 42 = .ok (.invokevirtual 58, 3) := by decide +kernel
theorem dX6_leastAtCursors_45 : decode cX6_leastAtCursors 45 = .ok (.invokestatic 103, 3) := by decide +kernel
theorem dX6_leastAtCursors_48 : decode cX6_leastAtCursors 48 = .ok (.istore_n 2, 1) := by decide +kernel
theorem dX6_leastAtCursors_49 : decode cX6_leastAtCursors 49 = .ok (.iinc 3 1, 3) := by decide +kernel
theorem dX6_leastAtCursors_52 : decode cX6_leastAtCursors 52 = .ok (.goto (-47), 3) := by decide +kernel
theorem dX6_leastAtCursors_55 : decode cX6_leastAtCursors 55 = .ok (.iload_n 2, 1) := by decide +kernel
theorem dX6_leastAtCursors_56 : decode cX6_leastAtCursors 56 = .ok (.ireturn, 1) := by decide +kernel
theorem dX6_passCursors_0 : decode cX6_passCursors 0 = .ok (.iconst 0, 1) := by decide +kernel
theorem dX6_passCursors_1 : decode cX6_passCursors 1 = .ok (.istore_n 3, 1) := by decide +kernel
theorem dX6_passCursors_2 : decode cX6_passCursors 2 = .ok (.iconst 0, 1) := by decide +kernel
theorem dX6_passCursors_3 : decode cX6_passCursors 3 = .ok (.istore 4, 2) := by decide +kernel
theorem dX6_passCursors_5 : decode cX6_passCursors 5 = .ok (.iload 4, 2) := by decide +kernel
theorem dX6_passCursors_7 : decode cX6_passCursors 7 = .ok (.bipush 6, 2) := by decide +kernel
theorem dX6_passCursors_9 : decode cX6_passCursors 9 = .ok (.if_icmp .ge 48, 3) := by decide +kernel
theorem dX6_passCursors_12 : decode cX6_passCursors 12 = .ok (.aload_n 1, 1) := by decide +kernel
theorem dX6_passCursors_13 : decode cX6_passCursors 13 = .ok (.iload 4, 2) := by decide +kernel
theorem dX6_passCursors_15 : decode cX6_passCursors 15 = .ok (.aaload, 1) := by decide +kernel
theorem dX6_passCursors_16 : decode cX6_passCursors 16 = .ok (.getfield 98, 3) := by decide +kernel
theorem dX6_passCursors_19 : decode cX6_passCursors 19 = .ok (.aload_n 0, 1) := by decide +kernel
theorem dX6_passCursors_20 : decode cX6_passCursors 20 = .ok (.getfield 44, 3) := by decide +kernel
theorem dX6_passCursors_23 : decode cX6_passCursors 23 = .ok (.iload 4, 2) := by decide +kernel
theorem dX6_passCursors_25 : decode cX6_passCursors 25 = .ok (.iaload, 1) := by decide +kernel
theorem dX6_passCursors_26 : decode cX6_passCursors 26 = .ok (.invokevirtual 58, 3) := by decide +kernel
theorem dX6_passCursors_29 : decode cX6_passCursors 29 = .ok (.iload_n 2, 1) := by decide +kernel
theorem dX6_passCursors_30 : decode cX6_passCursors 30 = .ok (.if_icmp .ne 21, 3) := by decide +kernel
theorem dX6_passCursors_33 : decode cX6_passCursors 33 = .ok (.iload_n 3, 1) := by decide +kernel
theorem dX6_passCursors_34 : decode cX6_passCursors 34 = .ok (.iconst 1, 1) := by decide +kernel
theorem dX6_passCursors_35 : decode cX6_passCursors 35 = .ok (.iload 4, 2) := by decide +kernel
theorem dX6_passCursors_37 : decode cX6_passCursors 37 = .ok (.ishl, 1) := by decide +kernel
theorem dX6_passCursors_38 : decode cX6_passCursors 38 = .ok (.ior, 1) := by decide +kernel
theorem dX6_passCursors_39 : decode cX6_passCursors 39 = .ok (.istore_n 3, 1) := by decide +kernel
theorem dX6_passCursors_40 : decode cX6_passCursors 40 = .ok (.aload_n 0, 1) := by decide +kernel
theorem dX6_passCursors_41 : decode cX6_passCursors 41 = .ok (.getfield 44, 3) := by decide +kernel
theorem dX6_passCursors_44 : decode cX6_passCursors 44 = .ok (.iload 4, 2) := by decide +kernel
theorem dX6_passCursors_46 : decode cX6_passCursors 46 = .ok (.dup2, 1) := by decide +kernel
theorem dX6_passCursors_47 : decode cX6_passCursors 47 = .ok (.iaload, 1) := by decide +kernel
theorem dX6_passCursors_48 : decode cX6_passCursors 48 = .ok (.iconst 1, 1) := by decide +kernel
theorem dX6_passCursors_49 : decode cX6_passCursors 49 = .ok (.iadd, 1) := by decide +kernel
theorem dX6_passCursors_50 : decode cX6_passCursors 50 = .ok (.iastore, 1) := by decide +kernel
theorem dX6_passCursors_51 : decode cX6_passCursors 51 = .ok (.iinc 4 1, 3) := by decide +kernel
theorem dX6_passCursors_54 : decode cX6_passCursors 54 = .ok (.goto (-49), 3) := by decide +kernel
theorem dX6_passCursors_57 : decode cX6_passCursors 57 = .ok (.iload_n 3, 1) := by decide +kernel
theorem dX6_passCursors_58 : decode cX6_passCursors 58 = .ok (.ireturn, 1) := by decide +kernel
theorem dX7_init_0 : decode cX7_init 0 = .ok (.aload_n 0, 1) := by decide +kernel
theorem dX7_init_1 : decode cX7_init 1 = .ok (.invokespecial 3, 3) := by decide +kernel
theorem dX7_init_4 : decode cX7_init 4 = .ok (.aload_n 0, 1) := by decide +kernel
theorem dX7_init_5 : decode cX7_init 5 = .ok (.new 9, 3) := by decide +kernel
theorem dX7_init_8 : decode cX7_init 8 = .ok (.dup, 1) := by decide +kernel
theorem dX7_init_9 : decode cX7_init 9 = .ok (.sipush 200, 3) := by decide +kernel
theorem dX7_init_12 : decode cX7_init 12 = .ok (.invokespecial 11, 3) := by decide +kernel
theorem dX7_init_15 : decode cX7_init 15 = .ok (.putfield 14, 3) := by decide +kernel
theorem dX7_init_18 : decode cX7_init 18 = .ok (.return_, 1) := by decide +kernel
theorem dX7_read_0 : decode cX7_read 0 = .ok (.aload_n 0, 1) := by decide +kernel
theorem dX7_read_1 : decode cX7_read 1 = .ok (.aload_n 1, 1) := by decide +kernel
theorem dX7_read_2 : decode cX7_read 2 = .ok (.putfield 20, 3) := by decide +kernel
theorem dX7_read_5 : decode cX7_read 5 = .ok (.aload_n 0, 1) := by decide +kernel
theorem dX7_read_6 : decode cX7_read 6 = .ok (.iconst 0, 1) := by decide +kernel
theorem dX7_read_7 : decode cX7_read 7 = .ok (.putfield 23, 3) := by decide +kernel
theorem dX7_read_10 : decode cX7_read 10 = .ok (.aload_n 0, 1) := by decide +kernel
theorem dX7_read_11 : decode cX7_read 11 = .ok (.getfield 14, 3) := by decide +kernel
theorem dX7_read_14 : decode cX7_read 14 = .ok (.iconst 0, 1) := by decide +kernel
theorem dX7_read_15 : decode cX7_read 15 = .ok (.putfield 27, 3) := by decide +kernel
theorem dX7_read_18 : decode cX7_read 18 = .ok (.aload_n 0, 1) := by decide +kernel
theorem dX7_read_19 : decode cX7_read 19 = .ok (.invokevirtual 30, 3) := by decide +kernel
theorem dX7_read_22 : decode cX7_read 22 = .ok (.aload_n 0, 1) := by decide +kernel
theorem dX7_read_23 : decode cX7_read 23 = .ok (.getfield 23, 3) := by decide +kernel
theorem dX7_read_26 : decode cX7_read 26 = .ok (.aload_n 0, 1) := by decide +kernel
theorem dX7_read_27 : decode cX7_read 27 = .ok (.getfield 20, 3) := by decide +kernel
theorem dX7_read_30 : decode cX7_read 30 = .ok (.getfield 27, 3) := by decide +kernel
theorem dX7_read_33 : decode cX7_read 33 = .ok (.if_icmp .lt 5, 3) := by decide +kernel
theorem dX7_read_36 : decode cX7_read 36 = .ok (.iconst (-1), 1) := by decide +kernel
theorem dX7_read_37 : decode cX7_read 37 = .ok (.ireturn, 1) := by decide +kernel
theorem dX7_read_38 : decode cX7_read 38 = .ok (.iconst 0, 1) := by decide +kernel
theorem dX7_read_39 : decode cX7_read 39 = .ok (.istore_n 2, 1) := by decide +kernel
theorem dX7_read_40 : decode cX7_read 40 = .ok (.iconst 0, 1) := by decide +kernel
theorem dX7_read_41 : decode cX7_read 41 = .ok (.istore_n 3, 1) := by decide +kernel
theorem dX7_read_42 : decode cX7_read 42 = .ok (.iload_n 3, 1) := by decide +kernel
theorem dX7_read_43 : decode cX7_read 43 = .ok (.bipush 100, 2) := by decide +kernel
theorem dX7_read_45 : decode cX7_read 45 = .ok (.if_icmp .ge 73, 3) := by decide +kernel
theorem dX7_read_48 : decode cX7_read 48 = .ok (.aload_n 0, 1) := by decide +kernel
theorem dX7_read_49 : decode cX7_read 49 = .ok (.iload_n 2, 1) := by decide +kernel
theorem dX7_read_50 : decode cX7_read 50 = .ok (.invokevirtual 33, 3) := by decide +kernel
theorem dX7_read_53 : decode cX7_read 53 = .ok (.istore 4, 2) := by decide +kernel
theorem dX7_read_55 : decode cX7_read 55 = .ok (.iload 4, 2) := by decide +kernel
theorem dX7_read_57 : decode cX7_read 57 = .ok (.iconst (-1), 1) := by decide +kernel
theorem dX7_read_58 : decode cX7_read 58 = .ok (.if_icmp .eq 6, 3) := by decide +kernel
theorem dX7_read_61 : decode cX7_read 61 = .ok (.iload 4, 2) := by decide +kernel
theorem dX7_read_63 : decode cX7_read 63 = .ok (.ireturn, 1) := by decide +kernel
theorem dX7_read_64 : decode cX7_read 64 = .ok (.aload_n 0, 1) := by decide +kernel
theorem dX7_read_65 : decode cX7_read 65 = .ok (.getfield 23, 3) := by decide +kernel
theorem dX7_read_68 : decode cX7_read 68 = .ok (.aload_n 0, 1) := by decide +kernel
theorem dX7_read_69 : decode cX7_read 69 = .ok (.getfield 20, 3) := by decide +kernel
theorem dX7_read_72 : decode cX7_read 72 = .ok (.getfield 27, 3) := by decide +kernel
theorem dX7_read_75 : decode cX7_read 75 = .ok (.if_icmp .lt 5, 3) := by decide +kernel
theorem dX7_read_78 : decode cX7_read 78 = .ok (.iconst (-1), 1) := by decide +kernel
theorem dX7_read_79 : decode cX7_read 79 = .ok (.ireturn, 1) := by decide +kernel
theorem dX7_read_80 : decode cX7_read 80 = .ok (.aload_n 0, 1) := by decide +kernel
theorem dX7_read_81 : decode cX7_read 81 = .ok (.getfield 20, 3) := by decide +kernel
theorem dX7_read_84 : decode cX7_read 84 = .ok (.aload_n 0, 1) := by decide +kernel
theorem dX7_read_85 : decode cX7_read 85 = .ok (.getfield 23, 3) := by decide +kernel
theorem dX7_read_88 : decode cX7_read 88 = .ok (.invokevirtual 37, 3) := by decide +kernel
theorem dX7_read_91 : decode cX7_read 91 = .ok (.bipush 44, 2) := by decide +kernel
theorem dX7_read_93 : decode cX7_read 93 = .ok (.if_icmp .eq 8, 3) := by decide +kernel
theorem dX7_read_96 : decode cX7_read 96 = .ok (.aload_n 0, 1) := by decide +kernel
theorem dX7_read_97 : decode cX7_read 97 = .ok (.getfield 23, 3) := by decide +kernel
theorem dX7_read_100 : decode cX7_read 100 = .ok (.ireturn, 1) := by decide +kernel
theorem dX7_read_101 : decode cX7_read 101 = .ok (.aload_n 0, 1) := by decide +kernel
theorem dX7_read_102 : decode cX7_read 102 = .ok (.getfield 40, 3) := by decide +kernel
theorem dX7_read_105 : decode cX7_read 105 = .ok (.iconst 1, 1) := by decide +kernel
theorem dX7_read_106 : decode cX7_read 106 = .ok (.iadd, 1) := by decide +kernel
theorem dX7_read_107 : decode cX7_read 107 = .ok (.istore_n 2, 1) := by decide +kernel
theorem dX7_read_108 : decode cX7_read 108 = .ok (.aload_n 0, 1) := by decide +kernel
theorem dX7_read_109 : decode cX7_read 109 = .ok (.invokevirtual 43, 3) := by decide +kernel
theorem dX7_read_112 : decode cX7_read 112 = .ok (.iinc 3 1, 3) := by decide +kernel
theorem dX7_read_115 : decode cX7_read 115 = .ok (.goto (-73), 3) := by decide +kernel
theorem dX7_read_118 : decode cX7_read 118 = .ok (.aload_n 0, 1) := by decide +kernel
theorem dX7_read_119 : decode cX7_read 119 = .ok (.getfield 23, 3) := by decide +kernel
theorem dX7_read_122 : decode cX7_read 122 = .ok (.ireturn, 1) := by decide +kernel
theorem dX7_readPart_0 : decode cX7_readPart 0 = .ok (.aload_n 0, 1) := by decide +kernel
theorem dX7_readPart_1 : decode cX7_readPart 1 = .ok (.iload_n 1, 1) := by decide +kernel
theorem dX7_readPart_2 : decode cX7_readPart 2 = .ok (.invokevirtual 46, 3) := by decide +kernel
theorem dX7_readPart_5 : decode cX7_readPart 5 = .ok (.istore_n 2, 1) := by decide +kernel
theorem dX7_readPart_6 : decode cX7_readPart 6 = .ok (.iload_n 2, 1) := by decide +kernel
theorem dX7_readPart_7 : decode cX7_readPart 7 = .ok (.iconst (-1), 1) := by decide +kernel
theorem dX7_readPart_8 : decode cX7_readPart 8 = .ok (.if_icmp .eq 5, 3) := by decide +kernel
theorem dX7_readPart_11 : decode cX7_readPart 11 = .ok (.iload_n 2, 1) := by decide +kernel
theorem dX7_readPart_12 : decode cX7_readPart 12 = .ok (.ireturn, 1) := by decide +kernel
theorem dX7_readPart_13 : decode cX7_readPart 13 = .ok (.aload_n 0, 1) := by decide +kernel
theorem dX7_readPart_14 : decode cX7_readPart 14 = .ok (.getfield 40, 3) := by decide +kernel
theorem dX7_readPart_17 : decode cX7_readPart 17 = .ok (.istore_n 3, 1) := by decide +kernel
theorem dX7_readPart_18 : decode cX7_readPart 18 = .ok (.aload_n 0, 1) := by decide +kernel
theorem dX7_readPart_19 : decode cX7_readPart 19 = .ok (.getfield 23, 3) := by decide +kernel
theorem dX7_readPart_22 : decode cX7_readPart 22 = .ok (.istore 4, 2) := by decide +kernel
theorem dX7_readPart_24 : decode cX7_readPart 24 = .ok (.aload_n 0, 1) := by decide +kernel
theorem dX7_readPart_25 : decode cX7_readPart 25 = .ok (.invokevirtual 30, 3) := by decide +kernel
theorem dX7_readPart_28 : decode cX7_readPart 28 = .ok (.aload_n 0, 1) := by decide +kernel
theorem dX7_readPart_29 : decode cX7_readPart 29 = .ok (.getfield 20, 3) := by decide +kernel
theorem dX7_readPart_32 : decode cX7_readPart 32 = .ok (.aload_n 0, 1) := by decide +kernel
theorem dX7_readPart_33 : decode cX7_readPart 33 = .ok (.getfield 23, 3) := by decide +kernel
theorem dX7_readPart_36 : decode cX7_readPart 36 = .ok (.invokevirtual 37, 3) := by decide +kernel
theorem dX7_readPart_39 : decode cX7_readPart 39 = .ok (.bipush 45, 2) := by decide +kernel
theorem dX7_readPart_41 : decode cX7_readPart 41 = .ok (.if_icmp .ne 30, 3) := by decide +kernel
theorem dX7_readPart_44 : decode cX7_readPart 44 = .ok (.aload_n 0, 1) := by decide +kernel
theorem dX7_readPart_45 : decode cX7_readPart 45 = .ok (.invokevirtual 43, 3) := by decide +kernel
theorem dX7_readPart_48 : decode cX7_readPart 48 = .ok (.aload_n 0, 1) := by decide +kernel
theorem dX7_readPart_49 : decode cX7_readPart 49 = .ok (.iload_n 3, 1) := by decide +kernel
theorem dX7_readPart_50 : decode cX7_readPart 50 = .ok (.invokevirtual 46, 3) := by decide +kernel
theorem dX7_readPart_53 : decode cX7_readPart 53 = .ok (.istore_n 2, 1) := by decide +kernel
theorem dX7_readPart_54 : decode cX7_readPart 54 = .ok (.iload_n 2, 1) := by decide +kernel
theorem dX7_readPart_55 : decode cX7_readPart 55 = .ok (.iconst (-1), 1) := by decide +kernel
theorem dX7_readPart_56 : decode cX7_readPart 56 = .ok (.if_icmp .eq 5, 3) := by decide +kernel
theorem dX7_readPart_59 : decode cX7_readPart 59 = .ok (.iload_n 2, 1) := by decide +kernel
theorem dX7_readPart_60 : decode cX7_readPart 60 = .ok (.ireturn, 1) := by decide +kernel
theorem dX7_readPart_61 : decode cX7_readPart 61 = .ok (.aload_n 0, 1) := by decide +kernel
theorem dX7_readPart_62 : decode cX7_readPart 62 = .ok (.getfield 23, 3) := by decide +kernel
theorem dX7_readPart_65 : decode cX7_readPart 65 = .ok (.istore 4, 2) := by decide +kernel
theorem dX7_readPart_67 : decode cX7_readPart 67 = .ok (.aload_n 0, 1) := by decide +kernel
theorem dX7_readPart_68 : decode cX7_readPart 68 = .ok (.invokevirtual 30, 3) := by decide +kernel
theorem dX7_readPart_71 : decode cX7_readPart 71 = .ok (.aload_n 0, 1) := by decide +kernel
theorem dX7_readPart_72 : decode cX7_readPart 72 = .ok (.getfield 40, 3) := by decide +kernel
theorem dX7_readPart_75 : decode cX7_readPart 75 = .ok (.iload_n 3, 1) := by decide +kernel
theorem dX7_readPart_76 : decode cX7_readPart 76 = .ok (.isub, 1) := by decide +kernel
theorem dX7_readPart_77 : decode cX7_readPart 77 = .ok (.sipush 200, 3) := by decide +kernel
theorem dX7_readPart_80 : decode cX7_readPart 80 = .ok (.aload_n 0, 1) := by decide +kernel
theorem dX7_readPart_81 : decode cX7_readPart 81 = .ok (.getfield 14, 3) := by decide +kernel
theorem dX7_readPart_84 : decode cX7_readPart 84 = .ok (.getfield 27, 3) := by decide +kernel
theorem dX7_readPart_87 : decode cX7_readPart 87 = .ok (.isub, 1) := by decide +kernel
theorem dX7_readPart_88 : decode cX7_readPart 88 = .ok (.if_icmp .lt 6, 3) := by decide +kernel
theorem dX7_readPart_91 : decode cX7_readPart 91 = .ok (.iload 4, 2) := by decide +kernel
theorem dX7_readPart_93 : decode cX7_readPart 93 = .ok (.ireturn, 1) := by decide +kernel
theorem dX7_readPart_94 : decode cX7_readPart 94 = .ok (.iload_n 3, 1) := by decide +kernel
theorem dX7_readPart_95 : decode cX7_readPart 95 = .ok (.istore 5, 2) := by decide +kernel
theorem dX7_readPart_97 : decode cX7_readPart 97 = .ok (.iload 5, 2) := by decide +kernel
theorem dX7_readPart_99 : decode cX7_readPart 99 = .ok (.aload_n 0, 1) := by decide +kernel
theorem dX7_readPart_100 : decode cX7_readPart 100 = .ok (.getfield 40, 3) := by decide +kernel
theorem dX7_readPart_103 : decode cX7_readPart 103 = .ok (.if_icmp .gt 18, 3) := by decide +kernel
theorem dX7_readPart_106 : decode cX7_readPart 106 = .ok (.aload_n 0, 1) := by decide +kernel
theorem dX7_readPart_107 : decode cX7_readPart 107 = .ok (.getfield 14, 3) := by decide +kernel
theorem dX7_readPart_110 : decode cX7_readPart 110 = .ok (.iload 5, 2) := by decide +kernel
theorem dX7_readPart_112 : decode cX7_readPart 112 = .ok (.invokevirtual 49, 3) := by decide +kernel
theorem dX7_readPart_115 : decode cX7_readPart 115 = .ok (.iinc 5 1, 3) := by decide +kernel
theorem dX7_readPart_118 : decode cX7_readPart 118 = .ok (.goto (-21), 3) := by decide +kernel
theorem dX7_readPart_121 : decode cX7_readPart 121 = .ok (.iconst (-1), 1) := by decide +kernel
theorem dX7_readPart_122 : decode cX7_readPart 122 = .ok (.ireturn, 1) := by decide +kernel
theorem dX7_readNumber_0 : decode cX7_readNumber 0 = .ok (.aload_n 0, 1) := by decide +kernel
theorem dX7_readNumber_1 : decode cX7_readNumber 1 = .ok (.getfield 23, 3) := by decide +kernel
theorem dX7_readNumber_4 : decode cX7_readNumber 4 = .ok (.istore_n 2, 1) := by decide +kernel
theorem dX7_readNumber_5 : decode cX7_readNumber 5 = .ok (.aload_n 0, 1) := by decide +kernel
theorem dX7_readNumber_6 : decode cX7_readNumber 6 = .ok (.iconst 0, 1) := by decide +kernel
theorem dX7_readNumber_7 : decode cX7_readNumber 7 = .ok (.putfield 40, 3) := by decide +kernel
theorem dX7_readNumber_10 : decode cX7_readNumber 10 = .ok (.iconst 0, 1) := by decide +kernel
theorem dX7_readNumber_11 : decode cX7_readNumber 11 = .ok (.istore_n 3, 1) := by decide +kernel
theorem dX7_readNumber_12 : decode cX7_readNumber 12 = .ok (.iload_n 3, 1) := by decide +kernel
theorem dX7_readNumber_13 : decode cX7_readNumber 13 = .ok (.bipush 6, 2) := by decide +kernel
theorem dX7_readNumber_15 : decode cX7_readNumber 15 = .ok (.if_icmp .ge 62, 3) := by decide +kernel
theorem dX7_readNumber_18 : decode cX7_readNumber 18 = .ok (.aload_n 0, 1) := by decide +kernel
theorem dX7_readNumber_19 : decode cX7_readNumber 19 = .ok (.getfield 20, 3) := by decide +kernel
theorem dX7_readNumber_22 : decode cX7_readNumber 22 = .ok (.aload_n 0, 1) := by decide +kernel
theorem dX7_readNumber_23 : decode cX7_readNumber 23 = .ok (.getfield 23, 3) := by decide +kernel
theorem dX7_readNumber_26 : decode cX7_readNumber 26 = .ok (.invokevirtual 37, 3) := by decide +kernel
theorem dX7_readNumber_29 : decode cX7_readNumber 29 = .ok (.invokestatic 52, 3) := by decide +kernel
theorem dX7_readNumber_32 : decode cX7_readNumber 32 = .ok (.ifCond .eq 45, 3) := by decide +kernel
theorem dX7_readNumber_35 : decode cX7_readNumber 35 = .ok (.aload_n 0, 1) := by decide +kernel
theorem dX7_readNumber_36 : decode cX7_readNumber 36 = .ok (.bipush 10, 2) := by decide +kernel
theorem dX7_readNumber_38 : decode cX7_readNumber 38 = .ok (.aload_n 0, 1) := by decide +kernel
theorem dX7_readNumber_39 : decode cX7_readNumber 39 = .ok (.getfield 40, 3) := by decide +kernel
theorem dX7_readNumber_42 : decode cX7_readNumber 42 = .ok (.imul, 1) := by decide +kernel
theorem dX7_readNumber_43 : decode cX7_readNumber 43 = .ok (.aload_n 0, 1) := by decide +kernel
theorem dX7_readNumber_44 : decode cX7_readNumber 44 = .ok (.getfield 20, 3) := by decide +kernel
theorem dX7_readNumber_47 : decode cX7_readNumber 47 = .ok (.aload_n 0, 1) := by decide +kernel
theorem dX7_readNumber_48 : decode cX7_readNumber 48 = .ok (.getfield 23, 3) := by decide +kernel
theorem dX7_readNumber_51 : decode cX7_readNumber 51 = .ok (.invokevirtual 37, 3) := by decide +kernel
theorem dX7_readNumber_54 : decode cX7_readNumber 54 = .ok (.iadd, 1) := by decide +kernel
theorem dX7_readNumber_55 : decode cX7_readNumber 55 = .ok (.bipush 48, 2) := by decide +kernel
theorem dX7_readNumber_57 : decode cX7_readNumber 57 = .ok (.isub, 1) := by decide +kernel
theorem dX7_readNumber_58 : decode cX7_readNumber 58 = .ok (.putfield 40, 3) := by decide +kernel
theorem dX7_readNumber_61 : decode cX7_readNumber 61 = .ok (.aload_n 0, 1) := by decide +kernel
theorem dX7_readNumber_62 : decode cX7_readNumber 62 = .ok (.dup, 1) := by decide +kernel
theorem dX7_readNumber_63 : decode cX7_readNumber 63 = .ok (.getfield 23, 3) := by decide +kernel
theorem dX7_readNumber_66 : decode cX7_readNumber 66 = .ok (.iconst 1, 1) := by decide +kernel
theorem dX7_readNumber_67 : decode cX7_readNumber 67 = .ok (.iadd, 1) := by decide +kernel
theorem dX7_readNumber_68 : decode cX7_readNumber 68 = .ok (.putfield 23, 3) := by decide +kernel
theorem dX7_readNumber_71 : decode cX7_readNumber 71 = .ok (.iinc 3 1, 3) := by decide +kernel
theorem dX7_readNumber_74 : decode cX7_readNumber 74 = .ok (.goto (-62), 3) := by decide +kernel
theorem dX7_readNumber_77 : decode cX7_readNumber 77 = .ok (.aload_n 0, 1) := by decide +kernel
theorem dX7_readNumber_78 : decode cX7_readNumber 78 = .ok (.getfield 23, 3) := by decide +kernel
theorem dX7_readNumber_81 : decode cX7_readNumber 81 = .ok (.iload_n 2, 1) := by decide +kernel
theorem dX7_readNumber_82 : decode cX7_readNumber 82 = .ok (.if_icmp .eq 11, 3) := by decide +kernel
theorem dX7_readNumber_85 : decode cX7_readNumber 85 = .ok (.aload_n 0, 1) := by decide +kernel
theorem dX7_readNumber_86 : decode cX7_readNumber 86 = .ok (.getfield 40, 3) := by decide +kernel
theorem dX7_readNumber_89 : decode cX7_readNumber 89 = .ok (.iload_n 1, 1) := by decide +kernel
theorem dX7_readNumber_90 : decode cX7_readNumber 90 = .ok (.if_icmp .ge 7, 3) := by decide +kernel
theorem dX7_readNumber_93 : decode cX7_readNumber 93 = .ok (.iload_n 2, 1) := by decide +kernel
theorem dX7_readNumber_94 : decode cX7_readNumber 94 = .ok (.goto 4, 3) := by decide +kernel
theorem dX7_readNumber_97 : decode cX7_readNumber 97 = .ok (.iconst (-1), 1) := by decide +kernel
theorem dX7_readNumber_98 : decode cX7_readNumber 98 = .ok (.ireturn, 1) := by decide +kernel
theorem dX7_isDigit_0 : decode cX7_isDigit 0 = .ok (.iload_n 0, 1) := by decide +kernel
theorem dX7_isDigit_1 : decode cX7_isDigit 1 = .ok (.bipush 48, 2) := by decide +kernel
theorem dX7_isDigit_3 : decode cX7_isDigit 3 = .ok (.if_icmp .lt 13, 3) := by decide +kernel
theorem dX7_isDigit_6 : decode cX7_isDigit 6 = .ok (.iload_n 0, 1) := by decide +kernel
theorem dX7_isDigit_7 : decode cX7_isDigit 7 = .ok (.bipush 57, 2) := by decide +kernel
theorem dX7_isDigit_9 : decode cX7_isDigit 9 = .ok (.if_icmp .gt 7, 3) := by decide +kernel
theorem dX7_isDigit_12 : decode cX7_isDigit 12 = .ok (.iconst 1, 1) := by decide +kernel
theorem dX7_isDigit_13 : decode cX7_isDigit 13 = .ok (.goto 4, 3) := by decide +kernel
theorem dX7_isDigit_16 : decode cX7_isDigit 16 = .ok (.iconst 0, 1) := by decide +kernel
theorem dX7_isDigit_17 : decode cX7_isDigit 17 = .ok (.ireturn, 1) := by decide +kernel
theorem dX7_stepOver_0 : decode cX7_stepOver 0 = .ok (.aload_n 0, 1) := by decide +kernel
theorem dX7_stepOver_1 : decode cX7_stepOver 1 = .ok (.dup, 1) := by decide +kernel
theorem dX7_stepOver_2 : decode cX7_stepOver 2 = .ok (.getfield 23, 3) := by decide +kernel
theorem dX7_stepOver_5 : decode cX7_stepOver 5 = .ok (.iconst 1, 1) := by decide +kernel
theorem dX7_stepOver_6 : decode cX7_stepOver 6 = .ok (.iadd, 1) := by decide +kernel
theorem dX7_stepOver_7 : decode cX7_stepOver 7 = .ok (.putfield 23, 3) := by decide +kernel
theorem dX7_stepOver_10 : decode cX7_stepOver 10 = .ok (.aload_n 0, 1) := by decide +kernel
theorem dX7_stepOver_11 : decode cX7_stepOver 11 = .ok (.invokevirtual 30, 3) := by decide +kernel
theorem dX7_stepOver_14 : decode cX7_stepOver 14 = .ok (.return_, 1) := by decide +kernel
theorem dX7_skipBlanks_0 : decode cX7_skipBlanks 0 = .ok (.aload_n 0, 1) := by decide +kernel
theorem dX7_skipBlanks_1 : decode cX7_skipBlanks 1 = .ok (.getfield 23, 3) := by decide +kernel
theorem dX7_skipBlanks_4 : decode cX7_skipBlanks 4 = .ok (.aload_n 0, 1) := by decide +kernel
theorem dX7_skipBlanks_5 : decode cX7_skipBlanks 5 = .ok (.getfield 20, 3) := by decide +kernel
theorem dX7_skipBlanks_8 : decode cX7_skipBlanks 8 = .ok (.getfield 27, 3) := by decide +kernel
theorem dX7_skipBlanks_11 : decode cX7_skipBlanks 11 = .ok (.if_icmp .ge 32, 3) := by decide +kernel
theorem dX7_skipBlanks_14 : decode cX7_skipBlanks 14 = .ok (.aload_n 0, 1) := by decide +kernel
theorem dX7_skipBlanks_15 : decode cX7_skipBlanks 15 = .ok (.getfield 20, 3) := by decide +kernel
theorem dX7_skipBlanks_18 : decode cX7_skipBlanks 18 = .ok (.aload_n 0, 1) := by decide +kernel
theorem dX7_skipBlanks_19 : decode cX7_skipBlanks 19 = .ok (.getfield 23, 3) := by decide +kernel
theorem dX7_skipBlanks_22 : decode cX7_skipBlanks 22 = .ok (.invokevirtual 37, 3) := by decide +kernel
theorem dX7_skipBlanks_25 : decode cX7_skipBlanks 25 = .ok (.bipush 32, 2) := by decide +kernel
theorem dX7_skipBlanks_27 : decode cX7_skipBlanks 27 = .ok (.if_icmp .ne 16, 3) := by decide +kernel
theorem dX7_skipBlanks_30 : decode cX7_skipBlanks 30 = .ok (.aload_n 0, 1) := by decide +kernel
theorem dX7_skipBlanks_31 : decode cX7_skipBlanks 31 = .ok (.dup, 1) := by decide +kernel
theorem dX7_skipBlanks_32 : decode cX7_skipBlanks 32 = .ok (.getfield 23, 3) := by decide +kernel
theorem dX7_skipBlanks_35 : decode cX7_skipBlanks 35 = .ok (.iconst 1, 1) := by decide +kernel
theorem dX7_skipBlanks_36 : decode cX7_skipBlanks 36 = .ok (.iadd, 1) := by decide +kernel
theorem dX7_skipBlanks_37 : decode cX7_skipBlanks 37 = .ok (.putfield 23, 3) := by decide +kernel
theorem dX7_skipBlanks_40 : decode cX7_skipBlanks 40 = .ok (.goto (-40), 3) := by decide +kernel
theorem dX7_skipBlanks_43 : decode cX7_skipBlanks 43 = .ok (.return_, 1) := by decide +kernel
theorem dX8_init_0 : decode cX8_init 0 = .ok (.aload_n 0, 1) := by decide +kernel
theorem dX8_init_1 : decode cX8_init 1 = .ok (.invokespecial 3, 3) := by decide +kernel
theorem dX8_init_4 : decode cX8_init 4 = .ok (.aload_n 0, 1) := by decide +kernel
theorem dX8_init_5 : decode cX8_init 5 = .ok (.sipush 201, 3) := by decide +kernel
theorem dX8_init_8 : decode cX8_init 8 = .ok (.newarray .int, 2) := by decide +kernel
theorem dX8_init_10 : decode cX8_init 10 = .ok (.putfield 9, 3) := by decide +kernel
theorem dX8_init_13 : decode cX8_init 13 = .ok (.aload_n 0, 1) := by decide +kernel
theorem dX8_init_14 : decode cX8_init 14 = .ok (.sipush 201, 3) := by decide +kernel
theorem dX8_init_17 : decode cX8_init 17 = .ok (.newarray .int, 2) := by decide +kernel
theorem dX8_init_19 : decode cX8_init 19 = .ok (.putfield 15, 3) := by decide +kernel
theorem dX8_init_22 : decode cX8_init 22 = .ok (.aload_n 0, 1) := by decide +kernel
theorem dX8_init_23 : decode cX8_init 23 = .ok (.bipush 21, 2) := by decide +kernel
theorem dX8_init_25 : decode cX8_init 25 = .ok (.anewarray 18, 3) := by decide +kernel
theorem dX8_init_28 : decode cX8_init 28 = .ok (.putfield 20, 3) := by decide +kernel
theorem dX8_init_31 : decode cX8_init 31 = .ok (.iconst 0, 1) := by decide +kernel
theorem dX8_init_32 : decode cX8_init 32 = .ok (.istore_n 1, 1) := by decide +kernel
theorem dX8_init_33 : decode cX8_init 33 = .ok (.iload_n 1, 1) := by decide +kernel
theorem dX8_init_34 : decode cX8_init 34 = .ok (.bipush 20, 2) := by decide +kernel
theorem dX8_init_36 : decode cX8_init 36 = .ok (.if_icmp .gt 23, 3) := by decide +kernel
theorem dX8_init_39 : decode cX8_init 39 = .ok (.aload_n 0, 1) := by decide +kernel
theorem dX8_init_40 : decode cX8_init 40 = .ok (.getfield 20, 3) := by decide +kernel
theorem dX8_init_43 : decode cX8_init 43 = .ok (.iload_n 1, 1) := by decide +kernel
theorem dX8_init_44 : decode cX8_init 44 = .ok (.new 18, 3) := by decide +kernel
theorem dX8_init_47 : decode cX8_init 47 = .ok (.dup, 1) := by decide +kernel
theorem dX8_init_48 : decode cX8_init 48 = .ok (.iload_n 1, 1) := by decide +kernel
theorem dX8_init_49 : decode cX8_init 49 = .ok (.invokespecial 24, 3) := by decide +kernel
theorem dX8_init_52 : decode cX8_init 52 = .ok (.aastore, 1) := by decide +kernel
theorem dX8_init_53 : decode cX8_init 53 = .ok (.iinc 1 1, 3) := by decide +kernel
theorem dX8_init_56 : decode cX8_init 56 = .ok (.goto (-23), 3) := by decide +kernel
theorem dX8_init_59 : decode cX8_init 59 = .ok (.return_, 1) := by decide +kernel
theorem dX8_leastCost_0 : decode cX8_leastCost 0 = .ok (.aload_n 0, 1) := by decide +kernel
theorem dX8_leastCost_1 : decode cX8_leastCost 1 = .ok (.aload_n 1, 1) := by decide +kernel
theorem dX8_leastCost_2 : decode cX8_leastCost 2 = .ok (.invokevirtual 27, 3) := by decide +kernel
theorem dX8_leastCost_5 : decode cX8_leastCost 5 = .ok (.aload_n 0, 1) := by decide +kernel
theorem dX8_leastCost_6 : decode cX8_leastCost 6 = .ok (.getfield 9, 3) := by decide +kernel
theorem dX8_leastCost_9 : decode cX8_leastCost 9 = .ok (.iconst 0, 1) := by decide +kernel
theorem dX8_leastCost_10 : decode cX8_leastCost 10 = .ok (.iaload, 1) := by decide +kernel
theorem dX8_leastCost_11 : decode cX8_leastCost 11 = .ok (.sipush 256, 3) := by decide +kernel
theorem dX8_leastCost_14 : decode cX8_leastCost 14 = .ok (.idiv, 1) := by decide +kernel
theorem dX8_leastCost_15 : decode cX8_leastCost 15 = .ok (.ireturn, 1) := by decide +kernel
theorem dX8_cut_0 : decode cX8_cut 0 = .ok (.aload_n 0, 1) := by decide +kernel
theorem dX8_cut_1 : decode cX8_cut 1 = .ok (.aload_n 1, 1) := by decide +kernel
theorem dX8_cut_2 : decode cX8_cut 2 = .ok (.getfield 31, 3) := by decide +kernel
theorem dX8_cut_5 : decode cX8_cut 5 = .ok (.invokevirtual 27, 3) := by decide +kernel
theorem dX8_cut_8 : decode cX8_cut 8 = .ok (.aload_n 1, 1) := by decide +kernel
theorem dX8_cut_9 : decode cX8_cut 9 = .ok (.iconst 0, 1) := by decide +kernel
theorem dX8_cut_10 : decode cX8_cut 10 = .ok (.putfield 37, 3) := by decide +kernel
theorem dX8_cut_13 : decode cX8_cut 13 = .ok (.iconst 0, 1) := by decide +kernel
theorem dX8_cut_14 : decode cX8_cut 14 = .ok (.istore_n 2, 1) := by decide +kernel
theorem dX8_cut_15 : decode cX8_cut 15 = .ok (.iconst 0, 1) := by decide +kernel
theorem dX8_cut_16 : decode cX8_cut 16 = .ok (.istore_n 3, 1) := by decide +kernel
theorem dX8_cut_17 : decode cX8_cut 17 = .ok (.iload_n 3, 1) := by decide +kernel
theorem dX8_cut_18 : decode cX8_cut 18 = .ok (.aload_n 1, 1) := by decide +kernel
theorem dX8_cut_19 : decode cX8_cut 19 = .ok (.getfield 31, 3) := by decide +kernel
theorem dX8_cut_22 : decode cX8_cut 22 = .ok (.getfield 41, 3) := by decide +kernel
theorem dX8_cut_25 : decode cX8_cut 25 = .ok (.if_icmp .ge 26, 3) := by decide +kernel
theorem dX8_cut_28 : decode cX8_cut 28 = .ok (.iload_n 3, 1) := by decide +kernel
theorem dX8_cut_29 : decode cX8_cut 29 = .ok (.iload_n 2, 1) := by decide +kernel
theorem dX8_cut_30 : decode cX8_cut 30 = .ok (.if_icmp .ne 15, 3) := by decide +kernel
theorem dX8_cut_33 : decode cX8_cut 33 = .ok (.aload_n 1, 1) := by decide +kernel
theorem dX8_cut_34 : decode cX8_cut 34 = .ok (.iload_n 3, 1) := by decide +kernel
theorem dX8_cut_35 : decode cX8_cut 35 = .ok (.invokevirtual 46, 3) := by decide +kernel
theorem dX8_cut_38 : decode cX8_cut 38 = .ok (.aload_n 0, 1) := by decide +kernel
theorem dX8_cut_39 : decode cX8_cut 39 = .ok (.getfield 15, 3) := by decide +kernel
theorem dX8_cut_42 : decode cX8_cut 42 = .ok (.iload_n 3, 1) := by decide +kernel
theorem dX8_cut_43 : decode cX8_cut 43 = .ok (.iaload, 1) := by decide +kernel
theorem dX8_cut_44 : decode cX8_cut 44 = .ok (.istore_n 2, 1) := by decide +kernel
theorem dX8_cut_45 : decode cX8_cut 45 = .ok (.iinc 3 1, 3) := by decide +kernel
theorem dX8_cut_48 : decode cX8_cut 48 = .ok (.goto (-31), 3) := by decide +kernel
theorem dX8_cut_51 : decode cX8_cut 51 = .ok (.return_, 1) := by decide +kernel
theorem dX8_plan_0 : decode cX8_plan 0 = .ok (.aload_n 1, 1) := by decide +kernel
theorem dX8_plan_1 : decode cX8_plan 1 = .ok (.invokestatic 49, 3) := by decide +kernel
theorem dX8_plan_4 : decode cX8_plan 4 = .ok (.istore_n 2, 1) := by decide +kernel
theorem dX8_plan_5 : decode cX8_plan 5 = .ok (.iconst 0, 1) := by decide +kernel
theorem dX8_plan_6 : decode cX8_plan 6 = .ok (.istore_n 3, 1) := by decide +kernel
theorem dX8_plan_7 : decode cX8_plan 7 = .ok (.iload_n 3, 1) := by decide +kernel
theorem dX8_plan_8 : decode cX8_plan 8 = .ok (.iload_n 2, 1) := by decide +kernel
theorem dX8_plan_9 : decode cX8_plan 9 = .ok (.if_icmp .gt 18, 3) := by decide +kernel
theorem dX8_plan_12 : decode cX8_plan 12 = .ok (.aload_n 0, 1) := by decide +kernel
theorem dX8_plan_13 : decode cX8_plan 13 = .ok (.getfield 20, 3) := by decide +kernel
theorem dX8_plan_16 : decode cX8_plan 16 = .ok (.iload_n 3, 1) := by decide +kernel
theorem dX8_plan_17 : decode cX8_plan 17 = .ok (.aaload, 1) := by decide +kernel
theorem dX8_plan_18 : decode cX8_plan 18 = .ok (.invokevirtual 53, 3) := by decide +kernel
theorem dX8_plan_21 : decode cX8_plan 21 = .ok (.iinc 3 1, 3) := by decide +kernel
theorem dX8_plan_24 : decode cX8_plan 24 = .ok (.goto (-17), 3) := by decide +kernel
theorem dX8_plan_27 : decode cX8_plan 27 = .ok (.aload_n 0, 1) := by decide +kernel
theorem dX8_plan_28 : decode cX8_plan 28 = .ok (.getfield 9, 3) := by decide +kernel
theorem dX8_plan_31 : decode cX8_plan 31 = .ok (.aload_n 1, 1) := by decide +kernel
theorem dX8_plan_32 : decode cX8_plan 32 = .ok (.getfield 41, 3) := by decide +kernel
theorem dX8_plan_35 : decode cX8_plan 35 = .ok (.iconst 0, 1) := by decide +kernel
theorem dX8_plan_36 : decode cX8_plan 36 = .ok (.iastore, 1) := by decide +kernel
theorem dX8_plan_37 : decode cX8_plan 37 = .ok (.aload_n 1, 1) := by decide +kernel
theorem dX8_plan_38 : decode cX8_plan 38 = .ok (.getfield 41, 3) := by decide +kernel
theorem dX8_plan_41 : decode cX8_plan 41 = .ok (.iconst 1, 1) := by decide +kernel
theorem dX8_plan_42 : decode cX8_plan 42 = .ok (.isub, 1) := by decide +kernel
theorem dX8_plan_43 : decode cX8_plan 43 = .ok (.istore_n 3, 1) := by decide +kernel
theorem dX8_plan_44 : decode cX8_plan 44 = .ok (.iload_n 3, 1) := by decide +kernel
theorem dX8_plan_45 : decode cX8_plan 45 = .ok (.ifCond .lt 32, 3) := by decide +kernel
theorem dX8_plan_48 : decode cX8_plan 48 = .ok (.aload_n 0, 1) := by decide +kernel
theorem dX8_plan_49 : decode cX8_plan 49 = .ok (.iload_n 3, 1) := by decide +kernel
theorem dX8_plan_50 : decode cX8_plan 50 = .ok (.iload_n 2, 1) := by decide +kernel
theorem dX8_plan_51 : decode cX8_plan 51 = .ok (.invokevirtual 56, 3) := by decide +kernel
theorem dX8_plan_54 : decode cX8_plan 54 = .ok (.iload_n 3, 1) := by decide +kernel
theorem dX8_plan_55 : decode cX8_plan 55 = .ok (.ifCond .le 16, 3) := by decide +kernel
theorem dX8_plan_58 : decode cX8_plan 58 = .ok (.aload_n 0, 1) := by decide +kernel
theorem dX8_plan_59 : decode cX8_plan 59 = .ok (.aload_n 1, 1) := by decide +kernel
theorem dX8_plan_60 : decode cX8_plan 60 = .ok (.iload_n 3, 1) := by decide +kernel
theorem dX8_plan_61 : decode cX8_plan 61 = .ok (.invokevirtual 60, 3) := by decide +kernel
theorem dX8_plan_64 : decode cX8_plan 64 = .ok (.invokestatic 64, 3) := by decide +kernel
theorem dX8_plan_67 : decode cX8_plan 67 = .ok (.iload_n 2, 1) := by decide +kernel
theorem dX8_plan_68 : decode cX8_plan 68 = .ok (.invokevirtual 67, 3) := by decide +kernel
theorem dX8_plan_71 : decode cX8_plan 71 = .ok (.iinc 3 (-1), 3) := by decide +kernel
theorem dX8_plan_74 : decode cX8_plan 74 = .ok (.goto (-30), 3) := by decide +kernel
theorem dX8_plan_77 : decode cX8_plan 77 = .ok (.return_, 1) := by decide +kernel
theorem dX8_widestOf_0 : decode cX8_widestOf 0 = .ok (.iconst 0, 1) := by decide +kernel
theorem dX8_widestOf_1 : decode cX8_widestOf 1 = .ok (.istore_n 1, 1) := by decide +kernel
theorem dX8_widestOf_2 : decode cX8_widestOf 2 = .ok (.iconst 1, 1) := by decide +kernel
theorem dX8_widestOf_3 : decode cX8_widestOf 3 = .ok (.istore_n 2, 1) := by decide +kernel
theorem dX8_widestOf_4 : decode cX8_widestOf 4 = .ok (.iload_n 2, 1) := by decide +kernel
theorem dX8_widestOf_5 : decode cX8_widestOf 5 = .ok (.aload_n 0, 1) := by decide +kernel
theorem dX8_widestOf_6 : decode cX8_widestOf 6 = .ok (.getfield 41, 3) := by decide +kernel
theorem dX8_widestOf_9 : decode cX8_widestOf 9 = .ok (.if_icmp .ge 22, 3) := by decide +kernel
theorem dX8_widestOf_12 : decode cX8_widestOf 12 = .ok (.iload_n 1, 1) := by decide +kernel
theorem dX8_widestOf_13 : decode cX8_widestOf 13 = .ok (.aload_n 0, 1) := by decide +kernel
theorem dX8_widestOf_14 : decode cX8_widestOf 14 = .ok (.iload_n 2, 1) := by decide +kernel
theorem dX8_widestOf_15 : decode cX8_widestOf 15 = .ok (.invokevirtual 60, 3) := by decide +kernel
theorem dX8_widestOf_18 : decode cX8_widestOf 18 = .ok (.invokestatic 64, 3) := by decide +kernel
theorem dX8_widestOf_21 : decode cX8_widestOf 21 = .ok (.invokestatic 70, 3) := by decide +kernel
theorem dX8_widestOf_24 : decode cX8_widestOf 24 = .ok (.istore_n 1, 1) := by decide +kernel
theorem dX8_widestOf_25 : decode cX8_widestOf 25 = .ok (.iinc 2 1, 3) := by decide +kernel
theorem dX8_widestOf_28 : decode cX8_widestOf 28 = .ok (.goto (-24), 3) := by decide +kernel
theorem dX8_widestOf_31 : decode cX8_widestOf 31 = .ok (.iload_n 1, 1) := by decide +kernel
theorem dX8_widestOf_32 : decode cX8_widestOf 32 = .ok (.ireturn, 1) := by decide +kernel
theorem dX8_chooseEnd_0 : decode cX8_chooseEnd 0 = .ok (.ldc 78, 2) := by decide +kernel
theorem dX8_chooseEnd_2 : decode cX8_chooseEnd 2 = .ok (.istore_n 3, 1) := by decide +kernel
theorem dX8_chooseEnd_3 : decode cX8_chooseEnd 3 = .ok (.iload_n 1, 1) := by decide +kernel
theorem dX8_chooseEnd_4 : decode cX8_chooseEnd 4 = .ok (.iconst 1, 1) := by decide +kernel
theorem dX8_chooseEnd_5 : decode cX8_chooseEnd 5 = .ok (.iadd, 1) := by decide +kernel
theorem dX8_chooseEnd_6 : decode cX8_chooseEnd 6 = .ok (.istore 4, 2) := by decide +kernel
theorem dX8_chooseEnd_8 : decode cX8_chooseEnd 8 = .ok (.iconst 0, 1) := by decide +kernel
theorem dX8_chooseEnd_9 : decode cX8_chooseEnd 9 = .ok (.istore 5, 2) := by decide +kernel
theorem dX8_chooseEnd_11 : decode cX8_chooseEnd 11 = .ok (.iload 5, 2) := by decide +kernel
theorem dX8_chooseEnd_13 : decode cX8_chooseEnd 13 = .ok (.iload_n 2, 1) := by decide +kernel
theorem dX8_chooseEnd_14 : decode cX8_chooseEnd 14 = .ok (.if_icmp .gt 80, 3) := by decide +kernel
theorem dX8_chooseEnd_17 : decode cX8_chooseEnd 17 = .ok (.aload_n 0, 1) := by decide +kernel
theorem dX8_chooseEnd_18 : decode cX8_chooseEnd 18 = .ok (.getfield 20, 3) := by decide +kernel
theorem dX8_chooseEnd_21 : decode cX8_chooseEnd 21 = .ok (.iload 5, 2) := by decide +kernel
theorem dX8_chooseEnd_23 : decode cX8_chooseEnd 23 = .ok (.aaload, 1) := by decide +kernel
theorem dX8_chooseEnd_24 : decode cX8_chooseEnd 24 = .ok (.iload_n 1, 1) := by decide +kernel
theorem dX8_chooseEnd_25 : decode cX8_chooseEnd 25 = .ok (.iconst 1, 1) := by decide +kernel
theorem dX8_chooseEnd_26 : decode cX8_chooseEnd 26 = .ok (.iadd, 1) := by decide +kernel
theorem dX8_chooseEnd_27 : decode cX8_chooseEnd 27 = .ok (.aload_n 0, 1) := by decide +kernel
theorem dX8_chooseEnd_28 : decode cX8_chooseEnd 28 = .ok (.getfield 9, 3) := by decide +kernel
theorem dX8_chooseEnd_31 : decode cX8_chooseEnd 31 = .ok (.iload_n 1, 1) := by decide +kernel
theorem dX8_chooseEnd_32 : decode cX8_chooseEnd 32 = .ok (.iconst 1, 1) := by decide +kernel
theorem dX8_chooseEnd_33 : decode cX8_chooseEnd 33 = .ok (.iadd, 1) := by decide +kernel
theorem dX8_chooseEnd_34 : decode cX8_chooseEnd 34 = .ok (.iaload, 1) := by decide +kernel
theorem dX8_chooseEnd_35 : decode cX8_chooseEnd 35 = .ok (.invokevirtual 79, 3) := by decide +kernel
theorem dX8_chooseEnd_38 : decode cX8_chooseEnd 38 = .ok (.aload_n 0, 1) := by decide +kernel
theorem dX8_chooseEnd_39 : decode cX8_chooseEnd 39 = .ok (.getfield 20, 3) := by decide +kernel
theorem dX8_chooseEnd_42 : decode cX8_chooseEnd 42 = .ok (.iload 5, 2) := by decide +kernel
theorem dX8_chooseEnd_44 : decode cX8_chooseEnd 44 = .ok (.aaload, 1) := by decide +kernel
theorem dX8_chooseEnd_45 : decode cX8_chooseEnd 45 = .ok (.invokevirtual 82, 3) := by decide +kernel
theorem dX8_chooseEnd_48 : decode cX8_chooseEnd 48 = .ok (.istore 6, 2) := by decide +kernel
theorem dX8_chooseEnd_50 : decode cX8_chooseEnd 50 = .ok (.aload_n 0, 1) := by decide +kernel
theorem dX8_chooseEnd_51 : decode cX8_chooseEnd 51 = .ok (.getfield 20, 3) := by decide +kernel
theorem dX8_chooseEnd_54 : decode cX8_chooseEnd 54 = .ok (.iload 5, 2) := by decide +kernel
theorem dX8_chooseEnd_56 : decode cX8_chooseEnd 56 = .ok (.aaload, 1) := by decide +kernel
theorem dX8_chooseEnd_57 : decode cX8_chooseEnd 57 = .ok (.invokevirtual 86, 3) := by decide +kernel
theorem dX8_chooseEnd_60 : decode cX8_chooseEnd 60 = .ok (.istore 7, 2) := by decide +kernel
theorem dX8_chooseEnd_62 : decode cX8_chooseEnd 62 = .ok (.iload 6, 2) := by decide +kernel
theorem dX8_chooseEnd_64 : decode cX8_chooseEnd 64 = .ok (.iload_n 3, 1) := by decide +kernel
theorem dX8_chooseEnd_65 : decode cX8_chooseEnd 65 = .ok (.if_icmp .lt 16, 3) := by decide +kernel
theorem dX8_chooseEnd_68 : decode cX8_chooseEnd 68 = .ok (.iload 6, 2) := by decide +kernel
