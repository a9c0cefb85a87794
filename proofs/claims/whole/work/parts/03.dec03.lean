theorem dX11_costBy_92 : decode cX11_costBy 92 = .ok (.istore 5, 2) := by decide +kernel
theorem dX11_costBy_94 : decode cX11_costBy 94 = .ok (.goto (-48), 3) := by decide +kernel
theorem dX11_costBy_97 : decode cX11_costBy 97 = .ok (.iload 4, 2) := by decide +kernel
theorem dX11_costBy_99 : decode cX11_costBy 99 = .ok (.ireturn, 1) := by decide +kernel
theorem dX11_part_0 : decode cX11_part 0 = .ok (.iload_n 1, 1) := by decide +kernel
theorem dX11_part_1 : decode cX11_part 1 = .ok (.invokestatic 74, 3) := by decide +kernel
theorem dX11_part_4 : decode cX11_part 4 = .ok (.ifCond .eq 28, 3) := by decide +kernel
theorem dX11_part_7 : decode cX11_part 7 = .ok (.iload_n 2, 1) := by decide +kernel
theorem dX11_part_8 : decode cX11_part 8 = .ok (.ifCond .lt 24, 3) := by decide +kernel
theorem dX11_part_11 : decode cX11_part 11 = .ok (.iload_n 3, 1) := by decide +kernel
theorem dX11_part_12 : decode cX11_part 12 = .ok (.iload_n 2, 1) := by decide +kernel
theorem dX11_part_13 : decode cX11_part 13 = .ok (.if_icmp .lt 19, 3) := by decide +kernel
theorem dX11_part_16 : decode cX11_part 16 = .ok (.iload_n 3, 1) := by decide +kernel
theorem dX11_part_17 : decode cX11_part 17 = .ok (.aload_n 0, 1) := by decide +kernel
theorem dX11_part_18 : decode cX11_part 18 = .ok (.getfield 11, 3) := by decide +kernel
theorem dX11_part_21 : decode cX11_part 21 = .ok (.iload_n 1, 1) := by decide +kernel
theorem dX11_part_22 : decode cX11_part 22 = .ok (.aaload, 1) := by decide +kernel
theorem dX11_part_23 : decode cX11_part 23 = .ok (.getfield 81, 3) := by decide +kernel
theorem dX11_part_26 : decode cX11_part 26 = .ok (.getfield 87, 3) := by decide +kernel
theorem dX11_part_29 : decode cX11_part 29 = .ok (.if_icmp .lt 6, 3) := by decide +kernel
theorem dX11_part_32 : decode cX11_part 32 = .ok (.bipush (-2), 2) := by decide +kernel
theorem dX11_part_34 : decode cX11_part 34 = .ok (.ireturn, 1) := by decide +kernel
theorem dX11_part_35 : decode cX11_part 35 = .ok (.iload_n 3, 1) := by decide +kernel
theorem dX11_part_36 : decode cX11_part 36 = .ok (.iload_n 2, 1) := by decide +kernel
theorem dX11_part_37 : decode cX11_part 37 = .ok (.isub, 1) := by decide +kernel
theorem dX11_part_38 : decode cX11_part 38 = .ok (.bipush 64, 2) := by decide +kernel
theorem dX11_part_40 : decode cX11_part 40 = .ok (.if_icmp .lt 6, 3) := by decide +kernel
theorem dX11_part_43 : decode cX11_part 43 = .ok (.bipush (-2), 2) := by decide +kernel
theorem dX11_part_45 : decode cX11_part 45 = .ok (.ireturn, 1) := by decide +kernel
theorem dX11_part_46 : decode cX11_part 46 = .ok (.aload_n 0, 1) := by decide +kernel
theorem dX11_part_47 : decode cX11_part 47 = .ok (.getfield 41, 3) := by decide +kernel
theorem dX11_part_50 : decode cX11_part 50 = .ok (.aload_n 0, 1) := by decide +kernel
theorem dX11_part_51 : decode cX11_part 51 = .ok (.getfield 11, 3) := by decide +kernel
theorem dX11_part_54 : decode cX11_part 54 = .ok (.iload_n 1, 1) := by decide +kernel
theorem dX11_part_55 : decode cX11_part 55 = .ok (.aaload, 1) := by decide +kernel
theorem dX11_part_56 : decode cX11_part 56 = .ok (.getfield 81, 3) := by decide +kernel
theorem dX11_part_59 : decode cX11_part 59 = .ok (.iload_n 2, 1) := by decide +kernel
theorem dX11_part_60 : decode cX11_part 60 = .ok (.iload_n 3, 1) := by decide +kernel
theorem dX11_part_61 : decode cX11_part 61 = .ok (.iconst 1, 1) := by decide +kernel
theorem dX11_part_62 : decode cX11_part 62 = .ok (.iadd, 1) := by decide +kernel
theorem dX11_part_63 : decode cX11_part 63 = .ok (.invokevirtual 195, 3) := by decide +kernel
theorem dX11_part_66 : decode cX11_part 66 = .ok (.iload 4, 2) := by decide +kernel
theorem dX11_part_68 : decode cX11_part 68 = .ok (.tableswitch 52 0 2 #[28, 36, 44], 28) := by decide +kernel
theorem dX11_part_96 : decode cX11_part 96 = .ok (.aload_n 0, 1) := by decide +kernel
theorem dX11_part_97 : decode cX11_part 97 = .ok (.getfield 41, 3) := by decide +kernel
theorem dX11_part_100 : decode cX11_part 100 = .ok (.getfield 202, 3) := by decide +kernel
theorem dX11_part_103 : decode cX11_part 103 = .ok (.ireturn, 1) := by decide +kernel
theorem dX11_part_104 : decode cX11_part 104 = .ok (.aload_n 0, 1) := by decide +kernel
theorem dX11_part_105 : decode cX11_part 105 = .ok (.getfield 41, 3) := by decide +kernel
theorem dX11_part_108 : decode cX11_part 108 = .ok (.getfield 199, 3) := by decide +kernel
theorem dX11_part_111 : decode cX11_part 111 = .ok (.ireturn, 1) := by decide +kernel
theorem dX11_part_112 : decode cX11_part 112 = .ok (.aload_n 0, 1) := by decide +kernel
theorem dX11_part_113 : decode cX11_part 113 = .ok (.getfield 41, 3) := by decide +kernel
theorem dX11_part_116 : decode cX11_part 116 = .ok (.getfield 205, 3) := by decide +kernel
theorem dX11_part_119 : decode cX11_part 119 = .ok (.ireturn, 1) := by decide +kernel
theorem dX11_part_120 : decode cX11_part 120 = .ok (.bipush (-2), 2) := by decide +kernel
theorem dX11_part_122 : decode cX11_part 122 = .ok (.ireturn, 1) := by decide +kernel
theorem dX11_at_0 : decode cX11_at 0 = .ok (.iload_n 1, 1) := by decide +kernel
theorem dX11_at_1 : decode cX11_at 1 = .ok (.invokestatic 74, 3) := by decide +kernel
theorem dX11_at_4 : decode cX11_at 4 = .ok (.ifCond .eq 23, 3) := by decide +kernel
theorem dX11_at_7 : decode cX11_at 7 = .ok (.iload_n 2, 1) := by decide +kernel
theorem dX11_at_8 : decode cX11_at 8 = .ok (.ifCond .lt 19, 3) := by decide +kernel
theorem dX11_at_11 : decode cX11_at 11 = .ok (.iload_n 2, 1) := by decide +kernel
theorem dX11_at_12 : decode cX11_at 12 = .ok (.aload_n 0, 1) := by decide +kernel
theorem dX11_at_13 : decode cX11_at 13 = .ok (.getfield 11, 3) := by decide +kernel
theorem dX11_at_16 : decode cX11_at 16 = .ok (.iload_n 1, 1) := by decide +kernel
theorem dX11_at_17 : decode cX11_at 17 = .ok (.aaload, 1) := by decide +kernel
theorem dX11_at_18 : decode cX11_at 18 = .ok (.getfield 81, 3) := by decide +kernel
theorem dX11_at_21 : decode cX11_at 21 = .ok (.getfield 87, 3) := by decide +kernel
theorem dX11_at_24 : decode cX11_at 24 = .ok (.if_icmp .lt 6, 3) := by decide +kernel
theorem dX11_at_27 : decode cX11_at 27 = .ok (.bipush (-2), 2) := by decide +kernel
theorem dX11_at_29 : decode cX11_at 29 = .ok (.ireturn, 1) := by decide +kernel
theorem dX11_at_30 : decode cX11_at 30 = .ok (.aload_n 0, 1) := by decide +kernel
theorem dX11_at_31 : decode cX11_at 31 = .ok (.getfield 11, 3) := by decide +kernel
theorem dX11_at_34 : decode cX11_at 34 = .ok (.iload_n 1, 1) := by decide +kernel
theorem dX11_at_35 : decode cX11_at 35 = .ok (.aaload, 1) := by decide +kernel
theorem dX11_at_36 : decode cX11_at 36 = .ok (.getfield 81, 3) := by decide +kernel
theorem dX11_at_39 : decode cX11_at 39 = .ok (.iload_n 2, 1) := by decide +kernel
theorem dX11_at_40 : decode cX11_at 40 = .ok (.invokevirtual 150, 3) := by decide +kernel
theorem dX11_at_43 : decode cX11_at 43 = .ok (.istore_n 3, 1) := by decide +kernel
theorem dX11_at_44 : decode cX11_at 44 = .ok (.aload_n 0, 1) := by decide +kernel
theorem dX11_at_45 : decode cX11_at 45 = .ok (.getfield 25, 3) := by decide +kernel
theorem dX11_at_48 : decode cX11_at 48 = .ok (.iload_n 1, 1) := by decide +kernel
theorem dX11_at_49 : decode cX11_at 49 = .ok (.aload_n 0, 1) := by decide +kernel
theorem dX11_at_50 : decode cX11_at 50 = .ok (.getfield 11, 3) := by decide +kernel
theorem dX11_at_53 : decode cX11_at 53 = .ok (.iload_n 1, 1) := by decide +kernel
theorem dX11_at_54 : decode cX11_at 54 = .ok (.aaload, 1) := by decide +kernel
theorem dX11_at_55 : decode cX11_at 55 = .ok (.iload_n 3, 1) := by decide +kernel
theorem dX11_at_56 : decode cX11_at 56 = .ok (.invokevirtual 208, 3) := by decide +kernel
theorem dX11_at_59 : decode cX11_at 59 = .ok (.invokevirtual 211, 3) := by decide +kernel
theorem dX11_at_62 : decode cX11_at 62 = .ok (.iload_n 3, 1) := by decide +kernel
theorem dX11_at_63 : decode cX11_at 63 = .ok (.ireturn, 1) := by decide +kernel
theorem dX11_find_0 : decode cX11_find 0 = .ok (.iload_n 1, 1) := by decide +kernel
theorem dX11_find_1 : decode cX11_find 1 = .ok (.invokestatic 74, 3) := by decide +kernel
theorem dX11_find_4 : decode cX11_find 4 = .ok (.ifCond .eq 19, 3) := by decide +kernel
theorem dX11_find_7 : decode cX11_find 7 = .ok (.iload_n 2, 1) := by decide +kernel
theorem dX11_find_8 : decode cX11_find 8 = .ok (.invokestatic 78, 3) := by decide +kernel
theorem dX11_find_11 : decode cX11_find 11 = .ok (.ifCond .eq 12, 3) := by decide +kernel
theorem dX11_find_14 : decode cX11_find 14 = .ok (.iload_n 3, 1) := by decide +kernel
theorem dX11_find_15 : decode cX11_find 15 = .ok (.ifCond .lt 8, 3) := by decide +kernel
theorem dX11_find_18 : decode cX11_find 18 = .ok (.iload_n 3, 1) := by decide +kernel
theorem dX11_find_19 : decode cX11_find 19 = .ok (.iconst 1, 1) := by decide +kernel
theorem dX11_find_20 : decode cX11_find 20 = .ok (.if_icmp .le 6, 3) := by decide +kernel
theorem dX11_find_23 : decode cX11_find 23 = .ok (.bipush (-2), 2) := by decide +kernel
theorem dX11_find_25 : decode cX11_find 25 = .ok (.ireturn, 1) := by decide +kernel
theorem dX11_find_26 : decode cX11_find 26 = .ok (.aload_n 0, 1) := by decide +kernel
theorem dX11_find_27 : decode cX11_find 27 = .ok (.getfield 11, 3) := by decide +kernel
theorem dX11_find_30 : decode cX11_find 30 = .ok (.iload_n 1, 1) := by decide +kernel
theorem dX11_find_31 : decode cX11_find 31 = .ok (.aaload, 1) := by decide +kernel
theorem dX11_find_32 : decode cX11_find 32 = .ok (.iload_n 2, 1) := by decide +kernel
theorem dX11_find_33 : decode cX11_find 33 = .ok (.invokevirtual 208, 3) := by decide +kernel
theorem dX11_find_36 : decode cX11_find 36 = .ok (.istore 4, 2) := by decide +kernel
theorem dX11_find_38 : decode cX11_find 38 = .ok (.iload 4, 2) := by decide +kernel
theorem dX11_find_40 : decode cX11_find 40 = .ok (.iconst (-1), 1) := by decide +kernel
theorem dX11_find_41 : decode cX11_find 41 = .ok (.if_icmp .eq 13, 3) := by decide +kernel
theorem dX11_find_44 : decode cX11_find 44 = .ok (.aload_n 0, 1) := by decide +kernel
theorem dX11_find_45 : decode cX11_find 45 = .ok (.getfield 25, 3) := by decide +kernel
theorem dX11_find_48 : decode cX11_find 48 = .ok (.iload_n 1, 1) := by decide +kernel
theorem dX11_find_49 : decode cX11_find 49 = .ok (.iload 4, 2) := by decide +kernel
theorem dX11_find_51 : decode cX11_find 51 = .ok (.invokevirtual 211, 3) := by decide +kernel
theorem dX11_find_54 : decode cX11_find 54 = .ok (.aload_n 0, 1) := by decide +kernel
theorem dX11_find_55 : decode cX11_find 55 = .ok (.getfield 11, 3) := by decide +kernel
theorem dX11_find_58 : decode cX11_find 58 = .ok (.iload_n 1, 1) := by decide +kernel
theorem dX11_find_59 : decode cX11_find 59 = .ok (.aaload, 1) := by decide +kernel
theorem dX11_find_60 : decode cX11_find 60 = .ok (.getfield 81, 3) := by decide +kernel
theorem dX11_find_63 : decode cX11_find 63 = .ok (.astore 5, 2) := by decide +kernel
theorem dX11_find_65 : decode cX11_find 65 = .ok (.aload 5, 2) := by decide +kernel
theorem dX11_find_67 : decode cX11_find 67 = .ok (.iload_n 2, 1) := by decide +kernel
theorem dX11_find_68 : decode cX11_find 68 = .ok (.invokevirtual 215, 3) := by decide +kernel
theorem dX11_find_71 : decode cX11_find 71 = .ok (.istore 6, 2) := by decide +kernel
theorem dX11_find_73 : decode cX11_find 73 = .ok (.iload 6, 2) := by decide +kernel
theorem dX11_find_75 : decode cX11_find 75 = .ok (.aload 5, 2) := by decide +kernel
theorem dX11_find_77 : decode cX11_find 77 = .ok (.getfield 87, 3) := by decide +kernel
theorem dX11_find_80 : decode cX11_find 80 = .ok (.if_icmp .lt 5, 3) := by decide +kernel
theorem dX11_find_83 : decode cX11_find 83 = .ok (.iconst (-1), 1) := by decide +kernel
theorem dX11_find_84 : decode cX11_find 84 = .ok (.ireturn, 1) := by decide +kernel
theorem dX11_find_85 : decode cX11_find 85 = .ok (.iload_n 3, 1) := by decide +kernel
theorem dX11_find_86 : decode cX11_find 86 = .ok (.ifCond .ne 8, 3) := by decide +kernel
theorem dX11_find_89 : decode cX11_find 89 = .ok (.iload 6, 2) := by decide +kernel
theorem dX11_find_91 : decode cX11_find 91 = .ok (.goto 10, 3) := by decide +kernel
theorem dX11_find_94 : decode cX11_find 94 = .ok (.aload 5, 2) := by decide +kernel
theorem dX11_find_96 : decode cX11_find 96 = .ok (.iload 6, 2) := by decide +kernel
theorem dX11_find_98 : decode cX11_find 98 = .ok (.invokevirtual 150, 3) := by decide +kernel
theorem dX11_find_101 : decode cX11_find 101 = .ok (.ireturn, 1) := by decide +kernel
theorem dX11_cached_0 : decode cX11_cached 0 = .ok (.aload_n 0, 1) := by decide +kernel
theorem dX11_cached_1 : decode cX11_cached 1 = .ok (.iload_n 1, 1) := by decide +kernel
theorem dX11_cached_2 : decode cX11_cached 2 = .ok (.iload_n 2, 1) := by decide +kernel
theorem dX11_cached_3 : decode cX11_cached 3 = .ok (.invokevirtual 153, 3) := by decide +kernel
theorem dX11_cached_6 : decode cX11_cached 6 = .ok (.ifCond .ne 6, 3) := by decide +kernel
theorem dX11_cached_9 : decode cX11_cached 9 = .ok (.bipush (-2), 2) := by decide +kernel
theorem dX11_cached_11 : decode cX11_cached 11 = .ok (.ireturn, 1) := by decide +kernel
theorem dX11_cached_12 : decode cX11_cached 12 = .ok (.aload_n 0, 1) := by decide +kernel
theorem dX11_cached_13 : decode cX11_cached 13 = .ok (.getfield 25, 3) := by decide +kernel
theorem dX11_cached_16 : decode cX11_cached 16 = .ok (.iload_n 1, 1) := by decide +kernel
theorem dX11_cached_17 : decode cX11_cached 17 = .ok (.iload_n 2, 1) := by decide +kernel
theorem dX11_cached_18 : decode cX11_cached 18 = .ok (.invokevirtual 218, 3) := by decide +kernel
theorem dX11_cached_21 : decode cX11_cached 21 = .ok (.iconst (-1), 1) := by decide +kernel
theorem dX11_cached_22 : decode cX11_cached 22 = .ok (.if_icmp .eq 7, 3) := by decide +kernel
theorem dX11_cached_25 : decode cX11_cached 25 = .ok (.iconst 1, 1) := by decide +kernel
theorem dX11_cached_26 : decode cX11_cached 26 = .ok (.goto 4, 3) := by decide +kernel
theorem dX11_cached_29 : decode cX11_cached 29 = .ok (.iconst 0, 1) := by decide +kernel
theorem dX11_cached_30 : decode cX11_cached 30 = .ok (.ireturn, 1) := by decide +kernel
theorem dX11_query_0 : decode cX11_query 0 = .ok (.aload_n 0, 1) := by decide +kernel
theorem dX11_query_1 : decode cX11_query 1 = .ok (.getfield 69, 3) := by decide +kernel
theorem dX11_query_4 : decode cX11_query 4 = .ok (.aload_n 0, 1) := by decide +kernel
theorem dX11_query_5 : decode cX11_query 5 = .ok (.getfield 34, 3) := by decide +kernel
theorem dX11_query_8 : decode cX11_query 8 = .ok (.invokevirtual 221, 3) := by decide +kernel
theorem dX11_query_11 : decode cX11_query 11 = .ok (.istore_n 1, 1) := by decide +kernel
theorem dX11_query_12 : decode cX11_query 12 = .ok (.iload_n 1, 1) := by decide +kernel
theorem dX11_query_13 : decode cX11_query 13 = .ok (.iconst (-1), 1) := by decide +kernel
theorem dX11_query_14 : decode cX11_query 14 = .ok (.if_icmp .eq 9, 3) := by decide +kernel
theorem dX11_query_17 : decode cX11_query 17 = .ok (.sipush (-2000), 3) := by decide +kernel
theorem dX11_query_20 : decode cX11_query 20 = .ok (.iload_n 1, 1) := by decide +kernel
theorem dX11_query_21 : decode cX11_query 21 = .ok (.isub, 1) := by decide +kernel
theorem dX11_query_22 : decode cX11_query 22 = .ok (.ireturn, 1) := by decide +kernel
theorem dX11_query_23 : decode cX11_query 23 = .ok (.aload_n 0, 1) := by decide +kernel
theorem dX11_query_24 : decode cX11_query 24 = .ok (.getfield 124, 3) := by decide +kernel
theorem dX11_query_27 : decode cX11_query 27 = .ok (.ifnonnull 14, 3) := by decide +kernel
theorem dX11_query_30 : decode cX11_query 30 = .ok (.aload_n 0, 1) := by decide +kernel
theorem dX11_query_31 : decode cX11_query 31 = .ok (.new 129, 3) := by decide +kernel
theorem dX11_query_34 : decode cX11_query 34 = .ok (.dup, 1) := by decide +kernel
theorem dX11_query_35 : decode cX11_query 35 = .ok (.invokespecial 222, 3) := by decide +kernel
theorem dX11_query_38 : decode cX11_query 38 = .ok (.putfield 124, 3) := by decide +kernel
theorem dX11_query_41 : decode cX11_query 41 = .ok (.aload_n 0, 1) := by decide +kernel
theorem dX11_query_42 : decode cX11_query 42 = .ok (.getfield 124, 3) := by decide +kernel
theorem dX11_query_45 : decode cX11_query 45 = .ok (.aload_n 0, 1) := by decide +kernel
theorem dX11_query_46 : decode cX11_query 46 = .ok (.getfield 69, 3) := by decide +kernel
theorem dX11_query_49 : decode cX11_query 49 = .ok (.getfield 223, 3) := by decide +kernel
theorem dX11_query_52 : decode cX11_query 52 = .ok (.aload_n 0, 1) := by decide +kernel
theorem dX11_query_53 : decode cX11_query 53 = .ok (.getfield 11, 3) := by decide +kernel
theorem dX11_query_56 : decode cX11_query 56 = .ok (.invokevirtual 226, 3) := by decide +kernel
theorem dX11_query_59 : decode cX11_query 59 = .ok (.aload_n 0, 1) := by decide +kernel
theorem dX11_query_60 : decode cX11_query 60 = .ok (.getfield 124, 3) := by decide +kernel
theorem dX11_query_63 : decode cX11_query 63 = .ok (.getfield 128, 3) := by decide +kernel
theorem dX11_query_66 : decode cX11_query 66 = .ok (.getfield 87, 3) := by decide +kernel
theorem dX11_query_69 : decode cX11_query 69 = .ok (.ireturn, 1) := by decide +kernel
theorem dX11_result_0 : decode cX11_result 0 = .ok (.iload_n 1, 1) := by decide +kernel
theorem dX11_result_1 : decode cX11_result 1 = .ok (.ifCond .ge 6, 3) := by decide +kernel
theorem dX11_result_4 : decode cX11_result 4 = .ok (.bipush (-2), 2) := by decide +kernel
theorem dX11_result_6 : decode cX11_result 6 = .ok (.ireturn, 1) := by decide +kernel
theorem dX11_result_7 : decode cX11_result 7 = .ok (.aload_n 0, 1) := by decide +kernel
theorem dX11_result_8 : decode cX11_result 8 = .ok (.getfield 124, 3) := by decide +kernel
theorem dX11_result_11 : decode cX11_result 11 = .ok (.ifnonnull 6, 3) := by decide +kernel
theorem dX11_result_14 : decode cX11_result 14 = .ok (.bipush (-3), 2) := by decide +kernel
theorem dX11_result_16 : decode cX11_result 16 = .ok (.ireturn, 1) := by decide +kernel
theorem dX11_result_17 : decode cX11_result 17 = .ok (.aload_n 0, 1) := by decide +kernel
theorem dX11_result_18 : decode cX11_result 18 = .ok (.getfield 124, 3) := by decide +kernel
theorem dX11_result_21 : decode cX11_result 21 = .ok (.getfield 128, 3) := by decide +kernel
theorem dX11_result_24 : decode cX11_result 24 = .ok (.iload_n 1, 1) := by decide +kernel
theorem dX11_result_25 : decode cX11_result 25 = .ok (.invokevirtual 150, 3) := by decide +kernel
theorem dX11_result_28 : decode cX11_result 28 = .ok (.ireturn, 1) := by decide +kernel
theorem dX11_common_0 : decode cX11_common 0 = .ok (.iload_n 1, 1) := by decide +kernel
theorem dX11_common_1 : decode cX11_common 1 = .ok (.invokestatic 74, 3) := by decide +kernel
theorem dX11_common_4 : decode cX11_common 4 = .ok (.ifCond .eq 19, 3) := by decide +kernel
theorem dX11_common_7 : decode cX11_common 7 = .ok (.iload_n 2, 1) := by decide +kernel
theorem dX11_common_8 : decode cX11_common 8 = .ok (.invokestatic 74, 3) := by decide +kernel
theorem dX11_common_11 : decode cX11_common 11 = .ok (.ifCond .eq 12, 3) := by decide +kernel
theorem dX11_common_14 : decode cX11_common 14 = .ok (.iload_n 3, 1) := by decide +kernel
theorem dX11_common_15 : decode cX11_common 15 = .ok (.ifCond .lt 8, 3) := by decide +kernel
theorem dX11_common_18 : decode cX11_common 18 = .ok (.iload_n 3, 1) := by decide +kernel
theorem dX11_common_19 : decode cX11_common 19 = .ok (.iconst 1, 1) := by decide +kernel
theorem dX11_common_20 : decode cX11_common 20 = .ok (.if_icmp .le 6, 3) := by decide +kernel
theorem dX11_common_23 : decode cX11_common 23 = .ok (.bipush (-2), 2) := by decide +kernel
theorem dX11_common_25 : decode cX11_common 25 = .ok (.ireturn, 1) := by decide +kernel
theorem dX11_common_26 : decode cX11_common 26 = .ok (.aload_n 0, 1) := by decide +kernel
theorem dX11_common_27 : decode cX11_common 27 = .ok (.getfield 55, 3) := by decide +kernel
theorem dX11_common_30 : decode cX11_common 30 = .ok (.iconst 0, 1) := by decide +kernel
theorem dX11_common_31 : decode cX11_common 31 = .ok (.putfield 230, 3) := by decide +kernel
theorem dX11_common_34 : decode cX11_common 34 = .ok (.aload_n 0, 1) := by decide +kernel
theorem dX11_common_35 : decode cX11_common 35 = .ok (.getfield 55, 3) := by decide +kernel
theorem dX11_common_38 : decode cX11_common 38 = .ok (.aload_n 0, 1) := by decide +kernel
theorem dX11_common_39 : decode cX11_common 39 = .ok (.getfield 11, 3) := by decide +kernel
theorem dX11_common_42 : decode cX11_common 42 = .ok (.iload_n 1, 1) := by decide +kernel
theorem dX11_common_43 : decode cX11_common 43 = .ok (.aaload, 1) := by decide +kernel
theorem dX11_common_44 : decode cX11_common 44 = .ok (.getfield 81, 3) := by decide +kernel
theorem dX11_common_47 : decode cX11_common 47 = .ok (.aload_n 0, 1) := by decide +kernel
theorem dX11_common_48 : decode cX11_common 48 = .ok (.getfield 11, 3) := by decide +kernel
theorem dX11_common_51 : decode cX11_common 51 = .ok (.iload_n 2, 1) := by decide +kernel
theorem dX11_common_52 : decode cX11_common 52 = .ok (.aaload, 1) := by decide +kernel
theorem dX11_common_53 : decode cX11_common 53 = .ok (.getfield 81, 3) := by decide +kernel
theorem dX11_common_56 : decode cX11_common 56 = .ok (.invokevirtual 233, 3) := by decide +kernel
theorem dX11_common_59 : decode cX11_common 59 = .ok (.iload_n 3, 1) := by decide +kernel
theorem dX11_common_60 : decode cX11_common 60 = .ok (.ifCond .ne 13, 3) := by decide +kernel
theorem dX11_common_63 : decode cX11_common 63 = .ok (.aload_n 0, 1) := by decide +kernel
theorem dX11_common_64 : decode cX11_common 64 = .ok (.getfield 55, 3) := by decide +kernel
theorem dX11_common_67 : decode cX11_common 67 = .ok (.getfield 237, 3) := by decide +kernel
theorem dX11_common_70 : decode cX11_common 70 = .ok (.goto 10, 3) := by decide +kernel
theorem dX11_common_73 : decode cX11_common 73 = .ok (.aload_n 0, 1) := by decide +kernel
theorem dX11_common_74 : decode cX11_common 74 = .ok (.getfield 55, 3) := by decide +kernel
theorem dX11_common_77 : decode cX11_common 77 = .ok (.getfield 230, 3) := by decide +kernel
theorem dX11_common_80 : decode cX11_common 80 = .ok (.ireturn, 1) := by decide +kernel
theorem dX11_count_0 : decode cX11_count 0 = .ok (.iload_n 1, 1) := by decide +kernel
theorem dX11_count_1 : decode cX11_count 1 = .ok (.tableswitch 166 0 9 #[55, 55, 55, 82, 90, 98, 106, 128, 150, 158], 55) := by decide +kernel
theorem dX11_count_56 : decode cX11_count 56 = .ok (.iconst 0, 1) := by decide +kernel
theorem dX11_count_57 : decode cX11_count 57 = .ok (.istore_n 2, 1) := by decide +kernel
theorem dX11_count_58 : decode cX11_count 58 = .ok (.iconst 0, 1) := by decide +kernel
theorem dX11_count_59 : decode cX11_count 59 = .ok (.istore_n 3, 1) := by decide +kernel
theorem dX11_count_60 : decode cX11_count 60 = .ok (.iload_n 3, 1) := by decide +kernel
theorem dX11_count_61 : decode cX11_count 61 = .ok (.bipush 6, 2) := by decide +kernel
theorem dX11_count_63 : decode cX11_count 63 = .ok (.if_icmp .ge 18, 3) := by decide +kernel
theorem dX11_count_66 : decode cX11_count 66 = .ok (.iload_n 2, 1) := by decide +kernel
theorem dX11_count_67 : decode cX11_count 67 = .ok (.aload_n 0, 1) := by decide +kernel
theorem dX11_count_68 : decode cX11_count 68 = .ok (.iload_n 3, 1) := by decide +kernel
theorem dX11_count_69 : decode cX11_count 69 = .ok (.iload_n 1, 1) := by decide +kernel
theorem dX11_count_70 : decode cX11_count 70 = .ok (.invokevirtual 240, 3) := by decide +kernel
theorem dX11_count_73 : decode cX11_count 73 = .ok (.iadd, 1) := by decide +kernel
theorem dX11_count_74 : decode cX11_count 74 = .ok (.istore_n 2, 1) := by decide +kernel
theorem dX11_count_75 : decode cX11_count 75 = .ok (.iinc 3 1, 3) := by decide +kernel
theorem dX11_count_78 : decode cX11_count 78 = .ok (.goto (-18), 3) := by decide +kernel
theorem dX11_count_81 : decode cX11_count 81 = .ok (.iload_n 2, 1) := by decide +kernel
theorem dX11_count_82 : decode cX11_count 82 = .ok (.ireturn, 1) := by decide +kernel
theorem dX11_count_83 : decode cX11_count 83 = .ok (.aload_n 0, 1) := by decide +kernel
theorem dX11_count_84 : decode cX11_count 84 = .ok (.getfield 25, 3) := by decide +kernel
theorem dX11_count_87 : decode cX11_count 87 = .ok (.getfield 243, 3) := by decide +kernel
theorem dX11_count_90 : decode cX11_count 90 = .ok (.ireturn, 1) := by decide +kernel
theorem dX11_count_91 : decode cX11_count 91 = .ok (.aload_n 0, 1) := by decide +kernel
theorem dX11_count_92 : decode cX11_count 92 = .ok (.getfield 25, 3) := by decide +kernel
theorem dX11_count_95 : decode cX11_count 95 = .ok (.getfield 244, 3) := by decide +kernel
theorem dX11_count_98 : decode cX11_count 98 = .ok (.ireturn, 1) := by decide +kernel
theorem dX11_count_99 : decode cX11_count 99 = .ok (.aload_n 0, 1) := by decide +kernel
theorem dX11_count_100 : decode cX11_count 100 = .ok (.getfield 25, 3) := by decide +kernel
theorem dX11_count_103 : decode cX11_count 103 = .ok (.getfield 247, 3) := by decide +kernel
theorem dX11_count_106 : decode cX11_count 106 = .ok (.ireturn, 1) := by decide +kernel
theorem dX11_count_107 : decode cX11_count 107 = .ok (.aload_n 0, 1) := by decide +kernel
theorem dX11_count_108 : decode cX11_count 108 = .ok (.getfield 124, 3) := by decide +kernel
theorem dX11_count_111 : decode cX11_count 111 = .ok (.ifnonnull 7, 3) := by decide +kernel
theorem dX11_count_114 : decode cX11_count 114 = .ok (.iconst (-1), 1) := by decide +kernel
theorem dX11_count_115 : decode cX11_count 115 = .ok (.goto 13, 3) := by decide +kernel
theorem dX11_count_118 : decode cX11_count 118 = .ok (.aload_n 0, 1) := by decide +kernel
theorem dX11_count_119 : decode cX11_count 119 = .ok (.getfield 124, 3) := by decide +kernel
theorem dX11_count_122 : decode cX11_count 122 = .ok (.getfield 128, 3) := by decide +kernel
theorem dX11_count_125 : decode cX11_count 125 = .ok (.getfield 87, 3) := by decide +kernel
theorem dX11_count_128 : decode cX11_count 128 = .ok (.ireturn, 1) := by decide +kernel
theorem dX11_count_129 : decode cX11_count 129 = .ok (.aload_n 0, 1) := by decide +kernel
theorem dX11_count_130 : decode cX11_count 130 = .ok (.getfield 124, 3) := by decide +kernel
theorem dX11_count_133 : decode cX11_count 133 = .ok (.ifnonnull 7, 3) := by decide +kernel
theorem dX11_count_136 : decode cX11_count 136 = .ok (.iconst (-1), 1) := by decide +kernel
theorem dX11_count_137 : decode cX11_count 137 = .ok (.goto 13, 3) := by decide +kernel
theorem dX11_count_140 : decode cX11_count 140 = .ok (.aload_n 0, 1) := by decide +kernel
theorem dX11_count_141 : decode cX11_count 141 = .ok (.getfield 124, 3) := by decide +kernel
theorem dX11_count_144 : decode cX11_count 144 = .ok (.getfield 250, 3) := by decide +kernel
theorem dX11_count_147 : decode cX11_count 147 = .ok (.getfield 230, 3) := by decide +kernel
theorem dX11_count_150 : decode cX11_count 150 = .ok (.ireturn, 1) := by decide +kernel
theorem dX11_count_151 : decode cX11_count 151 = .ok (.aload_n 0, 1) := by decide +kernel
theorem dX11_count_152 : decode cX11_count 152 = .ok (.getfield 18, 3) := by decide +kernel
theorem dX11_count_155 : decode cX11_count 155 = .ok (.getfield 136, 3) := by decide +kernel
theorem dX11_count_158 : decode cX11_count 158 = .ok (.ireturn, 1) := by decide +kernel
theorem dX11_count_159 : decode cX11_count 159 = .ok (.aload_n 0, 1) := by decide +kernel
theorem dX11_count_160 : decode cX11_count 160 = .ok (.getfield 34, 3) := by decide +kernel
theorem dX11_count_163 : decode cX11_count 163 = .ok (.getfield 87, 3) := by decide +kernel
theorem dX11_count_166 : decode cX11_count 166 = .ok (.ireturn, 1) := by decide +kernel
theorem dX11_count_167 : decode cX11_count 167 = .ok (.bipush (-2), 2) := by decide +kernel
theorem dX11_count_169 : decode cX11_count 169 = .ok (.ireturn, 1) := by decide +kernel
theorem dX11_digest_0 : decode cX11_digest 0 = .ok (.ldc2_w 251, 3) := by decide +kernel
theorem dX11_digest_3 : decode cX11_digest 3 = .ok (.lstore_n 1, 1) := by decide +kernel
theorem dX11_digest_4 : decode cX11_digest 4 = .ok (.iconst 0, 1) := by decide +kernel
theorem dX11_digest_5 : decode cX11_digest 5 = .ok (.istore_n 3, 1) := by decide +kernel
theorem dX11_digest_6 : decode cX11_digest 6 = .ok (.iload_n 3, 1) := by decide +kernel
theorem dX11_digest_7 : decode cX11_digest 7 = .ok (.bipush 9, 2) := by decide +kernel
theorem dX11_digest_9 : decode cX11_digest 9 = .ok (.if_icmp .gt 20, 3) := by decide +kernel
theorem dX11_digest_12 : decode cX11_digest 12 = .ok (.lload_n 1, 1) := by decide +kernel
theorem dX11_digest_13 : decode cX11_digest 13 = .ok (.aload_n 0, 1) := by decide +kernel
theorem dX11_digest_14 : decode cX11_digest 14 = .ok (.iload_n 3, 1) := by decide +kernel
theorem dX11_digest_15 : decode cX11_digest 15 = .ok (.invokevirtual 253, 3) := by decide +kernel
theorem dX11_digest_18 : decode cX11_digest 18 = .ok (.i2l, 1) := by decide +kernel
theorem dX11_digest_19 : decode cX11_digest 19 = .ok (.invokestatic 256, 3) := by decide +kernel
theorem dX11_digest_22 : decode cX11_digest 22 = .ok (.lstore_n 1, 1) := by decide +kernel
theorem dX11_digest_23 : decode cX11_digest 23 = .ok (.iinc 3 1, 3) := by decide +kernel
theorem dX11_digest_26 : decode cX11_digest 26 = .ok (.goto (-20), 3) := by decide +kernel
theorem dX11_digest_29 : decode cX11_digest 29 = .ok (.iconst 0, 1) := by decide +kernel
theorem dX11_digest_30 : decode cX11_digest 30 = .ok (.istore_n 3, 1) := by decide +kernel
theorem dX11_digest_31 : decode cX11_digest 31 = .ok (.iload_n 3, 1) := by decide +kernel
theorem dX11_digest_32 : decode cX11_digest 32 = .ok (.bipush 6, 2) := by decide +kernel
theorem dX11_digest_34 : decode cX11_digest 34 = .ok (.if_icmp .ge 16, 3) := by decide +kernel
theorem dX11_digest_37 : decode cX11_digest 37 = .ok (.aload_n 0, 1) := by decide +kernel
theorem dX11_digest_38 : decode cX11_digest 38 = .ok (.lload_n 1, 1) := by decide +kernel
theorem dX11_digest_39 : decode cX11_digest 39 = .ok (.iload_n 3, 1) := by decide +kernel
theorem dX11_digest_40 : decode cX11_digest 40 = .ok (.invokevirtual 260, 3) := by decide +kernel
theorem dX11_digest_43 : decode cX11_digest 43 = .ok (.lstore_n 1, 1) := by decide +kernel
theorem dX11_digest_44 : decode cX11_digest 44 = .ok (.iinc 3 1, 3) := by decide +kernel
theorem dX11_digest_47 : decode cX11_digest 47 = .ok (.goto (-16), 3) := by decide +kernel
theorem dX11_digest_50 : decode cX11_digest 50 = .ok (.iconst 0, 1) := by decide +kernel
theorem dX11_digest_51 : decode cX11_digest 51 = .ok (.istore_n 3, 1) := by decide +kernel
theorem dX11_digest_52 : decode cX11_digest 52 = .ok (.iload_n 3, 1) := by decide +kernel
theorem dX11_digest_53 : decode cX11_digest 53 = .ok (.bipush 6, 2) := by decide +kernel
theorem dX11_digest_55 : decode cX11_digest 55 = .ok (.if_icmp .ge 23, 3) := by decide +kernel
theorem dX11_digest_58 : decode cX11_digest 58 = .ok (.lload_n 1, 1) := by decide +kernel
theorem dX11_digest_59 : decode cX11_digest 59 = .ok (.aload_n 0, 1) := by decide +kernel
theorem dX11_digest_60 : decode cX11_digest 60 = .ok (.getfield 11, 3) := by decide +kernel
theorem dX11_digest_63 : decode cX11_digest 63 = .ok (.iload_n 3, 1) := by decide +kernel
theorem dX11_digest_64 : decode cX11_digest 64 = .ok (.aaload, 1) := by decide +kernel
theorem dX11_digest_65 : decode cX11_digest 65 = .ok (.getfield 81, 3) := by decide +kernel
theorem dX11_digest_68 : decode cX11_digest 68 = .ok (.invokestatic 264, 3) := by decide +kernel
theorem dX11_digest_71 : decode cX11_digest 71 = .ok (.lstore_n 1, 1) := by decide +kernel
theorem dX11_digest_72 : decode cX11_digest 72 = .ok (.iinc 3 1, 3) := by decide +kernel
theorem dX11_digest_75 : decode cX11_digest 75 = .ok (.goto (-23), 3) := by decide +kernel
theorem dX11_digest_78 : decode cX11_digest 78 = .ok (.aload_n 0, 1) := by decide +kernel
theorem dX11_digest_79 : decode cX11_digest 79 = .ok (.getfield 124, 3) := by decide +kernel
theorem dX11_digest_82 : decode cX11_digest 82 = .ok (.ifnull 15, 3) := by decide +kernel
theorem dX11_digest_85 : decode cX11_digest 85 = .ok (.lload_n 1, 1) := by decide +kernel
theorem dX11_digest_86 : decode cX11_digest 86 = .ok (.aload_n 0, 1) := by decide +kernel
theorem dX11_digest_87 : decode cX11_digest 87 = .ok (.getfield 124, 3) := by decide +kernel
theorem dX11_digest_90 : decode cX11_digest 90 = .ok (.getfield 128, 3) := by decide +kernel
theorem dX11_digest_93 : decode cX11_digest 93 = .ok (.invokestatic 264, 3) := by decide +kernel
theorem dX11_digest_96 : decode cX11_digest 96 = .ok (.lstore_n 1, 1) := by decide +kernel
theorem dX11_digest_97 : decode cX11_digest 97 = .ok (.lload_n 1, 1) := by decide +kernel
theorem dX11_digest_98 : decode cX11_digest 98 = .ok (.aload_n 0, 1) := by decide +kernel
theorem dX11_digest_99 : decode cX11_digest 99 = .ok (.getfield 34, 3) := by decide +kernel
theorem dX11_digest_102 : decode cX11_digest 102 = .ok (.invokestatic 264, 3) := by decide +kernel
theorem dX11_digest_105 : decode cX11_digest 105 = .ok (.lreturn, 1) := by decide +kernel
theorem dX11_mix_0 : decode cX11_mix 0 = .ok (.ldc2_w 268, 3) := by decide +kernel
theorem dX11_mix_3 : decode cX11_mix 3 = .ok (.lload_n 0, 1) := by decide +kernel
theorem dX11_mix_4 : decode cX11_mix 4 = .ok (.lmul, 1) := by decide +kernel
theorem dX11_mix_5 : decode cX11_mix 5 = .ok (.lload_n 2, 1) := by decide +kernel
theorem dX11_mix_6 : decode cX11_mix 6 = .ok (.ladd, 1) := by decide +kernel
theorem dX11_mix_7 : decode cX11_mix 7 = .ok (.lreturn, 1) := by decide +kernel
theorem dX11_mixRow_0 : decode cX11_mixRow 0 = .ok (.lload_n 0, 1) := by decide +kernel
theorem dX11_mixRow_1 : decode cX11_mixRow 1 = .ok (.lstore_n 3, 1) := by decide +kernel
theorem dX11_mixRow_2 : decode cX11_mixRow 2 = .ok (.iconst 0, 1) := by decide +kernel
theorem dX11_mixRow_3 : decode cX11_mixRow 3 = .ok (.istore 5, 2) := by decide +kernel
theorem dX11_mixRow_5 : decode cX11_mixRow 5 = .ok (.iload 5, 2) := by decide +kernel
theorem dX11_mixRow_7 : decode cX11_mixRow 7 = .ok (.aload_n 2, 1) := by decide +kernel
theorem dX11_mixRow_8 : decode cX11_mixRow 8 = .ok (.getfield 87, 3) := by decide +kernel
theorem dX11_mixRow_11 : decode cX11_mixRow 11 = .ok (.if_icmp .ge 21, 3) := by decide +kernel
theorem dX11_mixRow_14 : decode cX11_mixRow 14 = .ok (.lload_n 3, 1) := by decide +kernel
theorem dX11_mixRow_15 : decode cX11_mixRow 15 = .ok (.aload_n 2, 1) := by decide +kernel
theorem dX11_mixRow_16 : decode cX11_mixRow 16 = .ok (.iload 5, 2) := by decide +kernel
theorem dX11_mixRow_18 : decode cX11_mixRow 18 = .ok (.invokevirtual 150, 3) := by decide +kernel
theorem dX11_mixRow_21 : decode cX11_mixRow 21 = .ok (.i2l, 1) := by decide +kernel
theorem dX11_mixRow_22 : decode cX11_mixRow 22 = .ok (.invokestatic 256, 3) := by decide +kernel
theorem dX11_mixRow_25 : decode cX11_mixRow 25 = .ok (.lstore_n 3, 1) := by decide +kernel
theorem dX11_mixRow_26 : decode cX11_mixRow 26 = .ok (.iinc 5 1, 3) := by decide +kernel
theorem dX11_mixRow_29 : decode cX11_mixRow 29 = .ok (.goto (-24), 3) := by decide +kernel
theorem dX11_mixRow_32 : decode cX11_mixRow 32 = .ok (.lload_n 3, 1) := by decide +kernel
theorem dX11_mixRow_33 : decode cX11_mixRow 33 = .ok (.lreturn, 1) := by decide +kernel
theorem dX11_mixBlocks_0 : decode cX11_mixBlocks 0 = .ok (.lload_n 1, 1) := by decide +kernel
theorem dX11_mixBlocks_1 : decode cX11_mixBlocks 1 = .ok (.lstore 4, 2) := by decide +kernel
theorem dX11_mixBlocks_3 : decode cX11_mixBlocks 3 = .ok (.iconst 0, 1) := by decide +kernel
theorem dX11_mixBlocks_4 : decode cX11_mixBlocks 4 = .ok (.istore 6, 2) := by decide +kernel
theorem dX11_mixBlocks_6 : decode cX11_mixBlocks 6 = .ok (.iload 6, 2) := by decide +kernel
theorem dX11_mixBlocks_8 : decode cX11_mixBlocks 8 = .ok (.iconst 5, 1) := by decide +kernel
theorem dX11_mixBlocks_9 : decode cX11_mixBlocks 9 = .ok (.if_icmp .gt 24, 3) := by decide +kernel
theorem dX11_mixBlocks_12 : decode cX11_mixBlocks 12 = .ok (.lload 4, 2) := by decide +kernel
theorem dX11_mixBlocks_14 : decode cX11_mixBlocks 14 = .ok (.aload_n 0, 1) := by decide +kernel
theorem dX11_mixBlocks_15 : decode cX11_mixBlocks 15 = .ok (.iload_n 3, 1) := by decide +kernel
theorem dX11_mixBlocks_16 : decode cX11_mixBlocks 16 = .ok (.iload 6, 2) := by decide +kernel
theorem dX11_mixBlocks_18 : decode cX11_mixBlocks 18 = .ok (.invokevirtual 240, 3) := by decide +kernel
theorem dX11_mixBlocks_21 : decode cX11_mixBlocks 21 = .ok (.i2l, 1) := by decide +kernel
theorem dX11_mixBlocks_22 : decode cX11_mixBlocks 22 = .ok (.invokestatic 256, 3) := by decide +kernel
theorem dX11_mixBlocks_25 : decode cX11_mixBlocks 25 = .ok (.lstore 4, 2) := by decide +kernel
theorem dX11_mixBlocks_27 : decode cX11_mixBlocks 27 = .ok (.iinc 6 1, 3) := by decide +kernel
theorem dX11_mixBlocks_30 : decode cX11_mixBlocks 30 = .ok (.goto (-24), 3) := by decide +kernel
theorem dX11_mixBlocks_33 : decode cX11_mixBlocks 33 = .ok (.iconst 0, 1) := by decide +kernel
theorem dX11_mixBlocks_34 : decode cX11_mixBlocks 34 = .ok (.istore 6, 2) := by decide +kernel
theorem dX11_mixBlocks_36 : decode cX11_mixBlocks 36 = .ok (.iload 6, 2) := by decide +kernel
theorem dX11_mixBlocks_38 : decode cX11_mixBlocks 38 = .ok (.aload_n 0, 1) := by decide +kernel
theorem dX11_mixBlocks_39 : decode cX11_mixBlocks 39 = .ok (.getfield 11, 3) := by decide +kernel
theorem dX11_mixBlocks_42 : decode cX11_mixBlocks 42 = .ok (.iload_n 3, 1) := by decide +kernel
theorem dX11_mixBlocks_43 : decode cX11_mixBlocks 43 = .ok (.aaload, 1) := by decide +kernel
theorem dX11_mixBlocks_44 : decode cX11_mixBlocks 44 = .ok (.getfield 147, 3) := by decide +kernel
theorem dX11_mixBlocks_47 : decode cX11_mixBlocks 47 = .ok (.if_icmp .ge 43, 3) := by decide +kernel
theorem dX11_mixBlocks_50 : decode cX11_mixBlocks 50 = .ok (.lload 4, 2) := by decide +kernel
theorem dX11_mixBlocks_52 : decode cX11_mixBlocks 52 = .ok (.aload_n 0, 1) := by decide +kernel
theorem dX11_mixBlocks_53 : decode cX11_mixBlocks 53 = .ok (.aload_n 0, 1) := by decide +kernel
theorem dX11_mixBlocks_54 : decode cX11_mixBlocks 54 = .ok (.getfield 11, 3) := by decide +kernel
theorem dX11_mixBlocks_57 : decode cX11_mixBlocks 57 = .ok (.iload_n 3, 1) := by decide +kernel
theorem dX11_mixBlocks_58 : decode cX11_mixBlocks 58 = .ok (.aaload, 1) := by decide +kernel
theorem dX11_mixBlocks_59 : decode cX11_mixBlocks 59 = .ok (.iload 6, 2) := by decide +kernel
theorem dX11_mixBlocks_61 : decode cX11_mixBlocks 61 = .ok (.invokevirtual 157, 3) := by decide +kernel
theorem dX11_mixBlocks_64 : decode cX11_mixBlocks 64 = .ok (.invokestatic 270, 3) := by decide +kernel
theorem dX11_mixBlocks_67 : decode cX11_mixBlocks 67 = .ok (.lstore 4, 2) := by decide +kernel
theorem dX11_mixBlocks_69 : decode cX11_mixBlocks 69 = .ok (.lload 4, 2) := by decide +kernel
theorem dX11_mixBlocks_71 : decode cX11_mixBlocks 71 = .ok (.aload_n 0, 1) := by decide +kernel
theorem dX11_mixBlocks_72 : decode cX11_mixBlocks 72 = .ok (.iload_n 3, 1) := by decide +kernel
theorem dX11_mixBlocks_73 : decode cX11_mixBlocks 73 = .ok (.iload 6, 2) := by decide +kernel
theorem dX11_mixBlocks_75 : decode cX11_mixBlocks 75 = .ok (.invokevirtual 274, 3) := by decide +kernel
theorem dX11_mixBlocks_78 : decode cX11_mixBlocks 78 = .ok (.i2l, 1) := by decide +kernel
theorem dX11_mixBlocks_79 : decode cX11_mixBlocks 79 = .ok (.invokestatic 256, 3) := by decide +kernel
theorem dX11_mixBlocks_82 : decode cX11_mixBlocks 82 = .ok (.lstore 4, 2) := by decide +kernel
theorem dX11_mixBlocks_84 : decode cX11_mixBlocks 84 = .ok (.iinc 6 1, 3) := by decide +kernel
theorem dX11_mixBlocks_87 : decode cX11_mixBlocks 87 = .ok (.goto (-51), 3) := by decide +kernel
theorem dX11_mixBlocks_90 : decode cX11_mixBlocks 90 = .ok (.lload 4, 2) := by decide +kernel
theorem dX11_mixBlocks_92 : decode cX11_mixBlocks 92 = .ok (.lreturn, 1) := by decide +kernel
theorem dX11_mixBlock_0 : decode cX11_mixBlock 0 = .ok (.lload_n 0, 1) := by decide +kernel
theorem dX11_mixBlock_1 : decode cX11_mixBlock 1 = .ok (.lstore_n 3, 1) := by decide +kernel
theorem dX11_mixBlock_2 : decode cX11_mixBlock 2 = .ok (.iconst 0, 1) := by decide +kernel
theorem dX11_mixBlock_3 : decode cX11_mixBlock 3 = .ok (.istore 5, 2) := by decide +kernel
theorem dX11_mixBlock_5 : decode cX11_mixBlock 5 = .ok (.iload 5, 2) := by decide +kernel
theorem dX11_mixBlock_7 : decode cX11_mixBlock 7 = .ok (.bipush 6, 2) := by decide +kernel
theorem dX11_mixBlock_9 : decode cX11_mixBlock 9 = .ok (.if_icmp .gt 21, 3) := by decide +kernel
theorem dX11_mixBlock_12 : decode cX11_mixBlock 12 = .ok (.lload_n 3, 1) := by decide +kernel
theorem dX11_mixBlock_13 : decode cX11_mixBlock 13 = .ok (.aload_n 2, 1) := by decide +kernel
theorem dX11_mixBlock_14 : decode cX11_mixBlock 14 = .ok (.iload 5, 2) := by decide +kernel
theorem dX11_mixBlock_16 : decode cX11_mixBlock 16 = .ok (.invokevirtual 161, 3) := by decide +kernel
theorem dX11_mixBlock_19 : decode cX11_mixBlock 19 = .ok (.i2l, 1) := by decide +kernel
theorem dX11_mixBlock_20 : decode cX11_mixBlock 20 = .ok (.invokestatic 256, 3) := by decide +kernel
theorem dX11_mixBlock_23 : decode cX11_mixBlock 23 = .ok (.lstore_n 3, 1) := by decide +kernel
theorem dX11_mixBlock_24 : decode cX11_mixBlock 24 = .ok (.iinc 5 1, 3) := by decide +kernel
theorem dX11_mixBlock_27 : decode cX11_mixBlock 27 = .ok (.goto (-22), 3) := by decide +kernel
theorem dX11_mixBlock_30 : decode cX11_mixBlock 30 = .ok (.iconst 0, 1) := by decide +kernel
theorem dX11_mixBlock_31 : decode cX11_mixBlock 31 = .ok (.istore 5, 2) := by decide +kernel
theorem dX11_mixBlock_33 : decode cX11_mixBlock 33 = .ok (.iload 5, 2) := by decide +kernel
theorem dX11_mixBlock_35 : decode cX11_mixBlock 35 = .ok (.aload_n 2, 1) := by decide +kernel
theorem dX11_mixBlock_36 : decode cX11_mixBlock 36 = .ok (.invokevirtual 166, 3) := by decide +kernel
theorem dX11_mixBlock_39 : decode cX11_mixBlock 39 = .ok (.if_icmp .ge 20, 3) := by decide +kernel
theorem dX11_mixBlock_42 : decode cX11_mixBlock 42 = .ok (.lload_n 3, 1) := by decide +kernel
theorem dX11_mixBlock_43 : decode cX11_mixBlock 43 = .ok (.aload_n 2, 1) := by decide +kernel
theorem dX11_mixBlock_44 : decode cX11_mixBlock 44 = .ok (.iload 5, 2) := by decide +kernel
theorem dX11_mixBlock_46 : decode cX11_mixBlock 46 = .ok (.invokevirtual 170, 3) := by decide +kernel
theorem dX11_mixBlock_49 : decode cX11_mixBlock 49 = .ok (.invokestatic 256, 3) := by decide +kernel
theorem dX11_mixBlock_52 : decode cX11_mixBlock 52 = .ok (.lstore_n 3, 1) := by decide +kernel
theorem dX11_mixBlock_53 : decode cX11_mixBlock 53 = .ok (.iinc 5 1, 3) := by decide +kernel
theorem dX11_mixBlock_56 : decode cX11_mixBlock 56 = .ok (.goto (-23), 3) := by decide +kernel
theorem dX11_mixBlock_59 : decode cX11_mixBlock 59 = .ok (.iconst 1, 1) := by decide +kernel
theorem dX11_mixBlock_60 : decode cX11_mixBlock 60 = .ok (.istore 5, 2) := by decide +kernel
theorem dX11_mixBlock_62 : decode cX11_mixBlock 62 = .ok (.iload 5, 2) := by decide +kernel
theorem dX11_mixBlock_64 : decode cX11_mixBlock 64 = .ok (.aload_n 2, 1) := by decide +kernel
theorem dX11_mixBlock_65 : decode cX11_mixBlock 65 = .ok (.getfield 174, 3) := by decide +kernel
theorem dX11_mixBlock_68 : decode cX11_mixBlock 68 = .ok (.if_icmp .ge 36, 3) := by decide +kernel
theorem dX11_mixBlock_71 : decode cX11_mixBlock 71 = .ok (.aload_n 2, 1) := by decide +kernel
theorem dX11_mixBlock_72 : decode cX11_mixBlock 72 = .ok (.iload 5, 2) := by decide +kernel
theorem dX11_mixBlock_74 : decode cX11_mixBlock 74 = .ok (.invokevirtual 177, 3) := by decide +kernel
theorem dX11_mixBlock_77 : decode cX11_mixBlock 77 = .ok (.istore 6, 2) := by decide +kernel
theorem dX11_mixBlock_79 : decode cX11_mixBlock 79 = .ok (.iload 6, 2) := by decide +kernel
theorem dX11_mixBlock_81 : decode cX11_mixBlock 81 = .ok (.ifCond .le 17, 3) := by decide +kernel
theorem dX11_mixBlock_84 : decode cX11_mixBlock 84 = .ok (.lload_n 3, 1) := by decide +kernel
theorem dX11_mixBlock_85 : decode cX11_mixBlock 85 = .ok (.iload 5, 2) := by decide +kernel
theorem dX11_mixBlock_87 : decode cX11_mixBlock 87 = .ok (.i2l, 1) := by decide +kernel
theorem dX11_mixBlock_88 : decode cX11_mixBlock 88 = .ok (.invokestatic 256, 3) := by decide +kernel
theorem dX11_mixBlock_91 : decode cX11_mixBlock 91 = .ok (.iload 6, 2) := by decide +kernel
theorem dX11_mixBlock_93 : decode cX11_mixBlock 93 = .ok (.i2l, 1) := by decide +kernel
theorem dX11_mixBlock_94 : decode cX11_mixBlock 94 = .ok (.invokestatic 256, 3) := by decide +kernel
theorem dX11_mixBlock_97 : decode cX11_mixBlock 97 = .ok (.lstore_n 3, 1) := by decide +kernel
theorem dX11_mixBlock_98 : decode cX11_mixBlock 98 = .ok (.iinc 5 1, 3) := by decide +kernel
theorem dX11_mixBlock_101 : decode cX11_mixBlock 101 = .ok (.goto (-39), 3) := by decide +kernel
theorem dX11_mixBlock_104 : decode cX11_mixBlock 104 = .ok (.lload_n 3, 1) := by decide +kernel
theorem dX11_mixBlock_105 : decode cX11_mixBlock 105 = .ok (.lreturn, 1) := by decide +kernel
theorem dX11_isList_0 : decode cX11_isList 0 = .ok (.iload_n 0, 1) := by decide +kernel
theorem dX11_isList_1 : decode cX11_isList 1 = .ok (.ifCond .lt 13, 3) := by decide +kernel
theorem dX11_isList_4 : decode cX11_isList 4 = .ok (.iload_n 0, 1) := by decide +kernel
theorem dX11_isList_5 : decode cX11_isList 5 = .ok (.bipush 6, 2) := by decide +kernel
theorem dX11_isList_7 : decode cX11_isList 7 = .ok (.if_icmp .ge 7, 3) := by decide +kernel
theorem dX11_isList_10 : decode cX11_isList 10 = .ok (.iconst 1, 1) := by decide +kernel
theorem dX11_isList_11 : decode cX11_isList 11 = .ok (.goto 4, 3) := by decide +kernel
theorem dX11_isList_14 : decode cX11_isList 14 = .ok (.iconst 0, 1) := by decide +kernel
theorem dX11_isList_15 : decode cX11_isList 15 = .ok (.ireturn, 1) := by decide +kernel
theorem dX11_isValue_0 : decode cX11_isValue 0 = .ok (.iload_n 0, 1) := by decide +kernel
theorem dX11_isValue_1 : decode cX11_isValue 1 = .ok (.ifCond .lt 14, 3) := by decide +kernel
theorem dX11_isValue_4 : decode cX11_isValue 4 = .ok (.iload_n 0, 1) := by decide +kernel
theorem dX11_isValue_5 : decode cX11_isValue 5 = .ok (.ldc_w 277, 3) := by decide +kernel
theorem dX11_isValue_8 : decode cX11_isValue 8 = .ok (.if_icmp .gt 7, 3) := by decide +kernel
theorem dX11_isValue_11 : decode cX11_isValue 11 = .ok (.iconst 1, 1) := by decide +kernel
theorem dX11_isValue_12 : decode cX11_isValue 12 = .ok (.goto 4, 3) := by decide +kernel
theorem dX11_isValue_15 : decode cX11_isValue 15 = .ok (.iconst 0, 1) := by decide +kernel
theorem dX11_isValue_16 : decode cX11_isValue 16 = .ok (.ireturn, 1) := by decide +kernel
theorem dX11_isPacking_0 : decode cX11_isPacking 0 = .ok (.iload_n 0, 1) := by decide +kernel
theorem dX11_isPacking_1 : decode cX11_isPacking 1 = .ok (.ifCond .lt 13, 3) := by decide +kernel
theorem dX11_isPacking_4 : decode cX11_isPacking 4 = .ok (.iload_n 0, 1) := by decide +kernel
theorem dX11_isPacking_5 : decode cX11_isPacking 5 = .ok (.bipush 64, 2) := by decide +kernel
theorem dX11_isPacking_7 : decode cX11_isPacking 7 = .ok (.if_icmp .gt 7, 3) := by decide +kernel
theorem dX11_isPacking_10 : decode cX11_isPacking 10 = .ok (.iconst 1, 1) := by decide +kernel
theorem dX11_isPacking_11 : decode cX11_isPacking 11 = .ok (.goto 4, 3) := by decide +kernel
theorem dX11_isPacking_14 : decode cX11_isPacking 14 = .ok (.iconst 0, 1) := by decide +kernel
theorem dX11_isPacking_15 : decode cX11_isPacking 15 = .ok (.ireturn, 1) := by decide +kernel
theorem dX11_isBlock_0 : decode cX11_isBlock 0 = .ok (.iload_n 1, 1) := by decide +kernel
theorem dX11_isBlock_1 : decode cX11_isBlock 1 = .ok (.invokestatic 74, 3) := by decide +kernel
theorem dX11_isBlock_4 : decode cX11_isBlock 4 = .ok (.ifCond .eq 24, 3) := by decide +kernel
theorem dX11_isBlock_7 : decode cX11_isBlock 7 = .ok (.iload_n 2, 1) := by decide +kernel
theorem dX11_isBlock_8 : decode cX11_isBlock 8 = .ok (.ifCond .lt 20, 3) := by decide +kernel
theorem dX11_isBlock_11 : decode cX11_isBlock 11 = .ok (.iload_n 2, 1) := by decide +kernel
theorem dX11_isBlock_12 : decode cX11_isBlock 12 = .ok (.aload_n 0, 1) := by decide +kernel
theorem dX11_isBlock_13 : decode cX11_isBlock 13 = .ok (.getfield 11, 3) := by decide +kernel
theorem dX11_isBlock_16 : decode cX11_isBlock 16 = .ok (.iload_n 1, 1) := by decide +kernel
theorem dX11_isBlock_17 : decode cX11_isBlock 17 = .ok (.aaload, 1) := by decide +kernel
theorem dX11_isBlock_18 : decode cX11_isBlock 18 = .ok (.getfield 147, 3) := by decide +kernel
theorem dX11_isBlock_21 : decode cX11_isBlock 21 = .ok (.if_icmp .ge 7, 3) := by decide +kernel
theorem dX11_isBlock_24 : decode cX11_isBlock 24 = .ok (.iconst 1, 1) := by decide +kernel
theorem dX11_isBlock_25 : decode cX11_isBlock 25 = .ok (.goto 4, 3) := by decide +kernel
theorem dX11_isBlock_28 : decode cX11_isBlock 28 = .ok (.iconst 0, 1) := by decide +kernel
theorem dX11_isBlock_29 : decode cX11_isBlock 29 = .ok (.ireturn, 1) := by decide +kernel
theorem dX11_bitsOf_0 : decode cX11_bitsOf 0 = .ok (.iconst 0, 1) := by decide +kernel
theorem dX11_bitsOf_1 : decode cX11_bitsOf 1 = .ok (.istore_n 1, 1) := by decide +kernel
theorem dX11_bitsOf_2 : decode cX11_bitsOf 2 = .ok (.iload_n 1, 1) := by decide +kernel
theorem dX11_bitsOf_3 : decode cX11_bitsOf 3 = .ok (.bipush 20, 2) := by decide +kernel
theorem dX11_bitsOf_5 : decode cX11_bitsOf 5 = .ok (.if_icmp .ge 15, 3) := by decide +kernel
theorem dX11_bitsOf_8 : decode cX11_bitsOf 8 = .ok (.iload_n 0, 1) := by decide +kernel
theorem dX11_bitsOf_9 : decode cX11_bitsOf 9 = .ok (.iload_n 1, 1) := by decide +kernel
theorem dX11_bitsOf_10 : decode cX11_bitsOf 10 = .ok (.ishr, 1) := by decide +kernel
theorem dX11_bitsOf_11 : decode cX11_bitsOf 11 = .ok (.ifCond .le 9, 3) := by decide +kernel
theorem dX11_bitsOf_14 : decode cX11_bitsOf 14 = .ok (.iinc 1 1, 3) := by decide +kernel
theorem dX11_bitsOf_17 : decode cX11_bitsOf 17 = .ok (.goto (-15), 3) := by decide +kernel
theorem dX11_bitsOf_20 : decode cX11_bitsOf 20 = .ok (.iload_n 1, 1) := by decide +kernel
theorem dX11_bitsOf_21 : decode cX11_bitsOf 21 = .ok (.ireturn, 1) := by decide +kernel
theorem dX11_beginChange_0 : decode cX11_beginChange 0 = .ok (.aload_n 0, 1) := by decide +kernel
theorem dX11_beginChange_1 : decode cX11_beginChange 1 = .ok (.getfield 18, 3) := by decide +kernel
theorem dX11_beginChange_4 : decode cX11_beginChange 4 = .ok (.iload_n 1, 1) := by decide +kernel
theorem dX11_beginChange_5 : decode cX11_beginChange 5 = .ok (.aload_n 0, 1) := by decide +kernel
theorem dX11_beginChange_6 : decode cX11_beginChange 6 = .ok (.getfield 11, 3) := by decide +kernel
theorem dX11_beginChange_9 : decode cX11_beginChange 9 = .ok (.iload_n 1, 1) := by decide +kernel
theorem dX11_beginChange_10 : decode cX11_beginChange 10 = .ok (.aaload, 1) := by decide +kernel
theorem dX11_beginChange_11 : decode cX11_beginChange 11 = .ok (.invokevirtual 278, 3) := by decide +kernel
theorem dX11_beginChange_14 : decode cX11_beginChange 14 = .ok (.aload_n 0, 1) := by decide +kernel
theorem dX11_beginChange_15 : decode cX11_beginChange 15 = .ok (.getfield 25, 3) := by decide +kernel
theorem dX11_beginChange_18 : decode cX11_beginChange 18 = .ok (.iload_n 1, 1) := by decide +kernel
theorem dX11_beginChange_19 : decode cX11_beginChange 19 = .ok (.invokevirtual 282, 3) := by decide +kernel
theorem dX11_beginChange_22 : decode cX11_beginChange 22 = .ok (.return_, 1) := by decide +kernel
theorem dX11_replaceNumbers_0 : decode cX11_replaceNumbers 0 = .ok (.aload_n 0, 1) := by decide +kernel
theorem dX11_replaceNumbers_1 : decode cX11_replaceNumbers 1 = .ok (.iload_n 1, 1) := by decide +kernel
theorem dX11_replaceNumbers_2 : decode cX11_replaceNumbers 2 = .ok (.invokevirtual 91, 3) := by decide +kernel
theorem dX11_replaceNumbers_5 : decode cX11_replaceNumbers 5 = .ok (.aload_n 0, 1) := by decide +kernel
theorem dX11_replaceNumbers_6 : decode cX11_replaceNumbers 6 = .ok (.getfield 11, 3) := by decide +kernel
theorem dX11_replaceNumbers_9 : decode cX11_replaceNumbers 9 = .ok (.iload_n 1, 1) := by decide +kernel
theorem dX11_replaceNumbers_10 : decode cX11_replaceNumbers 10 = .ok (.aaload, 1) := by decide +kernel
theorem dX11_replaceNumbers_11 : decode cX11_replaceNumbers 11 = .ok (.getfield 81, 3) := by decide +kernel
theorem dX11_replaceNumbers_14 : decode cX11_replaceNumbers 14 = .ok (.aload_n 2, 1) := by decide +kernel
theorem dX11_replaceNumbers_15 : decode cX11_replaceNumbers 15 = .ok (.invokevirtual 285, 3) := by decide +kernel
theorem dX11_replaceNumbers_18 : decode cX11_replaceNumbers 18 = .ok (.aload_n 0, 1) := by decide +kernel
theorem dX11_replaceNumbers_19 : decode cX11_replaceNumbers 19 = .ok (.getfield 48, 3) := by decide +kernel
theorem dX11_replaceNumbers_22 : decode cX11_replaceNumbers 22 = .ok (.aload_n 0, 1) := by decide +kernel
theorem dX11_replaceNumbers_23 : decode cX11_replaceNumbers 23 = .ok (.getfield 11, 3) := by decide +kernel
theorem dX11_replaceNumbers_26 : decode cX11_replaceNumbers 26 = .ok (.iload_n 1, 1) := by decide +kernel
theorem dX11_replaceNumbers_27 : decode cX11_replaceNumbers 27 = .ok (.aaload, 1) := by decide +kernel
theorem dX11_replaceNumbers_28 : decode cX11_replaceNumbers 28 = .ok (.invokevirtual 104, 3) := by decide +kernel
theorem dX11_replaceNumbers_31 : decode cX11_replaceNumbers 31 = .ok (.return_, 1) := by decide +kernel
theorem dX11_measured_0 : decode cX11_measured 0 = .ok (.aload_n 0, 1) := by decide +kernel
theorem dX11_measured_1 : decode cX11_measured 1 = .ok (.getfield 41, 3) := by decide +kernel
theorem dX11_measured_4 : decode cX11_measured 4 = .ok (.aload_n 1, 1) := by decide +kernel
theorem dX11_measured_5 : decode cX11_measured 5 = .ok (.getfield 81, 3) := by decide +kernel
theorem dX11_measured_8 : decode cX11_measured 8 = .ok (.aload_n 1, 1) := by decide +kernel
theorem dX11_measured_9 : decode cX11_measured 9 = .ok (.iload_n 2, 1) := by decide +kernel
theorem dX11_measured_10 : decode cX11_measured 10 = .ok (.invokevirtual 289, 3) := by decide +kernel
theorem dX11_measured_13 : decode cX11_measured 13 = .ok (.aload_n 1, 1) := by decide +kernel
theorem dX11_measured_14 : decode cX11_measured 14 = .ok (.iload_n 2, 1) := by decide +kernel
theorem dX11_measured_15 : decode cX11_measured 15 = .ok (.iconst 1, 1) := by decide +kernel
theorem dX11_measured_16 : decode cX11_measured 16 = .ok (.iadd, 1) := by decide +kernel
theorem dX11_measured_17 : decode cX11_measured 17 = .ok (.invokevirtual 289, 3) := by decide +kernel
theorem dX11_measured_20 : decode cX11_measured 20 = .ok (.invokevirtual 195, 3) := by decide +kernel
theorem dX11_measured_23 : decode cX11_measured 23 = .ok (.aload_n 0, 1) := by decide +kernel
theorem dX11_measured_24 : decode cX11_measured 24 = .ok (.getfield 41, 3) := by decide +kernel
theorem dX11_measured_27 : decode cX11_measured 27 = .ok (.areturn, 1) := by decide +kernel
theorem dX11_sumOfBlocks_0 : decode cX11_sumOfBlocks 0 = .ok (.iconst 0, 1) := by decide +kernel
theorem dX11_sumOfBlocks_1 : decode cX11_sumOfBlocks 1 = .ok (.istore_n 3, 1) := by decide +kernel
theorem dX11_sumOfBlocks_2 : decode cX11_sumOfBlocks 2 = .ok (.iconst 0, 1) := by decide +kernel
theorem dX11_sumOfBlocks_3 : decode cX11_sumOfBlocks 3 = .ok (.istore 4, 2) := by decide +kernel
theorem dX11_sumOfBlocks_5 : decode cX11_sumOfBlocks 5 = .ok (.iload 4, 2) := by decide +kernel
theorem dX11_sumOfBlocks_7 : decode cX11_sumOfBlocks 7 = .ok (.aload_n 1, 1) := by decide +kernel
theorem dX11_sumOfBlocks_8 : decode cX11_sumOfBlocks 8 = .ok (.getfield 147, 3) := by decide +kernel
theorem dX11_sumOfBlocks_11 : decode cX11_sumOfBlocks 11 = .ok (.if_icmp .ge 23, 3) := by decide +kernel
theorem dX11_sumOfBlocks_14 : decode cX11_sumOfBlocks 14 = .ok (.iload_n 3, 1) := by decide +kernel
theorem dX11_sumOfBlocks_15 : decode cX11_sumOfBlocks 15 = .ok (.aload_n 0, 1) := by decide +kernel
theorem dX11_sumOfBlocks_16 : decode cX11_sumOfBlocks 16 = .ok (.aload_n 1, 1) := by decide +kernel
theorem dX11_sumOfBlocks_17 : decode cX11_sumOfBlocks 17 = .ok (.iload 4, 2) := by decide +kernel
theorem dX11_sumOfBlocks_19 : decode cX11_sumOfBlocks 19 = .ok (.invokevirtual 157, 3) := by decide +kernel
theorem dX11_sumOfBlocks_22 : decode cX11_sumOfBlocks 22 = .ok (.iload_n 2, 1) := by decide +kernel
theorem dX11_sumOfBlocks_23 : decode cX11_sumOfBlocks 23 = .ok (.invokevirtual 161, 3) := by decide +kernel
theorem dX11_sumOfBlocks_26 : decode cX11_sumOfBlocks 26 = .ok (.iadd, 1) := by decide +kernel
theorem dX11_sumOfBlocks_27 : decode cX11_sumOfBlocks 27 = .ok (.istore_n 3, 1) := by decide +kernel
theorem dX11_sumOfBlocks_28 : decode cX11_sumOfBlocks 28 = .ok (.iinc 4 1, 3) := by decide +kernel
theorem dX11_sumOfBlocks_31 : decode cX11_sumOfBlocks 31 = .ok (.goto (-26), 3) := by decide +kernel
theorem dX11_sumOfBlocks_34 : decode cX11_sumOfBlocks 34 = .ok (.iload_n 3, 1) := by decide +kernel
theorem dX11_sumOfBlocks_35 : decode cX11_sumOfBlocks 35 = .ok (.ireturn, 1) := by decide +kernel
theorem dX12_init_0 : decode cX12_init 0 = .ok (.aload_n 0, 1) := by decide +kernel
theorem dX12_init_1 : decode cX12_init 1 = .ok (.invokespecial 1, 3) := by decide +kernel
theorem dX12_init_4 : decode cX12_init 4 = .ok (.aload_n 0, 1) := by decide +kernel
theorem dX12_init_5 : decode cX12_init 5 = .ok (.sipush 2412, 3) := by decide +kernel
theorem dX12_init_8 : decode cX12_init 8 = .ok (.newarray .int, 2) := by decide +kernel
theorem dX12_init_10 : decode cX12_init 10 = .ok (.putfield 7, 3) := by decide +kernel
theorem dX12_init_13 : decode cX12_init 13 = .ok (.aload_n 0, 1) := by decide +kernel
theorem dX12_init_14 : decode cX12_init 14 = .ok (.sipush 19296, 3) := by decide +kernel
theorem dX12_init_17 : decode cX12_init 17 = .ok (.newarray .int, 2) := by decide +kernel
theorem dX12_init_19 : decode cX12_init 19 = .ok (.putfield 13, 3) := by decide +kernel
theorem dX12_init_22 : decode cX12_init 22 = .ok (.aload_n 0, 1) := by decide +kernel
theorem dX12_init_23 : decode cX12_init 23 = .ok (.iconst 4, 1) := by decide +kernel
theorem dX12_init_24 : decode cX12_init 24 = .ok (.newarray .int, 2) := by decide +kernel
theorem dX12_init_26 : decode cX12_init 26 = .ok (.putfield 16, 3) := by decide +kernel
theorem dX12_init_29 : decode cX12_init 29 = .ok (.aload_n 0, 1) := by decide +kernel
theorem dX12_init_30 : decode cX12_init 30 = .ok (.iconst 4, 1) := by decide +kernel
theorem dX12_init_31 : decode cX12_init 31 = .ok (.newarray .int, 2) := by decide +kernel
theorem dX12_init_33 : decode cX12_init 33 = .ok (.putfield 19, 3) := by decide +kernel
theorem dX12_init_36 : decode cX12_init 36 = .ok (.aload_n 0, 1) := by decide +kernel
theorem dX12_init_37 : decode cX12_init 37 = .ok (.sipush 1200, 3) := by decide +kernel
theorem dX12_init_40 : decode cX12_init 40 = .ok (.newarray .int, 2) := by decide +kernel
theorem dX12_init_42 : decode cX12_init 42 = .ok (.putfield 22, 3) := by decide +kernel
theorem dX12_init_45 : decode cX12_init 45 = .ok (.aload_n 0, 1) := by decide +kernel
theorem dX12_init_46 : decode cX12_init 46 = .ok (.iconst (-1), 1) := by decide +kernel
theorem dX12_init_47 : decode cX12_init 47 = .ok (.putfield 25, 3) := by decide +kernel
theorem dX12_init_50 : decode cX12_init 50 = .ok (.aload_n 0, 1) := by decide +kernel
theorem dX12_init_51 : decode cX12_init 51 = .ok (.iconst (-1), 1) := by decide +kernel
theorem dX12_init_52 : decode cX12_init 52 = .ok (.putfield 29, 3) := by decide +kernel
theorem dX12_init_55 : decode cX12_init 55 = .ok (.aload_n 0, 1) := by decide +kernel
theorem dX12_init_56 : decode cX12_init 56 = .ok (.bipush 21, 2) := by decide +kernel
theorem dX12_init_58 : decode cX12_init 58 = .ok (.newarray .int, 2) := by decide +kernel
theorem dX12_init_60 : decode cX12_init 60 = .ok (.putfield 32, 3) := by decide +kernel
theorem dX12_init_63 : decode cX12_init 63 = .ok (.aload_n 0, 1) := by decide +kernel
theorem dX12_init_64 : decode cX12_init 64 = .ok (.sipush 200, 3) := by decide +kernel
theorem dX12_init_67 : decode cX12_init 67 = .ok (.newarray .int, 2) := by decide +kernel
theorem dX12_init_69 : decode cX12_init 69 = .ok (.putfield 35, 3) := by decide +kernel
theorem dX12_init_72 : decode cX12_init 72 = .ok (.aload_n 0, 1) := by decide +kernel
theorem dX12_init_73 : decode cX12_init 73 = .ok (.sipush 201, 3) := by decide +kernel
theorem dX12_init_76 : decode cX12_init 76 = .ok (.newarray .int, 2) := by decide +kernel
theorem dX12_init_78 : decode cX12_init 78 = .ok (.putfield 38, 3) := by decide +kernel
theorem dX12_init_81 : decode cX12_init 81 = .ok (.aload_n 0, 1) := by decide +kernel
theorem dX12_init_82 : decode cX12_init 82 = .ok (.sipush 201, 3) := by decide +kernel
theorem dX12_init_85 : decode cX12_init 85 = .ok (.newarray .int, 2) := by decide +kernel
theorem dX12_init_87 : decode cX12_init 87 = .ok (.putfield 41, 3) := by decide +kernel
theorem dX12_init_90 : decode cX12_init 90 = .ok (.aload_n 0, 1) := by decide +kernel
theorem dX12_init_91 : decode cX12_init 91 = .ok (.sipush 201, 3) := by decide +kernel
theorem dX12_init_94 : decode cX12_init 94 = .ok (.newarray .int, 2) := by decide +kernel
theorem dX12_init_96 : decode cX12_init 96 = .ok (.putfield 44, 3) := by decide +kernel
theorem dX12_init_99 : decode cX12_init 99 = .ok (.aload_n 0, 1) := by decide +kernel
theorem dX12_init_100 : decode cX12_init 100 = .ok (.bipush 100, 2) := by decide +kernel
theorem dX12_init_102 : decode cX12_init 102 = .ok (.newarray .int, 2) := by decide +kernel
theorem dX12_init_104 : decode cX12_init 104 = .ok (.putfield 47, 3) := by decide +kernel
theorem dX12_init_107 : decode cX12_init 107 = .ok (.aload_n 0, 1) := by decide +kernel
theorem dX12_init_108 : decode cX12_init 108 = .ok (.sipush 200, 3) := by decide +kernel
theorem dX12_init_111 : decode cX12_init 111 = .ok (.newarray .int, 2) := by decide +kernel
theorem dX12_init_113 : decode cX12_init 113 = .ok (.putfield 50, 3) := by decide +kernel
theorem dX12_init_116 : decode cX12_init 116 = .ok (.aload_n 0, 1) := by decide +kernel
theorem dX12_init_117 : decode cX12_init 117 = .ok (.sipush 28800, 3) := by decide +kernel
theorem dX12_init_120 : decode cX12_init 120 = .ok (.newarray .int, 2) := by decide +kernel
theorem dX12_init_122 : decode cX12_init 122 = .ok (.putfield 53, 3) := by decide +kernel
theorem dX12_init_125 : decode cX12_init 125 = .ok (.aload_n 0, 1) := by decide +kernel
theorem dX12_init_126 : decode cX12_init 126 = .ok (.bipush 24, 2) := by decide +kernel
theorem dX12_init_128 : decode cX12_init 128 = .ok (.newarray .int, 2) := by decide +kernel
theorem dX12_init_130 : decode cX12_init 130 = .ok (.putfield 56, 3) := by decide +kernel
theorem dX12_init_133 : decode cX12_init 133 = .ok (.aload_n 0, 1) := by decide +kernel
theorem dX12_init_134 : decode cX12_init 134 = .ok (.sipush 1200, 3) := by decide +kernel
theorem dX12_init_137 : decode cX12_init 137 = .ok (.newarray .int, 2) := by decide +kernel
theorem dX12_init_139 : decode cX12_init 139 = .ok (.putfield 59, 3) := by decide +kernel
theorem dX12_init_142 : decode cX12_init 142 = .ok (.aload_n 0, 1) := by decide +kernel
theorem dX12_init_143 : decode cX12_init 143 = .ok (.bipush 100, 2) := by decide +kernel
theorem dX12_init_145 : decode cX12_init 145 = .ok (.newarray .int, 2) := by decide +kernel
theorem dX12_init_147 : decode cX12_init 147 = .ok (.putfield 62, 3) := by decide +kernel
theorem dX12_init_150 : decode cX12_init 150 = .ok (.aload_n 0, 1) := by decide +kernel
theorem dX12_init_151 : decode cX12_init 151 = .ok (.bipush 100, 2) := by decide +kernel
theorem dX12_init_153 : decode cX12_init 153 = .ok (.newarray .int, 2) := by decide +kernel
theorem dX12_init_155 : decode cX12_init 155 = .ok (.putfield 65, 3) := by decide +kernel
theorem dX12_init_158 : decode cX12_init 158 = .ok (.return_, 1) := by decide +kernel
theorem dX12_in_0 : decode cX12_in 0 = .ok (.iload_n 0, 1) := by decide +kernel
theorem dX12_in_1 : decode cX12_in 1 = .ok (.iload_n 1, 1) := by decide +kernel
theorem dX12_in_2 : decode cX12_in 2 = .ok (.if_icmp .lt 12, 3) := by decide +kernel
theorem dX12_in_5 : decode cX12_in 5 = .ok (.iload_n 0, 1) := by decide +kernel
theorem dX12_in_6 : decode cX12_in 6 = .ok (.iload_n 2, 1) := by decide +kernel
theorem dX12_in_7 : decode cX12_in 7 = .ok (.if_icmp .gt 7, 3) := by decide +kernel
theorem dX12_in_10 : decode cX12_in 10 = .ok (.iconst 1, 1) := by decide +kernel
theorem dX12_in_11 : decode cX12_in 11 = .ok (.goto 4, 3) := by decide +kernel
theorem dX12_in_14 : decode cX12_in 14 = .ok (.iconst 0, 1) := by decide +kernel
theorem dX12_in_15 : decode cX12_in 15 = .ok (.ireturn, 1) := by decide +kernel
theorem dX12_isList_0 : decode cX12_isList 0 = .ok (.iload_n 0, 1) := by decide +kernel
theorem dX12_isList_1 : decode cX12_isList 1 = .ok (.iconst 0, 1) := by decide +kernel
theorem dX12_isList_2 : decode cX12_isList 2 = .ok (.iconst 5, 1) := by decide +kernel
theorem dX12_isList_3 : decode cX12_isList 3 = .ok (.invokestatic 68, 3) := by decide +kernel
theorem dX12_isList_6 : decode cX12_isList 6 = .ok (.ireturn, 1) := by decide +kernel
theorem dX12_isValue_0 : decode cX12_isValue 0 = .ok (.iload_n 0, 1) := by decide +kernel
theorem dX12_isValue_1 : decode cX12_isValue 1 = .ok (.iconst 0, 1) := by decide +kernel
theorem dX12_isValue_2 : decode cX12_isValue 2 = .ok (.ldc 72, 2) := by decide +kernel
theorem dX12_isValue_4 : decode cX12_isValue 4 = .ok (.invokestatic 68, 3) := by decide +kernel
theorem dX12_isValue_7 : decode cX12_isValue 7 = .ok (.ireturn, 1) := by decide +kernel
theorem dX12_many_0 : decode cX12_many 0 = .ok (.aload_n 0, 1) := by decide +kernel
theorem dX12_many_1 : decode cX12_many 1 = .ok (.getfield 7, 3) := by decide +kernel
theorem dX12_many_4 : decode cX12_many 4 = .ok (.sipush 402, 3) := by decide +kernel
theorem dX12_many_7 : decode cX12_many 7 = .ok (.iload_n 1, 1) := by decide +kernel
theorem dX12_many_8 : decode cX12_many 8 = .ok (.imul, 1) := by decide +kernel
theorem dX12_many_9 : decode cX12_many 9 = .ok (.iaload, 1) := by decide +kernel
theorem dX12_many_10 : decode cX12_many 10 = .ok (.ireturn, 1) := by decide +kernel
theorem dX12_blocks_0 : decode cX12_blocks 0 = .ok (.aload_n 0, 1) := by decide +kernel
theorem dX12_blocks_1 : decode cX12_blocks 1 = .ok (.getfield 7, 3) := by decide +kernel
theorem dX12_blocks_4 : decode cX12_blocks 4 = .ok (.sipush 402, 3) := by decide +kernel
theorem dX12_blocks_7 : decode cX12_blocks 7 = .ok (.iload_n 1, 1) := by decide +kernel
theorem dX12_blocks_8 : decode cX12_blocks 8 = .ok (.imul, 1) := by decide +kernel
theorem dX12_blocks_9 : decode cX12_blocks 9 = .ok (.sipush 201, 3) := by decide +kernel
theorem dX12_blocks_12 : decode cX12_blocks 12 = .ok (.iadd, 1) := by decide +kernel
theorem dX12_blocks_13 : decode cX12_blocks 13 = .ok (.iaload, 1) := by decide +kernel
theorem dX12_blocks_14 : decode cX12_blocks 14 = .ok (.ireturn, 1) := by decide +kernel
theorem dX12_number_0 : decode cX12_number 0 = .ok (.aload_n 0, 1) := by decide +kernel
theorem dX12_number_1 : decode cX12_number 1 = .ok (.getfield 7, 3) := by decide +kernel
theorem dX12_number_4 : decode cX12_number 4 = .ok (.sipush 402, 3) := by decide +kernel
theorem dX12_number_7 : decode cX12_number 7 = .ok (.iload_n 1, 1) := by decide +kernel
theorem dX12_number_8 : decode cX12_number 8 = .ok (.imul, 1) := by decide +kernel
theorem dX12_number_9 : decode cX12_number 9 = .ok (.iconst 1, 1) := by decide +kernel
theorem dX12_number_10 : decode cX12_number 10 = .ok (.iadd, 1) := by decide +kernel
theorem dX12_number_11 : decode cX12_number 11 = .ok (.iload_n 2, 1) := by decide +kernel
theorem dX12_number_12 : decode cX12_number 12 = .ok (.iadd, 1) := by decide +kernel
theorem dX12_number_13 : decode cX12_number 13 = .ok (.iaload, 1) := by decide +kernel
theorem dX12_number_14 : decode cX12_number 14 = .ok (.ireturn, 1) := by decide +kernel
theorem dX12_length_0 : decode cX12_length 0 = .ok (.aload_n 0, 1) := by decide +kernel
theorem dX12_length_1 : decode cX12_length 1 = .ok (.getfield 7, 3) := by decide +kernel
theorem dX12_length_4 : decode cX12_length 4 = .ok (.sipush 402, 3) := by decide +kernel
theorem dX12_length_7 : decode cX12_length 7 = .ok (.iload_n 1, 1) := by decide +kernel
theorem dX12_length_8 : decode cX12_length 8 = .ok (.imul, 1) := by decide +kernel
theorem dX12_length_9 : decode cX12_length 9 = .ok (.sipush 202, 3) := by decide +kernel
theorem dX12_length_12 : decode cX12_length 12 = .ok (.iadd, 1) := by decide +kernel
theorem dX12_length_13 : decode cX12_length 13 = .ok (.iload_n 2, 1) := by decide +kernel
theorem dX12_length_14 : decode cX12_length 14 = .ok (.iadd, 1) := by decide +kernel
theorem dX12_length_15 : decode cX12_length 15 = .ok (.iaload, 1) := by decide +kernel
theorem dX12_length_16 : decode cX12_length 16 = .ok (.ireturn, 1) := by decide +kernel
theorem dX12_isBlock_0 : decode cX12_isBlock 0 = .ok (.iload_n 1, 1) := by decide +kernel
theorem dX12_isBlock_1 : decode cX12_isBlock 1 = .ok (.invokestatic 73, 3) := by decide +kernel
theorem dX12_isBlock_4 : decode cX12_isBlock 4 = .ok (.ifCond .eq 22, 3) := by decide +kernel
theorem dX12_isBlock_7 : decode cX12_isBlock 7 = .ok (.iload_n 2, 1) := by decide +kernel
theorem dX12_isBlock_8 : decode cX12_isBlock 8 = .ok (.iconst 0, 1) := by decide +kernel
theorem dX12_isBlock_9 : decode cX12_isBlock 9 = .ok (.aload_n 0, 1) := by decide +kernel
theorem dX12_isBlock_10 : decode cX12_isBlock 10 = .ok (.iload_n 1, 1) := by decide +kernel
theorem dX12_isBlock_11 : decode cX12_isBlock 11 = .ok (.invokevirtual 77, 3) := by decide +kernel
theorem dX12_isBlock_14 : decode cX12_isBlock 14 = .ok (.iconst 1, 1) := by decide +kernel
theorem dX12_isBlock_15 : decode cX12_isBlock 15 = .ok (.isub, 1) := by decide +kernel
theorem dX12_isBlock_16 : decode cX12_isBlock 16 = .ok (.invokestatic 68, 3) := by decide +kernel
theorem dX12_isBlock_19 : decode cX12_isBlock 19 = .ok (.ifCond .eq 7, 3) := by decide +kernel
theorem dX12_isBlock_22 : decode cX12_isBlock 22 = .ok (.iconst 1, 1) := by decide +kernel
theorem dX12_isBlock_23 : decode cX12_isBlock 23 = .ok (.goto 4, 3) := by decide +kernel
theorem dX12_isBlock_26 : decode cX12_isBlock 26 = .ok (.iconst 0, 1) := by decide +kernel
theorem dX12_isBlock_27 : decode cX12_isBlock 27 = .ok (.ireturn, 1) := by decide +kernel
theorem dX12_begin_0 : decode cX12_begin 0 = .ok (.iconst 0, 1) := by decide +kernel
theorem dX12_begin_1 : decode cX12_begin 1 = .ok (.istore_n 3, 1) := by decide +kernel
theorem dX12_begin_2 : decode cX12_begin 2 = .ok (.iconst 0, 1) := by decide +kernel
theorem dX12_begin_3 : decode cX12_begin 3 = .ok (.istore 4, 2) := by decide +kernel
theorem dX12_begin_5 : decode cX12_begin 5 = .ok (.iload 4, 2) := by decide +kernel
theorem dX12_begin_7 : decode cX12_begin 7 = .ok (.iload_n 2, 1) := by decide +kernel
theorem dX12_begin_8 : decode cX12_begin 8 = .ok (.if_icmp .ge 19, 3) := by decide +kernel
theorem dX12_begin_11 : decode cX12_begin 11 = .ok (.iload_n 3, 1) := by decide +kernel
theorem dX12_begin_12 : decode cX12_begin 12 = .ok (.aload_n 0, 1) := by decide +kernel
theorem dX12_begin_13 : decode cX12_begin 13 = .ok (.iload_n 1, 1) := by decide +kernel
theorem dX12_begin_14 : decode cX12_begin 14 = .ok (.iload 4, 2) := by decide +kernel
theorem dX12_begin_16 : decode cX12_begin 16 = .ok (.invokevirtual 81, 3) := by decide +kernel
theorem dX12_begin_19 : decode cX12_begin 19 = .ok (.iadd, 1) := by decide +kernel
theorem dX12_begin_20 : decode cX12_begin 20 = .ok (.istore_n 3, 1) := by decide +kernel
theorem dX12_begin_21 : decode cX12_begin 21 = .ok (.iinc 4 1, 3) := by decide +kernel
theorem dX12_begin_24 : decode cX12_begin 24 = .ok (.goto (-19), 3) := by decide +kernel
theorem dX12_begin_27 : decode cX12_begin 27 = .ok (.iload_n 3, 1) := by decide +kernel
theorem dX12_begin_28 : decode cX12_begin 28 = .ok (.ireturn, 1) := by decide +kernel
theorem dX12_blockOf_0 : decode cX12_blockOf 0 = .ok (.iconst 0, 1) := by decide +kernel
theorem dX12_blockOf_1 : decode cX12_blockOf 1 = .ok (.istore_n 3, 1) := by decide +kernel
theorem dX12_blockOf_2 : decode cX12_blockOf 2 = .ok (.aload_n 0, 1) := by decide +kernel
theorem dX12_blockOf_3 : decode cX12_blockOf 3 = .ok (.iload_n 1, 1) := by decide +kernel
theorem dX12_blockOf_4 : decode cX12_blockOf 4 = .ok (.iload_n 3, 1) := by decide +kernel
theorem dX12_blockOf_5 : decode cX12_blockOf 5 = .ok (.invokevirtual 85, 3) := by decide +kernel
theorem dX12_blockOf_8 : decode cX12_blockOf 8 = .ok (.aload_n 0, 1) := by decide +kernel
theorem dX12_blockOf_9 : decode cX12_blockOf 9 = .ok (.iload_n 1, 1) := by decide +kernel
theorem dX12_blockOf_10 : decode cX12_blockOf 10 = .ok (.iload_n 3, 1) := by decide +kernel
theorem dX12_blockOf_11 : decode cX12_blockOf 11 = .ok (.invokevirtual 81, 3) := by decide +kernel
theorem dX12_blockOf_14 : decode cX12_blockOf 14 = .ok (.iadd, 1) := by decide +kernel
theorem dX12_blockOf_15 : decode cX12_blockOf 15 = .ok (.iload_n 2, 1) := by decide +kernel
theorem dX12_blockOf_16 : decode cX12_blockOf 16 = .ok (.if_icmp .gt 9, 3) := by decide +kernel
theorem dX12_blockOf_19 : decode cX12_blockOf 19 = .ok (.iinc 3 1, 3) := by decide +kernel
theorem dX12_blockOf_22 : decode cX12_blockOf 22 = .ok (.goto (-20), 3) := by decide +kernel
theorem dX12_blockOf_25 : decode cX12_blockOf 25 = .ok (.iload_n 3, 1) := by decide +kernel
theorem dX12_blockOf_26 : decode cX12_blockOf 26 = .ok (.ireturn, 1) := by decide +kernel
theorem dX12_keeps_0 : decode cX12_keeps 0 = .ok (.aload_n 0, 1) := by decide +kernel
theorem dX12_keeps_1 : decode cX12_keeps 1 = .ok (.getfield 88, 3) := by decide +kernel
theorem dX12_keeps_4 : decode cX12_keeps 4 = .ok (.bipush 8, 2) := by decide +kernel
theorem dX12_keeps_6 : decode cX12_keeps 6 = .ok (.if_icmp .ne 44, 3) := by decide +kernel
theorem dX12_keeps_9 : decode cX12_keeps 9 = .ok (.iconst 0, 1) := by decide +kernel
theorem dX12_keeps_10 : decode cX12_keeps 10 = .ok (.istore_n 2, 1) := by decide +kernel
theorem dX12_keeps_11 : decode cX12_keeps 11 = .ok (.iload_n 2, 1) := by decide +kernel
theorem dX12_keeps_12 : decode cX12_keeps 12 = .ok (.sipush 16884, 3) := by decide +kernel
theorem dX12_keeps_15 : decode cX12_keeps 15 = .ok (.if_icmp .ge 25, 3) := by decide +kernel
theorem dX12_keeps_18 : decode cX12_keeps 18 = .ok (.aload_n 0, 1) := by decide +kernel
theorem dX12_keeps_19 : decode cX12_keeps 19 = .ok (.getfield 13, 3) := by decide +kernel
theorem dX12_keeps_22 : decode cX12_keeps 22 = .ok (.iload_n 2, 1) := by decide +kernel
theorem dX12_keeps_23 : decode cX12_keeps 23 = .ok (.aload_n 0, 1) := by decide +kernel
theorem dX12_keeps_24 : decode cX12_keeps 24 = .ok (.getfield 13, 3) := by decide +kernel
theorem dX12_keeps_27 : decode cX12_keeps 27 = .ok (.iload_n 2, 1) := by decide +kernel
theorem dX12_keeps_28 : decode cX12_keeps 28 = .ok (.sipush 2412, 3) := by decide +kernel
theorem dX12_keeps_31 : decode cX12_keeps 31 = .ok (.iadd, 1) := by decide +kernel
theorem dX12_keeps_32 : decode cX12_keeps 32 = .ok (.iaload, 1) := by decide +kernel
theorem dX12_keeps_33 : decode cX12_keeps 33 = .ok (.iastore, 1) := by decide +kernel
theorem dX12_keeps_34 : decode cX12_keeps 34 = .ok (.iinc 2 1, 3) := by decide +kernel
theorem dX12_keeps_37 : decode cX12_keeps 37 = .ok (.goto (-26), 3) := by decide +kernel
theorem dX12_keeps_40 : decode cX12_keeps 40 = .ok (.aload_n 0, 1) := by decide +kernel
theorem dX12_keeps_41 : decode cX12_keeps 41 = .ok (.dup, 1) := by decide +kernel
theorem dX12_keeps_42 : decode cX12_keeps 42 = .ok (.getfield 88, 3) := by decide +kernel
theorem dX12_keeps_45 : decode cX12_keeps 45 = .ok (.iconst 1, 1) := by decide +kernel
theorem dX12_keeps_46 : decode cX12_keeps 46 = .ok (.isub, 1) := by decide +kernel
theorem dX12_keeps_47 : decode cX12_keeps 47 = .ok (.putfield 88, 3) := by decide +kernel
theorem dX12_keeps_50 : decode cX12_keeps 50 = .ok (.iconst 0, 1) := by decide +kernel
theorem dX12_keeps_51 : decode cX12_keeps 51 = .ok (.istore_n 2, 1) := by decide +kernel
theorem dX12_keeps_52 : decode cX12_keeps 52 = .ok (.iload_n 2, 1) := by decide +kernel
theorem dX12_keeps_53 : decode cX12_keeps 53 = .ok (.sipush 2412, 3) := by decide +kernel
theorem dX12_keeps_56 : decode cX12_keeps 56 = .ok (.if_icmp .ge 30, 3) := by decide +kernel
theorem dX12_keeps_59 : decode cX12_keeps 59 = .ok (.aload_n 0, 1) := by decide +kernel
theorem dX12_keeps_60 : decode cX12_keeps 60 = .ok (.getfield 13, 3) := by decide +kernel
theorem dX12_keeps_63 : decode cX12_keeps 63 = .ok (.sipush 2412, 3) := by decide +kernel
theorem dX12_keeps_66 : decode cX12_keeps 66 = .ok (.aload_n 0, 1) := by decide +kernel
theorem dX12_keeps_67 : decode cX12_keeps 67 = .ok (.getfield 88, 3) := by decide +kernel
theorem dX12_keeps_70 : decode cX12_keeps 70 = .ok (.imul, 1) := by decide +kernel
theorem dX12_keeps_71 : decode cX12_keeps 71 = .ok (.iload_n 2, 1) := by decide +kernel
theorem dX12_keeps_72 : decode cX12_keeps 72 = .ok (.iadd, 1) := by decide +kernel
theorem dX12_keeps_73 : decode cX12_keeps 73 = .ok (.aload_n 0, 1) := by decide +kernel
theorem dX12_keeps_74 : decode cX12_keeps 74 = .ok (.getfield 7, 3) := by decide +kernel
theorem dX12_keeps_77 : decode cX12_keeps 77 = .ok (.iload_n 2, 1) := by decide +kernel
theorem dX12_keeps_78 : decode cX12_keeps 78 = .ok (.iaload, 1) := by decide +kernel
theorem dX12_keeps_79 : decode cX12_keeps 79 = .ok (.iastore, 1) := by decide +kernel
theorem dX12_keeps_80 : decode cX12_keeps 80 = .ok (.iinc 2 1, 3) := by decide +kernel
theorem dX12_keeps_83 : decode cX12_keeps 83 = .ok (.goto (-31), 3) := by decide +kernel
theorem dX12_keeps_86 : decode cX12_keeps 86 = .ok (.aload_n 0, 1) := by decide +kernel
theorem dX12_keeps_87 : decode cX12_keeps 87 = .ok (.dup, 1) := by decide +kernel
theorem dX12_keeps_88 : decode cX12_keeps 88 = .ok (.getfield 88, 3) := by decide +kernel
theorem dX12_keeps_91 : decode cX12_keeps 91 = .ok (.iconst 1, 1) := by decide +kernel
theorem dX12_keeps_92 : decode cX12_keeps 92 = .ok (.iadd, 1) := by decide +kernel
theorem dX12_keeps_93 : decode cX12_keeps 93 = .ok (.putfield 88, 3) := by decide +kernel
theorem dX12_keeps_96 : decode cX12_keeps 96 = .ok (.iconst 0, 1) := by decide +kernel
theorem dX12_keeps_97 : decode cX12_keeps 97 = .ok (.istore_n 2, 1) := by decide +kernel
theorem dX12_keeps_98 : decode cX12_keeps 98 = .ok (.iconst 0, 1) := by decide +kernel
theorem dX12_keeps_99 : decode cX12_keeps 99 = .ok (.istore_n 3, 1) := by decide +kernel
theorem dX12_keeps_100 : decode cX12_keeps 100 = .ok (.iload_n 3, 1) := by decide +kernel
theorem dX12_keeps_101 : decode cX12_keeps 101 = .ok (.aload_n 0, 1) := by decide +kernel
theorem dX12_keeps_102 : decode cX12_keeps 102 = .ok (.getfield 91, 3) := by decide +kernel
theorem dX12_keeps_105 : decode cX12_keeps 105 = .ok (.if_icmp .ge 46, 3) := by decide +kernel
theorem dX12_keeps_108 : decode cX12_keeps 108 = .ok (.aload_n 0, 1) := by decide +kernel
theorem dX12_keeps_109 : decode cX12_keeps 109 = .ok (.getfield 16, 3) := by decide +kernel
theorem dX12_keeps_112 : decode cX12_keeps 112 = .ok (.iload_n 3, 1) := by decide +kernel
theorem dX12_keeps_113 : decode cX12_keeps 113 = .ok (.iaload, 1) := by decide +kernel
theorem dX12_keeps_114 : decode cX12_keeps 114 = .ok (.iload_n 1, 1) := by decide +kernel
theorem dX12_keeps_115 : decode cX12_keeps 115 = .ok (.if_icmp .eq 30, 3) := by decide +kernel
theorem dX12_keeps_118 : decode cX12_keeps 118 = .ok (.aload_n 0, 1) := by decide +kernel
theorem dX12_keeps_119 : decode cX12_keeps 119 = .ok (.getfield 16, 3) := by decide +kernel
theorem dX12_keeps_122 : decode cX12_keeps 122 = .ok (.iload_n 2, 1) := by decide +kernel
theorem dX12_keeps_123 : decode cX12_keeps 123 = .ok (.aload_n 0, 1) := by decide +kernel
theorem dX12_keeps_124 : decode cX12_keeps 124 = .ok (.getfield 16, 3) := by decide +kernel
theorem dX12_keeps_127 : decode cX12_keeps 127 = .ok (.iload_n 3, 1) := by decide +kernel
theorem dX12_keeps_128 : decode cX12_keeps 128 = .ok (.iaload, 1) := by decide +kernel
theorem dX12_keeps_129 : decode cX12_keeps 129 = .ok (.iastore, 1) := by decide +kernel
theorem dX12_keeps_130 : decode cX12_keeps 130 = .ok (.aload_n 0, 1) := by decide +kernel
theorem dX12_keeps_131 : decode cX12_keeps 131 = .ok (.getfield 19, 3) := by decide +kernel
theorem dX12_keeps_134 : decode cX12_keeps 134 = .ok (.iload_n 2, 1) := by decide +kernel
theorem dX12_keeps_135 : decode cX12_keeps 135 = .ok (.aload_n 0, 1) := by decide +kernel
theorem dX12_keeps_136 : decode cX12_keeps 136 = .ok (.getfield 19, 3) := by decide +kernel
theorem dX12_keeps_139 : decode cX12_keeps 139 = .ok (.iload_n 3, 1) := by decide +kernel
theorem dX12_keeps_140 : decode cX12_keeps 140 = .ok (.iaload, 1) := by decide +kernel
theorem dX12_keeps_141 : decode cX12_keeps 141 = .ok (.iastore, 1) := by decide +kernel
theorem dX12_keeps_142 : decode cX12_keeps 142 = .ok (.iinc 2 1, 3) := by decide +kernel
theorem dX12_keeps_145 : decode cX12_keeps 145 = .ok (.iinc 3 1, 3) := by decide +kernel
theorem dX12_keeps_148 : decode cX12_keeps 148 = .ok (.goto (-48), 3) := by decide +kernel
theorem dX12_keeps_151 : decode cX12_keeps 151 = .ok (.aload_n 0, 1) := by decide +kernel
theorem dX12_keeps_152 : decode cX12_keeps 152 = .ok (.iload_n 2, 1) := by decide +kernel
theorem dX12_keeps_153 : decode cX12_keeps 153 = .ok (.putfield 91, 3) := by decide +kernel
theorem dX12_keeps_156 : decode cX12_keeps 156 = .ok (.return_, 1) := by decide +kernel
theorem dX12_undo_0 : decode cX12_undo 0 = .ok (.aload_n 0, 1) := by decide +kernel
theorem dX12_undo_1 : decode cX12_undo 1 = .ok (.getfield 88, 3) := by decide +kernel
theorem dX12_undo_4 : decode cX12_undo 4 = .ok (.ifCond .ne 6, 3) := by decide +kernel
