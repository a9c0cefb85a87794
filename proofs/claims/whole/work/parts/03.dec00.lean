theorem dX0_init_0 : decode cX0_init 0 = .ok (.aload_n 0, 1) := by decide +kernel
theorem dX0_init_1 : decode cX0_init 1 = .ok (.invokespecial 3, 3) := by decide +kernel
theorem dX0_init_4 : decode cX0_init 4 = .ok (.aload_n 0, 1) := by decide +kernel
theorem dX0_init_5 : decode cX0_init 5 = .ok (.bipush 21, 2) := by decide +kernel
theorem dX0_init_7 : decode cX0_init 7 = .ok (.newarray .int, 2) := by decide +kernel
theorem dX0_init_9 : decode cX0_init 9 = .ok (.putfield 9, 3) := by decide +kernel
theorem dX0_init_12 : decode cX0_init 12 = .ok (.return_, 1) := by decide +kernel
theorem dX0_measure_0 : decode cX0_measure 0 = .ok (.aload_n 0, 1) := by decide +kernel
theorem dX0_measure_1 : decode cX0_measure 1 = .ok (.aload_n 1, 1) := by decide +kernel
theorem dX0_measure_2 : decode cX0_measure 2 = .ok (.putfield 15, 3) := by decide +kernel
theorem dX0_measure_5 : decode cX0_measure 5 = .ok (.aload_n 0, 1) := by decide +kernel
theorem dX0_measure_6 : decode cX0_measure 6 = .ok (.iload_n 2, 1) := by decide +kernel
theorem dX0_measure_7 : decode cX0_measure 7 = .ok (.putfield 19, 3) := by decide +kernel
theorem dX0_measure_10 : decode cX0_measure 10 = .ok (.aload_n 0, 1) := by decide +kernel
theorem dX0_measure_11 : decode cX0_measure 11 = .ok (.iload_n 3, 1) := by decide +kernel
theorem dX0_measure_12 : decode cX0_measure 12 = .ok (.iload_n 2, 1) := by decide +kernel
theorem dX0_measure_13 : decode cX0_measure 13 = .ok (.isub, 1) := by decide +kernel
theorem dX0_measure_14 : decode cX0_measure 14 = .ok (.putfield 23, 3) := by decide +kernel
theorem dX0_measure_17 : decode cX0_measure 17 = .ok (.aload_n 0, 1) := by decide +kernel
theorem dX0_measure_18 : decode cX0_measure 18 = .ok (.getfield 9, 3) := by decide +kernel
theorem dX0_measure_21 : decode cX0_measure 21 = .ok (.iconst 0, 1) := by decide +kernel
theorem dX0_measure_22 : decode cX0_measure 22 = .ok (.invokestatic 26, 3) := by decide +kernel
theorem dX0_measure_25 : decode cX0_measure 25 = .ok (.iconst 0, 1) := by decide +kernel
theorem dX0_measure_26 : decode cX0_measure 26 = .ok (.istore 4, 2) := by decide +kernel
theorem dX0_measure_28 : decode cX0_measure 28 = .ok (.iconst 1, 1) := by decide +kernel
theorem dX0_measure_29 : decode cX0_measure 29 = .ok (.istore 5, 2) := by decide +kernel
theorem dX0_measure_31 : decode cX0_measure 31 = .ok (.iload 5, 2) := by decide +kernel
theorem dX0_measure_33 : decode cX0_measure 33 = .ok (.aload_n 0, 1) := by decide +kernel
theorem dX0_measure_34 : decode cX0_measure 34 = .ok (.getfield 23, 3) := by decide +kernel
theorem dX0_measure_37 : decode cX0_measure 37 = .ok (.if_icmp .ge 48, 3) := by decide +kernel
theorem dX0_measure_40 : decode cX0_measure 40 = .ok (.aload_n 0, 1) := by decide +kernel
theorem dX0_measure_41 : decode cX0_measure 41 = .ok (.getfield 15, 3) := by decide +kernel
theorem dX0_measure_44 : decode cX0_measure 44 = .ok (.aload_n 0, 1) := by decide +kernel
theorem dX0_measure_45 : decode cX0_measure 45 = .ok (.getfield 19, 3) := by decide +kernel
theorem dX0_measure_48 : decode cX0_measure 48 = .ok (.iload 5, 2) := by decide +kernel
theorem dX0_measure_50 : decode cX0_measure 50 = .ok (.iadd, 1) := by decide +kernel
theorem dX0_measure_51 : decode cX0_measure 51 = .ok (.invokevirtual 32, 3) := by decide +kernel
theorem dX0_measure_54 : decode cX0_measure 54 = .ok (.invokestatic 38, 3) := by decide +kernel
theorem dX0_measure_57 : decode cX0_measure 57 = .ok (.istore 6, 2) := by decide +kernel
theorem dX0_measure_59 : decode cX0_measure 59 = .ok (.aload_n 0, 1) := by decide +kernel
theorem dX0_measure_60 : decode cX0_measure 60 = .ok (.getfield 9, 3) := by decide +kernel
theorem dX0_measure_63 : decode cX0_measure 63 = .ok (.iload 6, 2) := by decide +kernel
theorem dX0_measure_65 : decode cX0_measure 65 = .ok (.dup2, 1) := by decide +kernel
theorem dX0_measure_66 : decode cX0_measure 66 = .ok (.iaload, 1) := by decide +kernel
theorem dX0_measure_67 : decode cX0_measure 67 = .ok (.iconst 1, 1) := by decide +kernel
theorem dX0_measure_68 : decode cX0_measure 68 = .ok (.iadd, 1) := by decide +kernel
theorem dX0_measure_69 : decode cX0_measure 69 = .ok (.iastore, 1) := by decide +kernel
theorem dX0_measure_70 : decode cX0_measure 70 = .ok (.iload 4, 2) := by decide +kernel
theorem dX0_measure_72 : decode cX0_measure 72 = .ok (.iload 6, 2) := by decide +kernel
theorem dX0_measure_74 : decode cX0_measure 74 = .ok (.invokestatic 41, 3) := by decide +kernel
theorem dX0_measure_77 : decode cX0_measure 77 = .ok (.istore 4, 2) := by decide +kernel
theorem dX0_measure_79 : decode cX0_measure 79 = .ok (.iinc 5 1, 3) := by decide +kernel
theorem dX0_measure_82 : decode cX0_measure 82 = .ok (.goto (-51), 3) := by decide +kernel
theorem dX0_measure_85 : decode cX0_measure 85 = .ok (.aload_n 0, 1) := by decide +kernel
theorem dX0_measure_86 : decode cX0_measure 86 = .ok (.iload 4, 2) := by decide +kernel
theorem dX0_measure_88 : decode cX0_measure 88 = .ok (.invokevirtual 47, 3) := by decide +kernel
theorem dX0_measure_91 : decode cX0_measure 91 = .ok (.return_, 1) := by decide +kernel
theorem dX0_chooseWidth_0 : decode cX0_chooseWidth 0 = .ok (.aload_n 0, 1) := by decide +kernel
theorem dX0_chooseWidth_1 : decode cX0_chooseWidth 1 = .ok (.iconst 0, 1) := by decide +kernel
theorem dX0_chooseWidth_2 : decode cX0_chooseWidth 2 = .ok (.putfield 51, 3) := by decide +kernel
theorem dX0_chooseWidth_5 : decode cX0_chooseWidth 5 = .ok (.aload_n 0, 1) := by decide +kernel
theorem dX0_chooseWidth_6 : decode cX0_chooseWidth 6 = .ok (.aload_n 0, 1) := by decide +kernel
theorem dX0_chooseWidth_7 : decode cX0_chooseWidth 7 = .ok (.getfield 23, 3) := by decide +kernel
theorem dX0_chooseWidth_10 : decode cX0_chooseWidth 10 = .ok (.iconst 1, 1) := by decide +kernel
theorem dX0_chooseWidth_11 : decode cX0_chooseWidth 11 = .ok (.isub, 1) := by decide +kernel
theorem dX0_chooseWidth_12 : decode cX0_chooseWidth 12 = .ok (.aload_n 0, 1) := by decide +kernel
theorem dX0_chooseWidth_13 : decode cX0_chooseWidth 13 = .ok (.getfield 9, 3) := by decide +kernel
theorem dX0_chooseWidth_16 : decode cX0_chooseWidth 16 = .ok (.iconst 0, 1) := by decide +kernel
theorem dX0_chooseWidth_17 : decode cX0_chooseWidth 17 = .ok (.iaload, 1) := by decide +kernel
theorem dX0_chooseWidth_18 : decode cX0_chooseWidth 18 = .ok (.isub, 1) := by decide +kernel
theorem dX0_chooseWidth_19 : decode cX0_chooseWidth 19 = .ok (.putfield 54, 3) := by decide +kernel
theorem dX0_chooseWidth_22 : decode cX0_chooseWidth 22 = .ok (.aload_n 0, 1) := by decide +kernel
theorem dX0_chooseWidth_23 : decode cX0_chooseWidth 23 = .ok (.aload_n 0, 1) := by decide +kernel
theorem dX0_chooseWidth_24 : decode cX0_chooseWidth 24 = .ok (.iconst 0, 1) := by decide +kernel
theorem dX0_chooseWidth_25 : decode cX0_chooseWidth 25 = .ok (.aload_n 0, 1) := by decide +kernel
theorem dX0_chooseWidth_26 : decode cX0_chooseWidth 26 = .ok (.getfield 54, 3) := by decide +kernel
theorem dX0_chooseWidth_29 : decode cX0_chooseWidth 29 = .ok (.invokevirtual 57, 3) := by decide +kernel
theorem dX0_chooseWidth_32 : decode cX0_chooseWidth 32 = .ok (.putfield 60, 3) := by decide +kernel
theorem dX0_chooseWidth_35 : decode cX0_chooseWidth 35 = .ok (.aload_n 0, 1) := by decide +kernel
theorem dX0_chooseWidth_36 : decode cX0_chooseWidth 36 = .ok (.getfield 54, 3) := by decide +kernel
theorem dX0_chooseWidth_39 : decode cX0_chooseWidth 39 = .ok (.istore_n 2, 1) := by decide +kernel
theorem dX0_chooseWidth_40 : decode cX0_chooseWidth 40 = .ok (.iconst 1, 1) := by decide +kernel
theorem dX0_chooseWidth_41 : decode cX0_chooseWidth 41 = .ok (.istore_n 3, 1) := by decide +kernel
theorem dX0_chooseWidth_42 : decode cX0_chooseWidth 42 = .ok (.iload_n 3, 1) := by decide +kernel
theorem dX0_chooseWidth_43 : decode cX0_chooseWidth 43 = .ok (.iload_n 1, 1) := by decide +kernel
theorem dX0_chooseWidth_44 : decode cX0_chooseWidth 44 = .ok (.if_icmp .gt 51, 3) := by decide +kernel
theorem dX0_chooseWidth_47 : decode cX0_chooseWidth 47 = .ok (.iload_n 2, 1) := by decide +kernel
theorem dX0_chooseWidth_48 : decode cX0_chooseWidth 48 = .ok (.aload_n 0, 1) := by decide +kernel
theorem dX0_chooseWidth_49 : decode cX0_chooseWidth 49 = .ok (.getfield 9, 3) := by decide +kernel
theorem dX0_chooseWidth_52 : decode cX0_chooseWidth 52 = .ok (.iload_n 3, 1) := by decide +kernel
theorem dX0_chooseWidth_53 : decode cX0_chooseWidth 53 = .ok (.iaload, 1) := by decide +kernel
theorem dX0_chooseWidth_54 : decode cX0_chooseWidth 54 = .ok (.isub, 1) := by decide +kernel
theorem dX0_chooseWidth_55 : decode cX0_chooseWidth 55 = .ok (.istore_n 2, 1) := by decide +kernel
theorem dX0_chooseWidth_56 : decode cX0_chooseWidth 56 = .ok (.aload_n 0, 1) := by decide +kernel
theorem dX0_chooseWidth_57 : decode cX0_chooseWidth 57 = .ok (.iload_n 3, 1) := by decide +kernel
theorem dX0_chooseWidth_58 : decode cX0_chooseWidth 58 = .ok (.iload_n 2, 1) := by decide +kernel
theorem dX0_chooseWidth_59 : decode cX0_chooseWidth 59 = .ok (.invokevirtual 57, 3) := by decide +kernel
theorem dX0_chooseWidth_62 : decode cX0_chooseWidth 62 = .ok (.istore 4, 2) := by decide +kernel
theorem dX0_chooseWidth_64 : decode cX0_chooseWidth 64 = .ok (.iload 4, 2) := by decide +kernel
theorem dX0_chooseWidth_66 : decode cX0_chooseWidth 66 = .ok (.aload_n 0, 1) := by decide +kernel
theorem dX0_chooseWidth_67 : decode cX0_chooseWidth 67 = .ok (.getfield 60, 3) := by decide +kernel
theorem dX0_chooseWidth_70 : decode cX0_chooseWidth 70 = .ok (.if_icmp .ge 19, 3) := by decide +kernel
theorem dX0_chooseWidth_73 : decode cX0_chooseWidth 73 = .ok (.aload_n 0, 1) := by decide +kernel
theorem dX0_chooseWidth_74 : decode cX0_chooseWidth 74 = .ok (.iload_n 3, 1) := by decide +kernel
theorem dX0_chooseWidth_75 : decode cX0_chooseWidth 75 = .ok (.putfield 51, 3) := by decide +kernel
theorem dX0_chooseWidth_78 : decode cX0_chooseWidth 78 = .ok (.aload_n 0, 1) := by decide +kernel
theorem dX0_chooseWidth_79 : decode cX0_chooseWidth 79 = .ok (.iload_n 2, 1) := by decide +kernel
theorem dX0_chooseWidth_80 : decode cX0_chooseWidth 80 = .ok (.putfield 54, 3) := by decide +kernel
theorem dX0_chooseWidth_83 : decode cX0_chooseWidth 83 = .ok (.aload_n 0, 1) := by decide +kernel
theorem dX0_chooseWidth_84 : decode cX0_chooseWidth 84 = .ok (.iload 4, 2) := by decide +kernel
theorem dX0_chooseWidth_86 : decode cX0_chooseWidth 86 = .ok (.putfield 60, 3) := by decide +kernel
theorem dX0_chooseWidth_89 : decode cX0_chooseWidth 89 = .ok (.iinc 3 1, 3) := by decide +kernel
theorem dX0_chooseWidth_92 : decode cX0_chooseWidth 92 = .ok (.goto (-50), 3) := by decide +kernel
theorem dX0_chooseWidth_95 : decode cX0_chooseWidth 95 = .ok (.return_, 1) := by decide +kernel
theorem dX0_costWith_0 : decode cX0_costWith 0 = .ok (.bipush 32, 2) := by decide +kernel
theorem dX0_costWith_2 : decode cX0_costWith 2 = .ok (.iload_n 1, 1) := by decide +kernel
theorem dX0_costWith_3 : decode cX0_costWith 3 = .ok (.aload_n 0, 1) := by decide +kernel
theorem dX0_costWith_4 : decode cX0_costWith 4 = .ok (.getfield 23, 3) := by decide +kernel
theorem dX0_costWith_7 : decode cX0_costWith 7 = .ok (.iconst 1, 1) := by decide +kernel
theorem dX0_costWith_8 : decode cX0_costWith 8 = .ok (.isub, 1) := by decide +kernel
theorem dX0_costWith_9 : decode cX0_costWith 9 = .ok (.imul, 1) := by decide +kernel
theorem dX0_costWith_10 : decode cX0_costWith 10 = .ok (.iadd, 1) := by decide +kernel
theorem dX0_costWith_11 : decode cX0_costWith 11 = .ok (.bipush 28, 2) := by decide +kernel
theorem dX0_costWith_13 : decode cX0_costWith 13 = .ok (.iload_n 2, 1) := by decide +kernel
theorem dX0_costWith_14 : decode cX0_costWith 14 = .ok (.imul, 1) := by decide +kernel
theorem dX0_costWith_15 : decode cX0_costWith 15 = .ok (.iadd, 1) := by decide +kernel
theorem dX0_costWith_16 : decode cX0_costWith 16 = .ok (.ireturn, 1) := by decide +kernel
theorem dX0_property_0 : decode cX0_property 0 = .ok (.iload_n 1, 1) := by decide +kernel
theorem dX0_property_1 : decode cX0_property 1 = .ok (.tableswitch 85 0 6 #[43, 48, 53, 65, 70, 75, 80], 43) := by decide +kernel
theorem dX0_property_44 : decode cX0_property 44 = .ok (.aload_n 0, 1) := by decide +kernel
theorem dX0_property_45 : decode cX0_property 45 = .ok (.getfield 19, 3) := by decide +kernel
theorem dX0_property_48 : decode cX0_property 48 = .ok (.ireturn, 1) := by decide +kernel
theorem dX0_property_49 : decode cX0_property 49 = .ok (.aload_n 0, 1) := by decide +kernel
theorem dX0_property_50 : decode cX0_property 50 = .ok (.getfield 23, 3) := by decide +kernel
theorem dX0_property_53 : decode cX0_property 53 = .ok (.ireturn, 1) := by decide +kernel
theorem dX0_property_54 : decode cX0_property 54 = .ok (.aload_n 0, 1) := by decide +kernel
theorem dX0_property_55 : decode cX0_property 55 = .ok (.getfield 15, 3) := by decide +kernel
theorem dX0_property_58 : decode cX0_property 58 = .ok (.aload_n 0, 1) := by decide +kernel
theorem dX0_property_59 : decode cX0_property 59 = .ok (.getfield 19, 3) := by decide +kernel
theorem dX0_property_62 : decode cX0_property 62 = .ok (.invokevirtual 63, 3) := by decide +kernel
theorem dX0_property_65 : decode cX0_property 65 = .ok (.ireturn, 1) := by decide +kernel
theorem dX0_property_66 : decode cX0_property 66 = .ok (.aload_n 0, 1) := by decide +kernel
theorem dX0_property_67 : decode cX0_property 67 = .ok (.getfield 51, 3) := by decide +kernel
theorem dX0_property_70 : decode cX0_property 70 = .ok (.ireturn, 1) := by decide +kernel
theorem dX0_property_71 : decode cX0_property 71 = .ok (.aload_n 0, 1) := by decide +kernel
theorem dX0_property_72 : decode cX0_property 72 = .ok (.getfield 54, 3) := by decide +kernel
theorem dX0_property_75 : decode cX0_property 75 = .ok (.ireturn, 1) := by decide +kernel
theorem dX0_property_76 : decode cX0_property 76 = .ok (.aload_n 0, 1) := by decide +kernel
theorem dX0_property_77 : decode cX0_property 77 = .ok (.getfield 60, 3) := by decide +kernel
theorem dX0_property_80 : decode cX0_property 80 = .ok (.ireturn, 1) := by decide +kernel
theorem dX0_property_81 : decode cX0_property 81 = .ok (.aload_n 0, 1) := by decide +kernel
theorem dX0_property_82 : decode cX0_property 82 = .ok (.invokevirtual 66, 3) := by decide +kernel
theorem dX0_property_85 : decode cX0_property 85 = .ok (.ireturn, 1) := by decide +kernel
theorem dX0_property_86 : decode cX0_property 86 = .ok (.bipush (-2), 2) := by decide +kernel
theorem dX0_property_88 : decode cX0_property 88 = .ok (.ireturn, 1) := by decide +kernel
theorem dX0_highPart_0 : decode cX0_highPart 0 = .ok (.aload_n 0, 1) := by decide +kernel
theorem dX0_highPart_1 : decode cX0_highPart 1 = .ok (.getfield 15, 3) := by decide +kernel
theorem dX0_highPart_4 : decode cX0_highPart 4 = .ok (.aload_n 0, 1) := by decide +kernel
theorem dX0_highPart_5 : decode cX0_highPart 5 = .ok (.getfield 19, 3) := by decide +kernel
theorem dX0_highPart_8 : decode cX0_highPart 8 = .ok (.iload_n 1, 1) := by decide +kernel
theorem dX0_highPart_9 : decode cX0_highPart 9 = .ok (.iadd, 1) := by decide +kernel
theorem dX0_highPart_10 : decode cX0_highPart 10 = .ok (.invokevirtual 32, 3) := by decide +kernel
theorem dX0_highPart_13 : decode cX0_highPart 13 = .ok (.aload_n 0, 1) := by decide +kernel
theorem dX0_highPart_14 : decode cX0_highPart 14 = .ok (.getfield 51, 3) := by decide +kernel
theorem dX0_highPart_17 : decode cX0_highPart 17 = .ok (.ishr, 1) := by decide +kernel
theorem dX0_highPart_18 : decode cX0_highPart 18 = .ok (.ireturn, 1) := by decide +kernel
theorem dX0_words_0 : decode cX0_words 0 = .ok (.aload_n 0, 1) := by decide +kernel
theorem dX0_words_1 : decode cX0_words 1 = .ok (.getfield 51, 3) := by decide +kernel
theorem dX0_words_4 : decode cX0_words 4 = .ok (.aload_n 0, 1) := by decide +kernel
theorem dX0_words_5 : decode cX0_words 5 = .ok (.getfield 23, 3) := by decide +kernel
theorem dX0_words_8 : decode cX0_words 8 = .ok (.iconst 1, 1) := by decide +kernel
theorem dX0_words_9 : decode cX0_words 9 = .ok (.isub, 1) := by decide +kernel
theorem dX0_words_10 : decode cX0_words 10 = .ok (.imul, 1) := by decide +kernel
theorem dX0_words_11 : decode cX0_words 11 = .ok (.bipush 32, 2) := by decide +kernel
theorem dX0_words_13 : decode cX0_words 13 = .ok (.iadd, 1) := by decide +kernel
theorem dX0_words_14 : decode cX0_words 14 = .ok (.iconst 1, 1) := by decide +kernel
theorem dX0_words_15 : decode cX0_words 15 = .ok (.isub, 1) := by decide +kernel
theorem dX0_words_16 : decode cX0_words 16 = .ok (.bipush 32, 2) := by decide +kernel
theorem dX0_words_18 : decode cX0_words 18 = .ok (.idiv, 1) := by decide +kernel
theorem dX0_words_19 : decode cX0_words 19 = .ok (.ireturn, 1) := by decide +kernel
theorem dX0_wordAt_0 : decode cX0_wordAt 0 = .ok (.aload_n 0, 1) := by decide +kernel
theorem dX0_wordAt_1 : decode cX0_wordAt 1 = .ok (.getfield 51, 3) := by decide +kernel
theorem dX0_wordAt_4 : decode cX0_wordAt 4 = .ok (.ifCond .ne 5, 3) := by decide +kernel
theorem dX0_wordAt_7 : decode cX0_wordAt 7 = .ok (.lconst 0, 1) := by decide +kernel
theorem dX0_wordAt_8 : decode cX0_wordAt 8 = .ok (.lreturn, 1) := by decide +kernel
theorem dX0_wordAt_9 : decode cX0_wordAt 9 = .ok (.bipush 32, 2) := by decide +kernel
theorem dX0_wordAt_11 : decode cX0_wordAt 11 = .ok (.iload_n 1, 1) := by decide +kernel
theorem dX0_wordAt_12 : decode cX0_wordAt 12 = .ok (.imul, 1) := by decide +kernel
theorem dX0_wordAt_13 : decode cX0_wordAt 13 = .ok (.istore_n 2, 1) := by decide +kernel
theorem dX0_wordAt_14 : decode cX0_wordAt 14 = .ok (.lconst 0, 1) := by decide +kernel
theorem dX0_wordAt_15 : decode cX0_wordAt 15 = .ok (.lstore_n 3, 1) := by decide +kernel
theorem dX0_wordAt_16 : decode cX0_wordAt 16 = .ok (.iconst 1, 1) := by decide +kernel
theorem dX0_wordAt_17 : decode cX0_wordAt 17 = .ok (.iload_n 2, 1) := by decide +kernel
theorem dX0_wordAt_18 : decode cX0_wordAt 18 = .ok (.aload_n 0, 1) := by decide +kernel
theorem dX0_wordAt_19 : decode cX0_wordAt 19 = .ok (.getfield 51, 3) := by decide +kernel
theorem dX0_wordAt_22 : decode cX0_wordAt 22 = .ok (.idiv, 1) := by decide +kernel
theorem dX0_wordAt_23 : decode cX0_wordAt 23 = .ok (.iadd, 1) := by decide +kernel
theorem dX0_wordAt_24 : decode cX0_wordAt 24 = .ok (.istore 5, 2) := by decide +kernel
theorem dX0_wordAt_26 : decode cX0_wordAt 26 = .ok (.iload 5, 2) := by decide +kernel
theorem dX0_wordAt_28 : decode cX0_wordAt 28 = .ok (.aload_n 0, 1) := by decide +kernel
theorem dX0_wordAt_29 : decode cX0_wordAt 29 = .ok (.getfield 23, 3) := by decide +kernel
theorem dX0_wordAt_32 : decode cX0_wordAt 32 = .ok (.if_icmp .ge 80, 3) := by decide +kernel
theorem dX0_wordAt_35 : decode cX0_wordAt 35 = .ok (.aload_n 0, 1) := by decide +kernel
theorem dX0_wordAt_36 : decode cX0_wordAt 36 = .ok (.getfield 51, 3) := by decide +kernel
theorem dX0_wordAt_39 : decode cX0_wordAt 39 = .ok (.iload 5, 2) := by decide +kernel
theorem dX0_wordAt_41 : decode cX0_wordAt 41 = .ok (.iconst 1, 1) := by decide +kernel
theorem dX0_wordAt_42 : decode cX0_wordAt 42 = .ok (.isub, 1) := by decide +kernel
theorem dX0_wordAt_43 : decode cX0_wordAt 43 = .ok (.imul, 1) := by decide +kernel
theorem dX0_wordAt_44 : decode cX0_wordAt 44 = .ok (.iload_n 2, 1) := by decide +kernel
theorem dX0_wordAt_45 : decode cX0_wordAt 45 = .ok (.isub, 1) := by decide +kernel
theorem dX0_wordAt_46 : decode cX0_wordAt 46 = .ok (.istore 6, 2) := by decide +kernel
theorem dX0_wordAt_48 : decode cX0_wordAt 48 = .ok (.iload 6, 2) := by decide +kernel
theorem dX0_wordAt_50 : decode cX0_wordAt 50 = .ok (.bipush 32, 2) := by decide +kernel
theorem dX0_wordAt_52 : decode cX0_wordAt 52 = .ok (.if_icmp .lt 6, 3) := by decide +kernel
theorem dX0_wordAt_55 : decode cX0_wordAt 55 = .ok (.goto 57, 3) := by decide +kernel
theorem dX0_wordAt_58 : decode cX0_wordAt 58 = .ok (.aload_n 0, 1) := by decide +kernel
theorem dX0_wordAt_59 : decode cX0_wordAt 59 = .ok (.getfield 15, 3) := by decide +kernel
theorem dX0_wordAt_62 : decode cX0_wordAt 62 = .ok (.aload_n 0, 1) := by decide +kernel
theorem dX0_wordAt_63 : decode cX0_wordAt 63 = .ok (.getfield 19, 3) := by decide +kernel
theorem dX0_wordAt_66 : decode cX0_wordAt 66 = .ok (.iload 5, 2) := by decide +kernel
theorem dX0_wordAt_68 : decode cX0_wordAt 68 = .ok (.iadd, 1) := by decide +kernel
theorem dX0_wordAt_69 : decode cX0_wordAt 69 = .ok (.invokevirtual 32, 3) := by decide +kernel
theorem dX0_wordAt_72 : decode cX0_wordAt 72 = .ok (.iconst 1, 1) := by decide +kernel
theorem dX0_wordAt_73 : decode cX0_wordAt 73 = .ok (.aload_n 0, 1) := by decide +kernel
theorem dX0_wordAt_74 : decode cX0_wordAt 74 = .ok (.getfield 51, 3) := by decide +kernel
theorem dX0_wordAt_77 : decode cX0_wordAt 77 = .ok (.ishl, 1) := by decide +kernel
theorem dX0_wordAt_78 : decode cX0_wordAt 78 = .ok (.iconst 1, 1) := by decide +kernel
theorem dX0_wordAt_79 : decode cX0_wordAt 79 = .ok (.isub, 1) := by decide +kernel
theorem dX0_wordAt_80 : decode cX0_wordAt 80 = .ok (.iand, 1) := by decide +kernel
theorem dX0_wordAt_81 : decode cX0_wordAt 81 = .ok (.i2l, 1) := by decide +kernel
theorem dX0_wordAt_82 : decode cX0_wordAt 82 = .ok (.lstore 7, 2) := by decide +kernel
theorem dX0_wordAt_84 : decode cX0_wordAt 84 = .ok (.lload_n 3, 1) := by decide +kernel
theorem dX0_wordAt_85 : decode cX0_wordAt 85 = .ok (.iload 6, 2) := by decide +kernel
theorem dX0_wordAt_87 : decode cX0_wordAt 87 = .ok (.ifCond .lt 11, 3) := by decide +kernel
theorem dX0_wordAt_90 : decode cX0_wordAt 90 = .ok (.lload 7, 2) := by decide +kernel
theorem dX0_wordAt_92 : decode cX0_wordAt 92 = .ok (.iload 6, 2) := by decide +kernel
theorem dX0_wordAt_94 : decode cX0_wordAt 94 = .ok (.lshl, 1) := by decide +kernel
theorem dX0_wordAt_95 : decode cX0_wordAt 95 = .ok (.goto 9, 3) := by decide +kernel
theorem dX0_wordAt_98 : decode cX0_wordAt 98 = .ok (.lload 7, 2) := by decide +kernel
theorem dX0_wordAt_100 : decode cX0_wordAt 100 = .ok (.iload 6, 2) := by decide +kernel
theorem dX0_wordAt_102 : decode cX0_wordAt 102 = .ok (.ineg, 1) := by decide +kernel
theorem dX0_wordAt_103 : decode cX0_wordAt 103 = .ok (.lshr, 1) := by decide +kernel
theorem dX0_wordAt_104 : decode cX0_wordAt 104 = .ok (.lor, 1) := by decide +kernel
theorem dX0_wordAt_105 : decode cX0_wordAt 105 = .ok (.lstore_n 3, 1) := by decide +kernel
theorem dX0_wordAt_106 : decode cX0_wordAt 106 = .ok (.iinc 5 1, 3) := by decide +kernel
theorem dX0_wordAt_109 : decode cX0_wordAt 109 = .ok (.goto (-83), 3) := by decide +kernel
theorem dX0_wordAt_112 : decode cX0_wordAt 112 = .ok (.lload_n 3, 1) := by decide +kernel
theorem dX0_wordAt_113 : decode cX0_wordAt 113 = .ok (.ldc2_w 70, 3) := by decide +kernel
theorem dX0_wordAt_116 : decode cX0_wordAt 116 = .ok (.land, 1) := by decide +kernel
theorem dX0_wordAt_117 : decode cX0_wordAt 117 = .ok (.lreturn, 1) := by decide +kernel
theorem dX1_init_0 : decode cX1_init 0 = .ok (.aload_n 0, 1) := by decide +kernel
theorem dX1_init_1 : decode cX1_init 1 = .ok (.invokespecial 3, 3) := by decide +kernel
theorem dX1_init_4 : decode cX1_init 4 = .ok (.aload_n 0, 1) := by decide +kernel
theorem dX1_init_5 : decode cX1_init 5 = .ok (.iconst 4, 1) := by decide +kernel
theorem dX1_init_6 : decode cX1_init 6 = .ok (.newarray .int, 2) := by decide +kernel
theorem dX1_init_8 : decode cX1_init 8 = .ok (.putfield 9, 3) := by decide +kernel
theorem dX1_init_11 : decode cX1_init 11 = .ok (.aload_n 0, 1) := by decide +kernel
theorem dX1_init_12 : decode cX1_init 12 = .ok (.iconst 4, 1) := by decide +kernel
theorem dX1_init_13 : decode cX1_init 13 = .ok (.newarray .int, 2) := by decide +kernel
theorem dX1_init_15 : decode cX1_init 15 = .ok (.putfield 15, 3) := by decide +kernel
theorem dX1_init_18 : decode cX1_init 18 = .ok (.return_, 1) := by decide +kernel
theorem dX1_placeOf_0 : decode cX1_placeOf 0 = .ok (.iconst 0, 1) := by decide +kernel
theorem dX1_placeOf_1 : decode cX1_placeOf 1 = .ok (.istore_n 3, 1) := by decide +kernel
theorem dX1_placeOf_2 : decode cX1_placeOf 2 = .ok (.iload_n 3, 1) := by decide +kernel
theorem dX1_placeOf_3 : decode cX1_placeOf 3 = .ok (.aload_n 0, 1) := by decide +kernel
theorem dX1_placeOf_4 : decode cX1_placeOf 4 = .ok (.getfield 18, 3) := by decide +kernel
theorem dX1_placeOf_7 : decode cX1_placeOf 7 = .ok (.if_icmp .ge 31, 3) := by decide +kernel
theorem dX1_placeOf_10 : decode cX1_placeOf 10 = .ok (.aload_n 0, 1) := by decide +kernel
theorem dX1_placeOf_11 : decode cX1_placeOf 11 = .ok (.getfield 9, 3) := by decide +kernel
theorem dX1_placeOf_14 : decode cX1_placeOf 14 = .ok (.iload_n 3, 1) := by decide +kernel
theorem dX1_placeOf_15 : decode cX1_placeOf 15 = .ok (.iaload, 1) := by decide +kernel
theorem dX1_placeOf_16 : decode cX1_placeOf 16 = .ok (.iload_n 1, 1) := by decide +kernel
theorem dX1_placeOf_17 : decode cX1_placeOf 17 = .ok (.if_icmp .ne 15, 3) := by decide +kernel
theorem dX1_placeOf_20 : decode cX1_placeOf 20 = .ok (.aload_n 0, 1) := by decide +kernel
theorem dX1_placeOf_21 : decode cX1_placeOf 21 = .ok (.getfield 15, 3) := by decide +kernel
theorem dX1_placeOf_24 : decode cX1_placeOf 24 = .ok (.iload_n 3, 1) := by decide +kernel
theorem dX1_placeOf_25 : decode cX1_placeOf 25 = .ok (.iaload, 1) := by decide +kernel
theorem dX1_placeOf_26 : decode cX1_placeOf 26 = .ok (.iload_n 2, 1) := by decide +kernel
theorem dX1_placeOf_27 : decode cX1_placeOf 27 = .ok (.if_icmp .ne 5, 3) := by decide +kernel
theorem dX1_placeOf_30 : decode cX1_placeOf 30 = .ok (.iload_n 3, 1) := by decide +kernel
theorem dX1_placeOf_31 : decode cX1_placeOf 31 = .ok (.ireturn, 1) := by decide +kernel
theorem dX1_placeOf_32 : decode cX1_placeOf 32 = .ok (.iinc 3 1, 3) := by decide +kernel
theorem dX1_placeOf_35 : decode cX1_placeOf 35 = .ok (.goto (-33), 3) := by decide +kernel
theorem dX1_placeOf_38 : decode cX1_placeOf 38 = .ok (.iconst (-1), 1) := by decide +kernel
theorem dX1_placeOf_39 : decode cX1_placeOf 39 = .ok (.ireturn, 1) := by decide +kernel
theorem dX1_look_0 : decode cX1_look 0 = .ok (.aload_n 0, 1) := by decide +kernel
theorem dX1_look_1 : decode cX1_look 1 = .ok (.iload_n 1, 1) := by decide +kernel
theorem dX1_look_2 : decode cX1_look 2 = .ok (.iload_n 2, 1) := by decide +kernel
theorem dX1_look_3 : decode cX1_look 3 = .ok (.invokevirtual 22, 3) := by decide +kernel
theorem dX1_look_6 : decode cX1_look 6 = .ok (.istore_n 3, 1) := by decide +kernel
theorem dX1_look_7 : decode cX1_look 7 = .ok (.iload_n 3, 1) := by decide +kernel
theorem dX1_look_8 : decode cX1_look 8 = .ok (.iconst (-1), 1) := by decide +kernel
theorem dX1_look_9 : decode cX1_look 9 = .ok (.if_icmp .eq 16, 3) := by decide +kernel
theorem dX1_look_12 : decode cX1_look 12 = .ok (.aload_n 0, 1) := by decide +kernel
theorem dX1_look_13 : decode cX1_look 13 = .ok (.dup, 1) := by decide +kernel
theorem dX1_look_14 : decode cX1_look 14 = .ok (.getfield 26, 3) := by decide +kernel
theorem dX1_look_17 : decode cX1_look 17 = .ok (.iconst 1, 1) := by decide +kernel
theorem dX1_look_18 : decode cX1_look 18 = .ok (.iadd, 1) := by decide +kernel
theorem dX1_look_19 : decode cX1_look 19 = .ok (.putfield 26, 3) := by decide +kernel
theorem dX1_look_22 : decode cX1_look 22 = .ok (.goto 34, 3) := by decide +kernel
theorem dX1_look_25 : decode cX1_look 25 = .ok (.aload_n 0, 1) := by decide +kernel
theorem dX1_look_26 : decode cX1_look 26 = .ok (.dup, 1) := by decide +kernel
theorem dX1_look_27 : decode cX1_look 27 = .ok (.getfield 29, 3) := by decide +kernel
theorem dX1_look_30 : decode cX1_look 30 = .ok (.iconst 1, 1) := by decide +kernel
theorem dX1_look_31 : decode cX1_look 31 = .ok (.iadd, 1) := by decide +kernel
theorem dX1_look_32 : decode cX1_look 32 = .ok (.putfield 29, 3) := by decide +kernel
theorem dX1_look_35 : decode cX1_look 35 = .ok (.aload_n 0, 1) := by decide +kernel
theorem dX1_look_36 : decode cX1_look 36 = .ok (.aload_n 0, 1) := by decide +kernel
theorem dX1_look_37 : decode cX1_look 37 = .ok (.getfield 18, 3) := by decide +kernel
theorem dX1_look_40 : decode cX1_look 40 = .ok (.iconst 1, 1) := by decide +kernel
theorem dX1_look_41 : decode cX1_look 41 = .ok (.iadd, 1) := by decide +kernel
theorem dX1_look_42 : decode cX1_look 42 = .ok (.iconst 4, 1) := by decide +kernel
theorem dX1_look_43 : decode cX1_look 43 = .ok (.invokestatic 32, 3) := by decide +kernel
theorem dX1_look_46 : decode cX1_look 46 = .ok (.putfield 18, 3) := by decide +kernel
theorem dX1_look_49 : decode cX1_look 49 = .ok (.aload_n 0, 1) := by decide +kernel
theorem dX1_look_50 : decode cX1_look 50 = .ok (.getfield 18, 3) := by decide +kernel
theorem dX1_look_53 : decode cX1_look 53 = .ok (.iconst 1, 1) := by decide +kernel
theorem dX1_look_54 : decode cX1_look 54 = .ok (.isub, 1) := by decide +kernel
theorem dX1_look_55 : decode cX1_look 55 = .ok (.istore_n 3, 1) := by decide +kernel
theorem dX1_look_56 : decode cX1_look 56 = .ok (.aload_n 0, 1) := by decide +kernel
theorem dX1_look_57 : decode cX1_look 57 = .ok (.getfield 9, 3) := by decide +kernel
theorem dX1_look_60 : decode cX1_look 60 = .ok (.iconst 0, 1) := by decide +kernel
theorem dX1_look_61 : decode cX1_look 61 = .ok (.aload_n 0, 1) := by decide +kernel
theorem dX1_look_62 : decode cX1_look 62 = .ok (.getfield 9, 3) := by decide +kernel
theorem dX1_look_65 : decode cX1_look 65 = .ok (.iconst 1, 1) := by decide +kernel
theorem dX1_look_66 : decode cX1_look 66 = .ok (.iload_n 3, 1) := by decide +kernel
theorem dX1_look_67 : decode cX1_look 67 = .ok (.invokestatic 37, 3) := by decide +kernel
theorem dX1_look_70 : decode cX1_look 70 = .ok (.aload_n 0, 1) := by decide +kernel
theorem dX1_look_71 : decode cX1_look 71 = .ok (.getfield 15, 3) := by decide +kernel
theorem dX1_look_74 : decode cX1_look 74 = .ok (.iconst 0, 1) := by decide +kernel
theorem dX1_look_75 : decode cX1_look 75 = .ok (.aload_n 0, 1) := by decide +kernel
theorem dX1_look_76 : decode cX1_look 76 = .ok (.getfield 15, 3) := by decide +kernel
theorem dX1_look_79 : decode cX1_look 79 = .ok (.iconst 1, 1) := by decide +kernel
theorem dX1_look_80 : decode cX1_look 80 = .ok (.iload_n 3, 1) := by decide +kernel
theorem dX1_look_81 : decode cX1_look 81 = .ok (.invokestatic 37, 3) := by decide +kernel
theorem dX1_look_84 : decode cX1_look 84 = .ok (.aload_n 0, 1) := by decide +kernel
theorem dX1_look_85 : decode cX1_look 85 = .ok (.getfield 9, 3) := by decide +kernel
theorem dX1_look_88 : decode cX1_look 88 = .ok (.iconst 0, 1) := by decide +kernel
theorem dX1_look_89 : decode cX1_look 89 = .ok (.iload_n 1, 1) := by decide +kernel
theorem dX1_look_90 : decode cX1_look 90 = .ok (.iastore, 1) := by decide +kernel
theorem dX1_look_91 : decode cX1_look 91 = .ok (.aload_n 0, 1) := by decide +kernel
theorem dX1_look_92 : decode cX1_look 92 = .ok (.getfield 15, 3) := by decide +kernel
theorem dX1_look_95 : decode cX1_look 95 = .ok (.iconst 0, 1) := by decide +kernel
theorem dX1_look_96 : decode cX1_look 96 = .ok (.iload_n 2, 1) := by decide +kernel
theorem dX1_look_97 : decode cX1_look 97 = .ok (.iastore, 1) := by decide +kernel
theorem dX1_look_98 : decode cX1_look 98 = .ok (.return_, 1) := by decide +kernel
theorem dX1_forget_0 : decode cX1_forget 0 = .ok (.iconst 0, 1) := by decide +kernel
theorem dX1_forget_1 : decode cX1_forget 1 = .ok (.istore_n 2, 1) := by decide +kernel
theorem dX1_forget_2 : decode cX1_forget 2 = .ok (.iconst 0, 1) := by decide +kernel
theorem dX1_forget_3 : decode cX1_forget 3 = .ok (.istore_n 3, 1) := by decide +kernel
theorem dX1_forget_4 : decode cX1_forget 4 = .ok (.iload_n 3, 1) := by decide +kernel
theorem dX1_forget_5 : decode cX1_forget 5 = .ok (.aload_n 0, 1) := by decide +kernel
theorem dX1_forget_6 : decode cX1_forget 6 = .ok (.getfield 18, 3) := by decide +kernel
theorem dX1_forget_9 : decode cX1_forget 9 = .ok (.if_icmp .ge 46, 3) := by decide +kernel
theorem dX1_forget_12 : decode cX1_forget 12 = .ok (.aload_n 0, 1) := by decide +kernel
theorem dX1_forget_13 : decode cX1_forget 13 = .ok (.getfield 9, 3) := by decide +kernel
theorem dX1_forget_16 : decode cX1_forget 16 = .ok (.iload_n 3, 1) := by decide +kernel
theorem dX1_forget_17 : decode cX1_forget 17 = .ok (.iaload, 1) := by decide +kernel
theorem dX1_forget_18 : decode cX1_forget 18 = .ok (.iload_n 1, 1) := by decide +kernel
theorem dX1_forget_19 : decode cX1_forget 19 = .ok (.if_icmp .eq 30, 3) := by decide +kernel
theorem dX1_forget_22 : decode cX1_forget 22 = .ok (.aload_n 0, 1) := by decide +kernel
theorem dX1_forget_23 : decode cX1_forget 23 = .ok (.getfield 9, 3) := by decide +kernel
theorem dX1_forget_26 : decode cX1_forget 26 = .ok (.iload_n 2, 1) := by decide +kernel
theorem dX1_forget_27 : decode cX1_forget 27 = .ok (.aload_n 0, 1) := by decide +kernel
theorem dX1_forget_28 : decode cX1_forget 28 = .ok (.getfield 9, 3) := by decide +kernel
theorem dX1_forget_31 : decode cX1_forget 31 = .ok (.iload_n 3, 1) := by decide +kernel
theorem dX1_forget_32 : decode cX1_forget 32 = .ok (.iaload, 1) := by decide +kernel
theorem dX1_forget_33 : decode cX1_forget 33 = .ok (.iastore, 1) := by decide +kernel
theorem dX1_forget_34 : decode cX1_forget 34 = .ok (.aload_n 0, 1) := by decide +kernel
theorem dX1_forget_35 : decode cX1_forget 35 = .ok (.getfield 15, 3) := by decide +kernel
theorem dX1_forget_38 : decode cX1_forget 38 = .ok (.iload_n 2, 1) := by decide +kernel
theorem dX1_forget_39 : decode cX1_forget 39 = .ok (.aload_n 0, 1) := by decide +kernel
theorem dX1_forget_40 : decode cX1_forget 40 = .ok (.getfield 15, 3) := by decide +kernel
theorem dX1_forget_43 : decode cX1_forget 43 = .ok (.iload_n 3, 1) := by decide +kernel
theorem dX1_forget_44 : decode cX1_forget 44 = .ok (.iaload, 1) := by decide +kernel
theorem dX1_forget_45 : decode cX1_forget 45 = .ok (.iastore, 1) := by decide +kernel
theorem dX1_forget_46 : decode cX1_forget 46 = .ok (.iinc 2 1, 3) := by decide +kernel
theorem dX1_forget_49 : decode cX1_forget 49 = .ok (.iinc 3 1, 3) := by decide +kernel
theorem dX1_forget_52 : decode cX1_forget 52 = .ok (.goto (-48), 3) := by decide +kernel
theorem dX1_forget_55 : decode cX1_forget 55 = .ok (.aload_n 0, 1) := by decide +kernel
theorem dX1_forget_56 : decode cX1_forget 56 = .ok (.iload_n 2, 1) := by decide +kernel
theorem dX1_forget_57 : decode cX1_forget 57 = .ok (.putfield 18, 3) := by decide +kernel
theorem dX1_forget_60 : decode cX1_forget 60 = .ok (.return_, 1) := by decide +kernel
theorem dX1_forgetAll_0 : decode cX1_forgetAll 0 = .ok (.aload_n 0, 1) := by decide +kernel
theorem dX1_forgetAll_1 : decode cX1_forgetAll 1 = .ok (.iconst 0, 1) := by decide +kernel
theorem dX1_forgetAll_2 : decode cX1_forgetAll 2 = .ok (.putfield 18, 3) := by decide +kernel
theorem dX1_forgetAll_5 : decode cX1_forgetAll 5 = .ok (.return_, 1) := by decide +kernel
theorem dX2_init_0 : decode cX2_init 0 = .ok (.aload_n 0, 1) := by decide +kernel
theorem dX2_init_1 : decode cX2_init 1 = .ok (.invokespecial 3, 3) := by decide +kernel
theorem dX2_init_4 : decode cX2_init 4 = .ok (.aload_n 0, 1) := by decide +kernel
theorem dX2_init_5 : decode cX2_init 5 = .ok (.new 9, 3) := by decide +kernel
theorem dX2_init_8 : decode cX2_init 8 = .ok (.dup, 1) := by decide +kernel
theorem dX2_init_9 : decode cX2_init 9 = .ok (.sipush 200, 3) := by decide +kernel
theorem dX2_init_12 : decode cX2_init 12 = .ok (.invokespecial 11, 3) := by decide +kernel
theorem dX2_init_15 : decode cX2_init 15 = .ok (.putfield 14, 3) := by decide +kernel
theorem dX2_init_18 : decode cX2_init 18 = .ok (.aload_n 0, 1) := by decide +kernel
theorem dX2_init_19 : decode cX2_init 19 = .ok (.sipush 200, 3) := by decide +kernel
theorem dX2_init_22 : decode cX2_init 22 = .ok (.newarray .int, 2) := by decide +kernel
theorem dX2_init_24 : decode cX2_init 24 = .ok (.putfield 20, 3) := by decide +kernel
theorem dX2_init_27 : decode cX2_init 27 = .ok (.return_, 1) := by decide +kernel
theorem dX2_startOf_0 : decode cX2_startOf 0 = .ok (.iload_n 1, 1) := by decide +kernel
theorem dX2_startOf_1 : decode cX2_startOf 1 = .ok (.ifCond .lt 20, 3) := by decide +kernel
theorem dX2_startOf_4 : decode cX2_startOf 4 = .ok (.iload_n 1, 1) := by decide +kernel
theorem dX2_startOf_5 : decode cX2_startOf 5 = .ok (.aload_n 0, 1) := by decide +kernel
theorem dX2_startOf_6 : decode cX2_startOf 6 = .ok (.getfield 24, 3) := by decide +kernel
theorem dX2_startOf_9 : decode cX2_startOf 9 = .ok (.if_icmp .ge 12, 3) := by decide +kernel
theorem dX2_startOf_12 : decode cX2_startOf 12 = .ok (.aload_n 0, 1) := by decide +kernel
theorem dX2_startOf_13 : decode cX2_startOf 13 = .ok (.getfield 20, 3) := by decide +kernel
theorem dX2_startOf_16 : decode cX2_startOf 16 = .ok (.iload_n 1, 1) := by decide +kernel
theorem dX2_startOf_17 : decode cX2_startOf 17 = .ok (.iaload, 1) := by decide +kernel
theorem dX2_startOf_18 : decode cX2_startOf 18 = .ok (.goto 10, 3) := by decide +kernel
theorem dX2_startOf_21 : decode cX2_startOf 21 = .ok (.aload_n 0, 1) := by decide +kernel
theorem dX2_startOf_22 : decode cX2_startOf 22 = .ok (.getfield 14, 3) := by decide +kernel
theorem dX2_startOf_25 : decode cX2_startOf 25 = .ok (.getfield 28, 3) := by decide +kernel
theorem dX2_startOf_28 : decode cX2_startOf 28 = .ok (.ireturn, 1) := by decide +kernel
theorem dX2_makeEmpty_0 : decode cX2_makeEmpty 0 = .ok (.aload_n 0, 1) := by decide +kernel
theorem dX2_makeEmpty_1 : decode cX2_makeEmpty 1 = .ok (.getfield 14, 3) := by decide +kernel
theorem dX2_makeEmpty_4 : decode cX2_makeEmpty 4 = .ok (.iconst 0, 1) := by decide +kernel
theorem dX2_makeEmpty_5 : decode cX2_makeEmpty 5 = .ok (.putfield 28, 3) := by decide +kernel
theorem dX2_makeEmpty_8 : decode cX2_makeEmpty 8 = .ok (.aload_n 0, 1) := by decide +kernel
theorem dX2_makeEmpty_9 : decode cX2_makeEmpty 9 = .ok (.iconst 0, 1) := by decide +kernel
theorem dX2_makeEmpty_10 : decode cX2_makeEmpty 10 = .ok (.putfield 24, 3) := by decide +kernel
theorem dX2_makeEmpty_13 : decode cX2_makeEmpty 13 = .ok (.return_, 1) := by decide +kernel
theorem dX2_copyFrom_0 : decode cX2_copyFrom 0 = .ok (.aload_n 0, 1) := by decide +kernel
theorem dX2_copyFrom_1 : decode cX2_copyFrom 1 = .ok (.getfield 14, 3) := by decide +kernel
theorem dX2_copyFrom_4 : decode cX2_copyFrom 4 = .ok (.aload_n 1, 1) := by decide +kernel
theorem dX2_copyFrom_5 : decode cX2_copyFrom 5 = .ok (.getfield 14, 3) := by decide +kernel
theorem dX2_copyFrom_8 : decode cX2_copyFrom 8 = .ok (.invokevirtual 31, 3) := by decide +kernel
theorem dX2_copyFrom_11 : decode cX2_copyFrom 11 = .ok (.aload_n 0, 1) := by decide +kernel
theorem dX2_copyFrom_12 : decode cX2_copyFrom 12 = .ok (.aload_n 1, 1) := by decide +kernel
theorem dX2_copyFrom_13 : decode cX2_copyFrom 13 = .ok (.getfield 24, 3) := by decide +kernel
theorem dX2_copyFrom_16 : decode cX2_copyFrom 16 = .ok (.putfield 24, 3) := by decide +kernel
theorem dX2_copyFrom_19 : decode cX2_copyFrom 19 = .ok (.aload_n 1, 1) := by decide +kernel
theorem dX2_copyFrom_20 : decode cX2_copyFrom 20 = .ok (.getfield 20, 3) := by decide +kernel
theorem dX2_copyFrom_23 : decode cX2_copyFrom 23 = .ok (.iconst 0, 1) := by decide +kernel
theorem dX2_copyFrom_24 : decode cX2_copyFrom 24 = .ok (.aload_n 0, 1) := by decide +kernel
theorem dX2_copyFrom_25 : decode cX2_copyFrom 25 = .ok (.getfield 20, 3) := by decide +kernel
theorem dX2_copyFrom_28 : decode cX2_copyFrom 28 = .ok (.iconst 0, 1) := by decide +kernel
theorem dX2_copyFrom_29 : decode cX2_copyFrom 29 = .ok (.aload_n 0, 1) := by decide +kernel
theorem dX2_copyFrom_30 : decode cX2_copyFrom 30 = .ok (.getfield 24, 3) := by decide +kernel
theorem dX2_copyFrom_33 : decode cX2_copyFrom 33 = .ok (.invokestatic 35, 3) := by decide +kernel
theorem dX2_copyFrom_36 : decode cX2_copyFrom 36 = .ok (.return_, 1) := by decide +kernel
theorem dX2_startBlock_0 : decode cX2_startBlock 0 = .ok (.aload_n 0, 1) := by decide +kernel
theorem dX2_startBlock_1 : decode cX2_startBlock 1 = .ok (.getfield 24, 3) := by decide +kernel
theorem dX2_startBlock_4 : decode cX2_startBlock 4 = .ok (.aload_n 0, 1) := by decide +kernel
theorem dX2_startBlock_5 : decode cX2_startBlock 5 = .ok (.getfield 20, 3) := by decide +kernel
theorem dX2_startBlock_8 : decode cX2_startBlock 8 = .ok (.arraylength, 1) := by decide +kernel
theorem dX2_startBlock_9 : decode cX2_startBlock 9 = .ok (.if_icmp .ge 23, 3) := by decide +kernel
theorem dX2_startBlock_12 : decode cX2_startBlock 12 = .ok (.aload_n 0, 1) := by decide +kernel
theorem dX2_startBlock_13 : decode cX2_startBlock 13 = .ok (.getfield 20, 3) := by decide +kernel
theorem dX2_startBlock_16 : decode cX2_startBlock 16 = .ok (.aload_n 0, 1) := by decide +kernel
theorem dX2_startBlock_17 : decode cX2_startBlock 17 = .ok (.getfield 24, 3) := by decide +kernel
theorem dX2_startBlock_20 : decode cX2_startBlock 20 = .ok (.iload_n 1, 1) := by decide +kernel
theorem dX2_startBlock_21 : decode cX2_startBlock 21 = .ok (.iastore, 1) := by decide +kernel
theorem dX2_startBlock_22 : decode cX2_startBlock 22 = .ok (.aload_n 0, 1) := by decide +kernel
theorem dX2_startBlock_23 : decode cX2_startBlock 23 = .ok (.dup, 1) := by decide +kernel
theorem dX2_startBlock_24 : decode cX2_startBlock 24 = .ok (.getfield 24, 3) := by decide +kernel
theorem dX2_startBlock_27 : decode cX2_startBlock 27 = .ok (.iconst 1, 1) := by decide +kernel
theorem dX2_startBlock_28 : decode cX2_startBlock 28 = .ok (.iadd, 1) := by decide +kernel
theorem dX2_startBlock_29 : decode cX2_startBlock 29 = .ok (.putfield 24, 3) := by decide +kernel
theorem dX2_startBlock_32 : decode cX2_startBlock 32 = .ok (.return_, 1) := by decide +kernel
theorem dX2_cutBy_0 : decode cX2_cutBy 0 = .ok (.aload_n 0, 1) := by decide +kernel
theorem dX2_cutBy_1 : decode cX2_cutBy 1 = .ok (.iconst 0, 1) := by decide +kernel
theorem dX2_cutBy_2 : decode cX2_cutBy 2 = .ok (.putfield 24, 3) := by decide +kernel
theorem dX2_cutBy_5 : decode cX2_cutBy 5 = .ok (.iconst 0, 1) := by decide +kernel
theorem dX2_cutBy_6 : decode cX2_cutBy 6 = .ok (.istore_n 2, 1) := by decide +kernel
theorem dX2_cutBy_7 : decode cX2_cutBy 7 = .ok (.iload_n 2, 1) := by decide +kernel
theorem dX2_cutBy_8 : decode cX2_cutBy 8 = .ok (.aload_n 0, 1) := by decide +kernel
theorem dX2_cutBy_9 : decode cX2_cutBy 9 = .ok (.getfield 14, 3) := by decide +kernel
theorem dX2_cutBy_12 : decode cX2_cutBy 12 = .ok (.getfield 28, 3) := by decide +kernel
theorem dX2_cutBy_15 : decode cX2_cutBy 15 = .ok (.if_icmp .ge 19, 3) := by decide +kernel
theorem dX2_cutBy_18 : decode cX2_cutBy 18 = .ok (.aload_n 0, 1) := by decide +kernel
theorem dX2_cutBy_19 : decode cX2_cutBy 19 = .ok (.iload_n 2, 1) := by decide +kernel
theorem dX2_cutBy_20 : decode cX2_cutBy 20 = .ok (.invokevirtual 41, 3) := by decide +kernel
theorem dX2_cutBy_23 : decode cX2_cutBy 23 = .ok (.iload_n 2, 1) := by decide +kernel
theorem dX2_cutBy_24 : decode cX2_cutBy 24 = .ok (.iconst 1, 1) := by decide +kernel
theorem dX2_cutBy_25 : decode cX2_cutBy 25 = .ok (.iload_n 1, 1) := by decide +kernel
theorem dX2_cutBy_26 : decode cX2_cutBy 26 = .ok (.invokestatic 44, 3) := by decide +kernel
theorem dX2_cutBy_29 : decode cX2_cutBy 29 = .ok (.iadd, 1) := by decide +kernel
theorem dX2_cutBy_30 : decode cX2_cutBy 30 = .ok (.istore_n 2, 1) := by decide +kernel
theorem dX2_cutBy_31 : decode cX2_cutBy 31 = .ok (.goto (-24), 3) := by decide +kernel
theorem dX2_cutBy_34 : decode cX2_cutBy 34 = .ok (.return_, 1) := by decide +kernel
theorem dX2_lastBlockUpTo_0 : decode cX2_lastBlockUpTo 0 = .ok (.iconst (-1), 1) := by decide +kernel
theorem dX2_lastBlockUpTo_1 : decode cX2_lastBlockUpTo 1 = .ok (.istore_n 2, 1) := by decide +kernel
theorem dX2_lastBlockUpTo_2 : decode cX2_lastBlockUpTo 2 = .ok (.aload_n 0, 1) := by decide +kernel
theorem dX2_lastBlockUpTo_3 : decode cX2_lastBlockUpTo 3 = .ok (.getfield 24, 3) := by decide +kernel
theorem dX2_lastBlockUpTo_6 : decode cX2_lastBlockUpTo 6 = .ok (.istore_n 3, 1) := by decide +kernel
theorem dX2_lastBlockUpTo_7 : decode cX2_lastBlockUpTo 7 = .ok (.iload_n 2, 1) := by decide +kernel
theorem dX2_lastBlockUpTo_8 : decode cX2_lastBlockUpTo 8 = .ok (.iconst 1, 1) := by decide +kernel
theorem dX2_lastBlockUpTo_9 : decode cX2_lastBlockUpTo 9 = .ok (.iadd, 1) := by decide +kernel
theorem dX2_lastBlockUpTo_10 : decode cX2_lastBlockUpTo 10 = .ok (.iload_n 3, 1) := by decide +kernel
theorem dX2_lastBlockUpTo_11 : decode cX2_lastBlockUpTo 11 = .ok (.if_icmp .ge 39, 3) := by decide +kernel
theorem dX2_lastBlockUpTo_14 : decode cX2_lastBlockUpTo 14 = .ok (.iload_n 2, 1) := by decide +kernel
theorem dX2_lastBlockUpTo_15 : decode cX2_lastBlockUpTo 15 = .ok (.iload_n 3, 1) := by decide +kernel
theorem dX2_lastBlockUpTo_16 : decode cX2_lastBlockUpTo 16 = .ok (.iadd, 1) := by decide +kernel
theorem dX2_lastBlockUpTo_17 : decode cX2_lastBlockUpTo 17 = .ok (.iconst 2, 1) := by decide +kernel
theorem dX2_lastBlockUpTo_18 : decode cX2_lastBlockUpTo 18 = .ok (.idiv, 1) := by decide +kernel
theorem dX2_lastBlockUpTo_19 : decode cX2_lastBlockUpTo 19 = .ok (.istore 4, 2) := by decide +kernel
theorem dX2_lastBlockUpTo_21 : decode cX2_lastBlockUpTo 21 = .ok (.aload_n 0, 1) := by decide +kernel
theorem dX2_lastBlockUpTo_22 : decode cX2_lastBlockUpTo 22 = .ok (.getfield 14, 3) := by decide +kernel
theorem dX2_lastBlockUpTo_25 : decode cX2_lastBlockUpTo 25 = .ok (.aload_n 0, 1) := by decide +kernel
theorem dX2_lastBlockUpTo_26 : decode cX2_lastBlockUpTo 26 = .ok (.iload 4, 2) := by decide +kernel
theorem dX2_lastBlockUpTo_28 : decode cX2_lastBlockUpTo 28 = .ok (.invokevirtual 50, 3) := by decide +kernel
theorem dX2_lastBlockUpTo_31 : decode cX2_lastBlockUpTo 31 = .ok (.invokevirtual 54, 3) := by decide +kernel
theorem dX2_lastBlockUpTo_34 : decode cX2_lastBlockUpTo 34 = .ok (.iload_n 1, 1) := by decide +kernel
theorem dX2_lastBlockUpTo_35 : decode cX2_lastBlockUpTo 35 = .ok (.if_icmp .gt 9, 3) := by decide +kernel
theorem dX2_lastBlockUpTo_38 : decode cX2_lastBlockUpTo 38 = .ok (.iload 4, 2) := by decide +kernel
theorem dX2_lastBlockUpTo_40 : decode cX2_lastBlockUpTo 40 = .ok (.istore_n 2, 1) := by decide +kernel
theorem dX2_lastBlockUpTo_41 : decode cX2_lastBlockUpTo 41 = .ok (.goto 6, 3) := by decide +kernel
theorem dX2_lastBlockUpTo_44 : decode cX2_lastBlockUpTo 44 = .ok (.iload 4, 2) := by decide +kernel
theorem dX2_lastBlockUpTo_46 : decode cX2_lastBlockUpTo 46 = .ok (.istore_n 3, 1) := by decide +kernel
theorem dX2_lastBlockUpTo_47 : decode cX2_lastBlockUpTo 47 = .ok (.goto (-40), 3) := by decide +kernel
theorem dX2_lastBlockUpTo_50 : decode cX2_lastBlockUpTo 50 = .ok (.iload_n 2, 1) := by decide +kernel
theorem dX2_lastBlockUpTo_51 : decode cX2_lastBlockUpTo 51 = .ok (.ireturn, 1) := by decide +kernel
theorem dX2_insert_0 : decode cX2_insert 0 = .ok (.iconst 0, 1) := by decide +kernel
theorem dX2_insert_1 : decode cX2_insert 1 = .ok (.aload_n 0, 1) := by decide +kernel
theorem dX2_insert_2 : decode cX2_insert 2 = .ok (.iload_n 1, 1) := by decide +kernel
theorem dX2_insert_3 : decode cX2_insert 3 = .ok (.invokevirtual 57, 3) := by decide +kernel
theorem dX2_insert_6 : decode cX2_insert 6 = .ok (.invokestatic 44, 3) := by decide +kernel
theorem dX2_insert_9 : decode cX2_insert 9 = .ok (.istore_n 2, 1) := by decide +kernel
theorem dX2_insert_10 : decode cX2_insert 10 = .ok (.aload_n 0, 1) := by decide +kernel
theorem dX2_insert_11 : decode cX2_insert 11 = .ok (.getfield 24, 3) := by decide +kernel
theorem dX2_insert_14 : decode cX2_insert 14 = .ok (.ifCond .ne 8, 3) := by decide +kernel
theorem dX2_insert_17 : decode cX2_insert 17 = .ok (.aload_n 0, 1) := by decide +kernel
theorem dX2_insert_18 : decode cX2_insert 18 = .ok (.iconst 0, 1) := by decide +kernel
theorem dX2_insert_19 : decode cX2_insert 19 = .ok (.invokevirtual 41, 3) := by decide +kernel
theorem dX2_insert_22 : decode cX2_insert 22 = .ok (.aload_n 0, 1) := by decide +kernel
theorem dX2_insert_23 : decode cX2_insert 23 = .ok (.getfield 14, 3) := by decide +kernel
theorem dX2_insert_26 : decode cX2_insert 26 = .ok (.iload_n 1, 1) := by decide +kernel
theorem dX2_insert_27 : decode cX2_insert 27 = .ok (.invokevirtual 60, 3) := by decide +kernel
theorem dX2_insert_30 : decode cX2_insert 30 = .ok (.istore_n 3, 1) := by decide +kernel
theorem dX2_insert_31 : decode cX2_insert 31 = .ok (.aload_n 0, 1) := by decide +kernel
theorem dX2_insert_32 : decode cX2_insert 32 = .ok (.iload_n 2, 1) := by decide +kernel
theorem dX2_insert_33 : decode cX2_insert 33 = .ok (.iconst 1, 1) := by decide +kernel
theorem dX2_insert_34 : decode cX2_insert 34 = .ok (.iadd, 1) := by decide +kernel
theorem dX2_insert_35 : decode cX2_insert 35 = .ok (.iconst 1, 1) := by decide +kernel
theorem dX2_insert_36 : decode cX2_insert 36 = .ok (.invokevirtual 63, 3) := by decide +kernel
theorem dX2_insert_39 : decode cX2_insert 39 = .ok (.aload_n 0, 1) := by decide +kernel
theorem dX2_insert_40 : decode cX2_insert 40 = .ok (.iload_n 2, 1) := by decide +kernel
theorem dX2_insert_41 : decode cX2_insert 41 = .ok (.iconst 1, 1) := by decide +kernel
theorem dX2_insert_42 : decode cX2_insert 42 = .ok (.iadd, 1) := by decide +kernel
theorem dX2_insert_43 : decode cX2_insert 43 = .ok (.invokevirtual 50, 3) := by decide +kernel
theorem dX2_insert_46 : decode cX2_insert 46 = .ok (.aload_n 0, 1) := by decide +kernel
theorem dX2_insert_47 : decode cX2_insert 47 = .ok (.iload_n 2, 1) := by decide +kernel
theorem dX2_insert_48 : decode cX2_insert 48 = .ok (.invokevirtual 50, 3) := by decide +kernel
theorem dX2_insert_51 : decode cX2_insert 51 = .ok (.isub, 1) := by decide +kernel
theorem dX2_insert_52 : decode cX2_insert 52 = .ok (.bipush 64, 2) := by decide +kernel
theorem dX2_insert_54 : decode cX2_insert 54 = .ok (.if_icmp .le 16, 3) := by decide +kernel
theorem dX2_insert_57 : decode cX2_insert 57 = .ok (.aload_n 0, 1) := by decide +kernel
theorem dX2_insert_58 : decode cX2_insert 58 = .ok (.iload_n 2, 1) := by decide +kernel
theorem dX2_insert_59 : decode cX2_insert 59 = .ok (.aload_n 0, 1) := by decide +kernel
theorem dX2_insert_60 : decode cX2_insert 60 = .ok (.iload_n 2, 1) := by decide +kernel
theorem dX2_insert_61 : decode cX2_insert 61 = .ok (.invokevirtual 50, 3) := by decide +kernel
theorem dX2_insert_64 : decode cX2_insert 64 = .ok (.bipush 32, 2) := by decide +kernel
theorem dX2_insert_66 : decode cX2_insert 66 = .ok (.iadd, 1) := by decide +kernel
theorem dX2_insert_67 : decode cX2_insert 67 = .ok (.invokevirtual 67, 3) := by decide +kernel
theorem dX2_insert_70 : decode cX2_insert 70 = .ok (.iload_n 3, 1) := by decide +kernel
theorem dX2_insert_71 : decode cX2_insert 71 = .ok (.ireturn, 1) := by decide +kernel
theorem dX2_delete_0 : decode cX2_delete 0 = .ok (.aload_n 0, 1) := by decide +kernel
theorem dX2_delete_1 : decode cX2_delete 1 = .ok (.iload_n 1, 1) := by decide +kernel
theorem dX2_delete_2 : decode cX2_delete 2 = .ok (.invokevirtual 57, 3) := by decide +kernel
theorem dX2_delete_5 : decode cX2_delete 5 = .ok (.istore_n 2, 1) := by decide +kernel
theorem dX2_delete_6 : decode cX2_delete 6 = .ok (.aload_n 0, 1) := by decide +kernel
theorem dX2_delete_7 : decode cX2_delete 7 = .ok (.getfield 14, 3) := by decide +kernel
theorem dX2_delete_10 : decode cX2_delete 10 = .ok (.iload_n 1, 1) := by decide +kernel
theorem dX2_delete_11 : decode cX2_delete 11 = .ok (.invokevirtual 70, 3) := by decide +kernel
theorem dX2_delete_14 : decode cX2_delete 14 = .ok (.istore_n 3, 1) := by decide +kernel
theorem dX2_delete_15 : decode cX2_delete 15 = .ok (.iload_n 2, 1) := by decide +kernel
theorem dX2_delete_16 : decode cX2_delete 16 = .ok (.iconst (-1), 1) := by decide +kernel
theorem dX2_delete_17 : decode cX2_delete 17 = .ok (.if_icmp .eq 31, 3) := by decide +kernel
theorem dX2_delete_20 : decode cX2_delete 20 = .ok (.aload_n 0, 1) := by decide +kernel
theorem dX2_delete_21 : decode cX2_delete 21 = .ok (.iload_n 2, 1) := by decide +kernel
theorem dX2_delete_22 : decode cX2_delete 22 = .ok (.iconst 1, 1) := by decide +kernel
theorem dX2_delete_23 : decode cX2_delete 23 = .ok (.iadd, 1) := by decide +kernel
theorem dX2_delete_24 : decode cX2_delete 24 = .ok (.iconst (-1), 1) := by decide +kernel
theorem dX2_delete_25 : decode cX2_delete 25 = .ok (.invokevirtual 63, 3) := by decide +kernel
theorem dX2_delete_28 : decode cX2_delete 28 = .ok (.aload_n 0, 1) := by decide +kernel
theorem dX2_delete_29 : decode cX2_delete 29 = .ok (.iload_n 2, 1) := by decide +kernel
theorem dX2_delete_30 : decode cX2_delete 30 = .ok (.iconst 1, 1) := by decide +kernel
theorem dX2_delete_31 : decode cX2_delete 31 = .ok (.iadd, 1) := by decide +kernel
theorem dX2_delete_32 : decode cX2_delete 32 = .ok (.invokevirtual 50, 3) := by decide +kernel
theorem dX2_delete_35 : decode cX2_delete 35 = .ok (.aload_n 0, 1) := by decide +kernel
theorem dX2_delete_36 : decode cX2_delete 36 = .ok (.iload_n 2, 1) := by decide +kernel
theorem dX2_delete_37 : decode cX2_delete 37 = .ok (.invokevirtual 50, 3) := by decide +kernel
theorem dX2_delete_40 : decode cX2_delete 40 = .ok (.if_icmp .ne 8, 3) := by decide +kernel
theorem dX2_delete_43 : decode cX2_delete 43 = .ok (.aload_n 0, 1) := by decide +kernel
theorem dX2_delete_44 : decode cX2_delete 44 = .ok (.iload_n 2, 1) := by decide +kernel
theorem dX2_delete_45 : decode cX2_delete 45 = .ok (.invokevirtual 73, 3) := by decide +kernel
theorem dX2_delete_48 : decode cX2_delete 48 = .ok (.iload_n 3, 1) := by decide +kernel
theorem dX2_delete_49 : decode cX2_delete 49 = .ok (.ireturn, 1) := by decide +kernel
theorem dX2_moveStarts_0 : decode cX2_moveStarts 0 = .ok (.iload_n 1, 1) := by decide +kernel
theorem dX2_moveStarts_1 : decode cX2_moveStarts 1 = .ok (.istore_n 3, 1) := by decide +kernel
theorem dX2_moveStarts_2 : decode cX2_moveStarts 2 = .ok (.iload_n 3, 1) := by decide +kernel
theorem dX2_moveStarts_3 : decode cX2_moveStarts 3 = .ok (.aload_n 0, 1) := by decide +kernel
theorem dX2_moveStarts_4 : decode cX2_moveStarts 4 = .ok (.getfield 24, 3) := by decide +kernel
theorem dX2_moveStarts_7 : decode cX2_moveStarts 7 = .ok (.if_icmp .ge 19, 3) := by decide +kernel
theorem dX2_moveStarts_10 : decode cX2_moveStarts 10 = .ok (.aload_n 0, 1) := by decide +kernel
theorem dX2_moveStarts_11 : decode cX2_moveStarts 11 = .ok (.getfield 20, 3) := by decide +kernel
theorem dX2_moveStarts_14 : decode cX2_moveStarts 14 = .ok (.iload_n 3, 1) := by decide +kernel
theorem dX2_moveStarts_15 : decode cX2_moveStarts 15 = .ok (.dup2, 1) := by decide +kernel
theorem dX2_moveStarts_16 : decode cX2_moveStarts 16 = .ok (.iaload, 1) := by decide +kernel
theorem dX2_moveStarts_17 : decode cX2_moveStarts 17 = .ok (.iload_n 2, 1) := by decide +kernel
theorem dX2_moveStarts_18 : decode cX2_moveStarts 18 = .ok (.iadd, 1) := by decide +kernel
theorem dX2_moveStarts_19 : decode cX2_moveStarts 19 = .ok (.iastore, 1) := by decide +kernel
theorem dX2_moveStarts_20 : decode cX2_moveStarts 20 = .ok (.iinc 3 1, 3) := by decide +kernel
theorem dX2_moveStarts_23 : decode cX2_moveStarts 23 = .ok (.goto (-21), 3) := by decide +kernel
theorem dX2_moveStarts_26 : decode cX2_moveStarts 26 = .ok (.return_, 1) := by decide +kernel
theorem dX2_split_0 : decode cX2_split 0 = .ok (.aload_n 0, 1) := by decide +kernel
theorem dX2_split_1 : decode cX2_split 1 = .ok (.getfield 24, 3) := by decide +kernel
theorem dX2_split_4 : decode cX2_split 4 = .ok (.aload_n 0, 1) := by decide +kernel
theorem dX2_split_5 : decode cX2_split 5 = .ok (.getfield 20, 3) := by decide +kernel
theorem dX2_split_8 : decode cX2_split 8 = .ok (.arraylength, 1) := by decide +kernel
theorem dX2_split_9 : decode cX2_split 9 = .ok (.if_icmp .ge 47, 3) := by decide +kernel
theorem dX2_split_12 : decode cX2_split 12 = .ok (.aload_n 0, 1) := by decide +kernel
theorem dX2_split_13 : decode cX2_split 13 = .ok (.getfield 20, 3) := by decide +kernel
theorem dX2_split_16 : decode cX2_split 16 = .ok (.iload_n 1, 1) := by decide +kernel
theorem dX2_split_17 : decode cX2_split 17 = .ok (.iconst 1, 1) := by decide +kernel
theorem dX2_split_18 : decode cX2_split 18 = .ok (.iadd, 1) := by decide +kernel
theorem dX2_split_19 : decode cX2_split 19 = .ok (.aload_n 0, 1) := by decide +kernel
theorem dX2_split_20 : decode cX2_split 20 = .ok (.getfield 20, 3) := by decide +kernel
theorem dX2_split_23 : decode cX2_split 23 = .ok (.iload_n 1, 1) := by decide +kernel
theorem dX2_split_24 : decode cX2_split 24 = .ok (.iconst 2, 1) := by decide +kernel
theorem dX2_split_25 : decode cX2_split 25 = .ok (.iadd, 1) := by decide +kernel
theorem dX2_split_26 : decode cX2_split 26 = .ok (.aload_n 0, 1) := by decide +kernel
theorem dX2_split_27 : decode cX2_split 27 = .ok (.getfield 24, 3) := by decide +kernel
theorem dX2_split_30 : decode cX2_split 30 = .ok (.iload_n 1, 1) := by decide +kernel
theorem dX2_split_31 : decode cX2_split 31 = .ok (.isub, 1) := by decide +kernel
theorem dX2_split_32 : decode cX2_split 32 = .ok (.iconst 1, 1) := by decide +kernel
theorem dX2_split_33 : decode cX2_split 33 = .ok (.isub, 1) := by decide +kernel
theorem dX2_split_34 : decode cX2_split 34 = .ok (.invokestatic 35, 3) := by decide +kernel
theorem dX2_split_37 : decode cX2_split 37 = .ok (.aload_n 0, 1) := by decide +kernel
theorem dX2_split_38 : decode cX2_split 38 = .ok (.getfield 20, 3) := by decide +kernel
theorem dX2_split_41 : decode cX2_split 41 = .ok (.iload_n 1, 1) := by decide +kernel
theorem dX2_split_42 : decode cX2_split 42 = .ok (.iconst 1, 1) := by decide +kernel
theorem dX2_split_43 : decode cX2_split 43 = .ok (.iadd, 1) := by decide +kernel
theorem dX2_split_44 : decode cX2_split 44 = .ok (.iload_n 2, 1) := by decide +kernel
theorem dX2_split_45 : decode cX2_split 45 = .ok (.iastore, 1) := by decide +kernel
theorem dX2_split_46 : decode cX2_split 46 = .ok (.aload_n 0, 1) := by decide +kernel
theorem dX2_split_47 : decode cX2_split 47 = .ok (.dup, 1) := by decide +kernel
theorem dX2_split_48 : decode cX2_split 48 = .ok (.getfield 24, 3) := by decide +kernel
theorem dX2_split_51 : decode cX2_split 51 = .ok (.iconst 1, 1) := by decide +kernel
theorem dX2_split_52 : decode cX2_split 52 = .ok (.iadd, 1) := by decide +kernel
theorem dX2_split_53 : decode cX2_split 53 = .ok (.putfield 24, 3) := by decide +kernel
theorem dX2_split_56 : decode cX2_split 56 = .ok (.return_, 1) := by decide +kernel
theorem dX2_dropBlock_0 : decode cX2_dropBlock 0 = .ok (.aload_n 0, 1) := by decide +kernel
theorem dX2_dropBlock_1 : decode cX2_dropBlock 1 = .ok (.getfield 20, 3) := by decide +kernel
theorem dX2_dropBlock_4 : decode cX2_dropBlock 4 = .ok (.iload_n 1, 1) := by decide +kernel
theorem dX2_dropBlock_5 : decode cX2_dropBlock 5 = .ok (.iconst 1, 1) := by decide +kernel
theorem dX2_dropBlock_6 : decode cX2_dropBlock 6 = .ok (.iadd, 1) := by decide +kernel
theorem dX2_dropBlock_7 : decode cX2_dropBlock 7 = .ok (.aload_n 0, 1) := by decide +kernel
theorem dX2_dropBlock_8 : decode cX2_dropBlock 8 = .ok (.getfield 20, 3) := by decide +kernel
theorem dX2_dropBlock_11 : decode cX2_dropBlock 11 = .ok (.iload_n 1, 1) := by decide +kernel
theorem dX2_dropBlock_12 : decode cX2_dropBlock 12 = .ok (.aload_n 0, 1) := by decide +kernel
theorem dX2_dropBlock_13 : decode cX2_dropBlock 13 = .ok (.getfield 24, 3) := by decide +kernel
theorem dX2_dropBlock_16 : decode cX2_dropBlock 16 = .ok (.iload_n 1, 1) := by decide +kernel
theorem dX2_dropBlock_17 : decode cX2_dropBlock 17 = .ok (.isub, 1) := by decide +kernel
theorem dX2_dropBlock_18 : decode cX2_dropBlock 18 = .ok (.iconst 1, 1) := by decide +kernel
theorem dX2_dropBlock_19 : decode cX2_dropBlock 19 = .ok (.isub, 1) := by decide +kernel
theorem dX2_dropBlock_20 : decode cX2_dropBlock 20 = .ok (.invokestatic 35, 3) := by decide +kernel
theorem dX2_dropBlock_23 : decode cX2_dropBlock 23 = .ok (.aload_n 0, 1) := by decide +kernel
theorem dX2_dropBlock_24 : decode cX2_dropBlock 24 = .ok (.dup, 1) := by decide +kernel
theorem dX2_dropBlock_25 : decode cX2_dropBlock 25 = .ok (.getfield 24, 3) := by decide +kernel
theorem dX2_dropBlock_28 : decode cX2_dropBlock 28 = .ok (.iconst 1, 1) := by decide +kernel
theorem dX2_dropBlock_29 : decode cX2_dropBlock 29 = .ok (.isub, 1) := by decide +kernel
theorem dX2_dropBlock_30 : decode cX2_dropBlock 30 = .ok (.putfield 24, 3) := by decide +kernel
theorem dX2_dropBlock_33 : decode cX2_dropBlock 33 = .ok (.return_, 1) := by decide +kernel
theorem dX3_init_0 : decode cX3_init 0 = .ok (.aload_n 0, 1) := by decide +kernel
theorem dX3_init_1 : decode cX3_init 1 = .ok (.invokespecial 3, 3) := by decide +kernel
theorem dX3_init_4 : decode cX3_init 4 = .ok (.aload_n 0, 1) := by decide +kernel
theorem dX3_init_5 : decode cX3_init 5 = .ok (.new 9, 3) := by decide +kernel
theorem dX3_init_8 : decode cX3_init 8 = .ok (.dup, 1) := by decide +kernel
theorem dX3_init_9 : decode cX3_init 9 = .ok (.bipush 100, 2) := by decide +kernel
theorem dX3_init_11 : decode cX3_init 11 = .ok (.invokespecial 11, 3) := by decide +kernel
theorem dX3_init_14 : decode cX3_init 14 = .ok (.putfield 14, 3) := by decide +kernel
theorem dX3_init_17 : decode cX3_init 17 = .ok (.aload_n 0, 1) := by decide +kernel
theorem dX3_init_18 : decode cX3_init 18 = .ok (.new 9, 3) := by decide +kernel
theorem dX3_init_21 : decode cX3_init 21 = .ok (.dup, 1) := by decide +kernel
theorem dX3_init_22 : decode cX3_init 22 = .ok (.bipush 100, 2) := by decide +kernel
theorem dX3_init_24 : decode cX3_init 24 = .ok (.invokespecial 11, 3) := by decide +kernel
theorem dX3_init_27 : decode cX3_init 27 = .ok (.putfield 20, 3) := by decide +kernel
theorem dX3_init_30 : decode cX3_init 30 = .ok (.return_, 1) := by decide +kernel
theorem dX3_read_0 : decode cX3_read 0 = .ok (.aload_n 0, 1) := by decide +kernel
theorem dX3_read_1 : decode cX3_read 1 = .ok (.getfield 14, 3) := by decide +kernel
theorem dX3_read_4 : decode cX3_read 4 = .ok (.iconst 0, 1) := by decide +kernel
theorem dX3_read_5 : decode cX3_read 5 = .ok (.putfield 23, 3) := by decide +kernel
theorem dX3_read_8 : decode cX3_read 8 = .ok (.aload_n 0, 1) := by decide +kernel
theorem dX3_read_9 : decode cX3_read 9 = .ok (.getfield 20, 3) := by decide +kernel
theorem dX3_read_12 : decode cX3_read 12 = .ok (.iconst 0, 1) := by decide +kernel
theorem dX3_read_13 : decode cX3_read 13 = .ok (.putfield 23, 3) := by decide +kernel
theorem dX3_read_16 : decode cX3_read 16 = .ok (.aload_n 0, 1) := by decide +kernel
theorem dX3_read_17 : decode cX3_read 17 = .ok (.iconst 0, 1) := by decide +kernel
theorem dX3_read_18 : decode cX3_read 18 = .ok (.putfield 27, 3) := by decide +kernel
theorem dX3_read_21 : decode cX3_read 21 = .ok (.aload_n 0, 1) := by decide +kernel
theorem dX3_read_22 : decode cX3_read 22 = .ok (.iconst 1, 1) := by decide +kernel
theorem dX3_read_23 : decode cX3_read 23 = .ok (.putfield 30, 3) := by decide +kernel
theorem dX3_read_26 : decode cX3_read 26 = .ok (.iconst 0, 1) := by decide +kernel
theorem dX3_read_27 : decode cX3_read 27 = .ok (.istore_n 2, 1) := by decide +kernel
theorem dX3_read_28 : decode cX3_read 28 = .ok (.iload_n 2, 1) := by decide +kernel
theorem dX3_read_29 : decode cX3_read 29 = .ok (.aload_n 1, 1) := by decide +kernel
theorem dX3_read_30 : decode cX3_read 30 = .ok (.getfield 23, 3) := by decide +kernel
theorem dX3_read_33 : decode cX3_read 33 = .ok (.if_icmp .ge 23, 3) := by decide +kernel
theorem dX3_read_36 : decode cX3_read 36 = .ok (.aload_n 0, 1) := by decide +kernel
theorem dX3_read_37 : decode cX3_read 37 = .ok (.aload_n 1, 1) := by decide +kernel
theorem dX3_read_38 : decode cX3_read 38 = .ok (.iload_n 2, 1) := by decide +kernel
theorem dX3_read_39 : decode cX3_read 39 = .ok (.invokevirtual 34, 3) := by decide +kernel
theorem dX3_read_42 : decode cX3_read 42 = .ok (.invokevirtual 38, 3) := by decide +kernel
theorem dX3_read_45 : decode cX3_read 45 = .ok (.ifCond .ne 5, 3) := by decide +kernel
theorem dX3_read_48 : decode cX3_read 48 = .ok (.iload_n 2, 1) := by decide +kernel
theorem dX3_read_49 : decode cX3_read 49 = .ok (.ireturn, 1) := by decide +kernel
theorem dX3_read_50 : decode cX3_read 50 = .ok (.iinc 2 1, 3) := by decide +kernel
theorem dX3_read_53 : decode cX3_read 53 = .ok (.goto (-25), 3) := by decide +kernel
theorem dX3_read_56 : decode cX3_read 56 = .ok (.aload_n 0, 1) := by decide +kernel
theorem dX3_read_57 : decode cX3_read 57 = .ok (.getfield 30, 3) := by decide +kernel
theorem dX3_read_60 : decode cX3_read 60 = .ok (.ifCond .ne 10, 3) := by decide +kernel
theorem dX3_read_63 : decode cX3_read 63 = .ok (.aload_n 0, 1) := by decide +kernel
theorem dX3_read_64 : decode cX3_read 64 = .ok (.getfield 27, 3) := by decide +kernel
theorem dX3_read_67 : decode cX3_read 67 = .ok (.ifCond .le 8, 3) := by decide +kernel
theorem dX3_read_70 : decode cX3_read 70 = .ok (.aload_n 1, 1) := by decide +kernel
theorem dX3_read_71 : decode cX3_read 71 = .ok (.getfield 23, 3) := by decide +kernel
theorem dX3_read_74 : decode cX3_read 74 = .ok (.ireturn, 1) := by decide +kernel
theorem dX3_read_75 : decode cX3_read 75 = .ok (.aload_n 0, 1) := by decide +kernel
theorem dX3_read_76 : decode cX3_read 76 = .ok (.iconst 1, 1) := by decide +kernel
theorem dX3_read_77 : decode cX3_read 77 = .ok (.invokevirtual 42, 3) := by decide +kernel
theorem dX3_read_80 : decode cX3_read 80 = .ok (.iconst (-1), 1) := by decide +kernel
theorem dX3_read_81 : decode cX3_read 81 = .ok (.ireturn, 1) := by decide +kernel
theorem dX3_take_0 : decode cX3_take 0 = .ok (.iload_n 1, 1) := by decide +kernel
theorem dX3_take_1 : decode cX3_take 1 = .ok (.bipush 32, 2) := by decide +kernel
theorem dX3_take_3 : decode cX3_take 3 = .ok (.if_icmp .ne 5, 3) := by decide +kernel
theorem dX3_take_6 : decode cX3_take 6 = .ok (.iconst 1, 1) := by decide +kernel
theorem dX3_take_7 : decode cX3_take 7 = .ok (.ireturn, 1) := by decide +kernel
theorem dX3_take_8 : decode cX3_take 8 = .ok (.aload_n 0, 1) := by decide +kernel
theorem dX3_take_9 : decode cX3_take 9 = .ok (.getfield 30, 3) := by decide +kernel
theorem dX3_take_12 : decode cX3_take 12 = .ok (.ifCond .eq 11, 3) := by decide +kernel
theorem dX3_take_15 : decode cX3_take 15 = .ok (.aload_n 0, 1) := by decide +kernel
theorem dX3_take_16 : decode cX3_take 16 = .ok (.iload_n 1, 1) := by decide +kernel
theorem dX3_take_17 : decode cX3_take 17 = .ok (.invokevirtual 45, 3) := by decide +kernel
theorem dX3_take_20 : decode cX3_take 20 = .ok (.goto 8, 3) := by decide +kernel
theorem dX3_take_23 : decode cX3_take 23 = .ok (.aload_n 0, 1) := by decide +kernel
theorem dX3_take_24 : decode cX3_take 24 = .ok (.iload_n 1, 1) := by decide +kernel
theorem dX3_take_25 : decode cX3_take 25 = .ok (.invokevirtual 48, 3) := by decide +kernel
theorem dX3_take_28 : decode cX3_take 28 = .ok (.ireturn, 1) := by decide +kernel
theorem dX3_takeFactor_0 : decode cX3_takeFactor 0 = .ok (.iload_n 1, 1) := by decide +kernel
theorem dX3_takeFactor_1 : decode cX3_takeFactor 1 = .ok (.bipush 65, 2) := by decide +kernel
theorem dX3_takeFactor_3 : decode cX3_takeFactor 3 = .ok (.if_icmp .lt 24, 3) := by decide +kernel
theorem dX3_takeFactor_6 : decode cX3_takeFactor 6 = .ok (.iload_n 1, 1) := by decide +kernel
theorem dX3_takeFactor_7 : decode cX3_takeFactor 7 = .ok (.bipush 71, 2) := by decide +kernel
theorem dX3_takeFactor_9 : decode cX3_takeFactor 9 = .ok (.if_icmp .ge 18, 3) := by decide +kernel
theorem dX3_takeFactor_12 : decode cX3_takeFactor 12 = .ok (.aload_n 0, 1) := by decide +kernel
theorem dX3_takeFactor_13 : decode cX3_takeFactor 13 = .ok (.getfield 14, 3) := by decide +kernel
theorem dX3_takeFactor_16 : decode cX3_takeFactor 16 = .ok (.iload_n 1, 1) := by decide +kernel
theorem dX3_takeFactor_17 : decode cX3_takeFactor 17 = .ok (.invokevirtual 51, 3) := by decide +kernel
theorem dX3_takeFactor_20 : decode cX3_takeFactor 20 = .ok (.aload_n 0, 1) := by decide +kernel
theorem dX3_takeFactor_21 : decode cX3_takeFactor 21 = .ok (.iconst 0, 1) := by decide +kernel
theorem dX3_takeFactor_22 : decode cX3_takeFactor 22 = .ok (.putfield 30, 3) := by decide +kernel
theorem dX3_takeFactor_25 : decode cX3_takeFactor 25 = .ok (.iconst 1, 1) := by decide +kernel
theorem dX3_takeFactor_26 : decode cX3_takeFactor 26 = .ok (.ireturn, 1) := by decide +kernel
theorem dX3_takeFactor_27 : decode cX3_takeFactor 27 = .ok (.iload_n 1, 1) := by decide +kernel
theorem dX3_takeFactor_28 : decode cX3_takeFactor 28 = .ok (.bipush 40, 2) := by decide +kernel
theorem dX3_takeFactor_30 : decode cX3_takeFactor 30 = .ok (.if_icmp .ne 32, 3) := by decide +kernel
theorem dX3_takeFactor_33 : decode cX3_takeFactor 33 = .ok (.aload_n 0, 1) := by decide +kernel
theorem dX3_takeFactor_34 : decode cX3_takeFactor 34 = .ok (.getfield 27, 3) := by decide +kernel
theorem dX3_takeFactor_37 : decode cX3_takeFactor 37 = .ok (.bipush 8, 2) := by decide +kernel
theorem dX3_takeFactor_39 : decode cX3_takeFactor 39 = .ok (.if_icmp .ge 23, 3) := by decide +kernel
theorem dX3_takeFactor_42 : decode cX3_takeFactor 42 = .ok (.aload_n 0, 1) := by decide +kernel
theorem dX3_takeFactor_43 : decode cX3_takeFactor 43 = .ok (.getfield 20, 3) := by decide +kernel
theorem dX3_takeFactor_46 : decode cX3_takeFactor 46 = .ok (.iload_n 1, 1) := by decide +kernel
theorem dX3_takeFactor_47 : decode cX3_takeFactor 47 = .ok (.invokevirtual 51, 3) := by decide +kernel
theorem dX3_takeFactor_50 : decode cX3_takeFactor 50 = .ok (.aload_n 0, 1) := by decide +kernel
theorem dX3_takeFactor_51 : decode cX3_takeFactor 51 = .ok (.dup, 1) := by decide +kernel
theorem dX3_takeFactor_52 : decode cX3_takeFactor 52 = .ok (.getfield 27, 3) := by decide +kernel
theorem dX3_takeFactor_55 : decode cX3_takeFactor 55 = .ok (.iconst 1, 1) := by decide +kernel
theorem dX3_takeFactor_56 : decode cX3_takeFactor 56 = .ok (.iadd, 1) := by decide +kernel
theorem dX3_takeFactor_57 : decode cX3_takeFactor 57 = .ok (.putfield 27, 3) := by decide +kernel
theorem dX3_takeFactor_60 : decode cX3_takeFactor 60 = .ok (.iconst 1, 1) := by decide +kernel
theorem dX3_takeFactor_61 : decode cX3_takeFactor 61 = .ok (.ireturn, 1) := by decide +kernel
theorem dX3_takeFactor_62 : decode cX3_takeFactor 62 = .ok (.iconst 0, 1) := by decide +kernel
theorem dX3_takeFactor_63 : decode cX3_takeFactor 63 = .ok (.ireturn, 1) := by decide +kernel
theorem dX3_takeSign_0 : decode cX3_takeSign 0 = .ok (.iload_n 1, 1) := by decide +kernel
theorem dX3_takeSign_1 : decode cX3_takeSign 1 = .ok (.bipush 41, 2) := by decide +kernel
theorem dX3_takeSign_3 : decode cX3_takeSign 3 = .ok (.if_icmp .ne 40, 3) := by decide +kernel
theorem dX3_takeSign_6 : decode cX3_takeSign 6 = .ok (.aload_n 0, 1) := by decide +kernel
theorem dX3_takeSign_7 : decode cX3_takeSign 7 = .ok (.getfield 27, 3) := by decide +kernel
theorem dX3_takeSign_10 : decode cX3_takeSign 10 = .ok (.ifCond .le 33, 3) := by decide +kernel
theorem dX3_takeSign_13 : decode cX3_takeSign 13 = .ok (.aload_n 0, 1) := by decide +kernel
theorem dX3_takeSign_14 : decode cX3_takeSign 14 = .ok (.iconst 1, 1) := by decide +kernel
theorem dX3_takeSign_15 : decode cX3_takeSign 15 = .ok (.invokevirtual 42, 3) := by decide +kernel
theorem dX3_takeSign_18 : decode cX3_takeSign 18 = .ok (.aload_n 0, 1) := by decide +kernel
theorem dX3_takeSign_19 : decode cX3_takeSign 19 = .ok (.getfield 20, 3) := by decide +kernel
theorem dX3_takeSign_22 : decode cX3_takeSign 22 = .ok (.dup, 1) := by decide +kernel
theorem dX3_takeSign_23 : decode cX3_takeSign 23 = .ok (.getfield 23, 3) := by decide +kernel
theorem dX3_takeSign_26 : decode cX3_takeSign 26 = .ok (.iconst 1, 1) := by decide +kernel
theorem dX3_takeSign_27 : decode cX3_takeSign 27 = .ok (.isub, 1) := by decide +kernel
theorem dX3_takeSign_28 : decode cX3_takeSign 28 = .ok (.putfield 23, 3) := by decide +kernel
theorem dX3_takeSign_31 : decode cX3_takeSign 31 = .ok (.aload_n 0, 1) := by decide +kernel
theorem dX3_takeSign_32 : decode cX3_takeSign 32 = .ok (.dup, 1) := by decide +kernel
theorem dX3_takeSign_33 : decode cX3_takeSign 33 = .ok (.getfield 27, 3) := by decide +kernel
theorem dX3_takeSign_36 : decode cX3_takeSign 36 = .ok (.iconst 1, 1) := by decide +kernel
theorem dX3_takeSign_37 : decode cX3_takeSign 37 = .ok (.isub, 1) := by decide +kernel
theorem dX3_takeSign_38 : decode cX3_takeSign 38 = .ok (.putfield 27, 3) := by decide +kernel
theorem dX3_takeSign_41 : decode cX3_takeSign 41 = .ok (.iconst 1, 1) := by decide +kernel
theorem dX3_takeSign_42 : decode cX3_takeSign 42 = .ok (.ireturn, 1) := by decide +kernel
theorem dX3_takeSign_43 : decode cX3_takeSign 43 = .ok (.iload_n 1, 1) := by decide +kernel
theorem dX3_takeSign_44 : decode cX3_takeSign 44 = .ok (.invokestatic 54, 3) := by decide +kernel
theorem dX3_takeSign_47 : decode cX3_takeSign 47 = .ok (.ifCond .le 26, 3) := by decide +kernel
theorem dX3_takeSign_50 : decode cX3_takeSign 50 = .ok (.aload_n 0, 1) := by decide +kernel
theorem dX3_takeSign_51 : decode cX3_takeSign 51 = .ok (.iload_n 1, 1) := by decide +kernel
theorem dX3_takeSign_52 : decode cX3_takeSign 52 = .ok (.invokestatic 54, 3) := by decide +kernel
theorem dX3_takeSign_55 : decode cX3_takeSign 55 = .ok (.invokevirtual 42, 3) := by decide +kernel
theorem dX3_takeSign_58 : decode cX3_takeSign 58 = .ok (.aload_n 0, 1) := by decide +kernel
theorem dX3_takeSign_59 : decode cX3_takeSign 59 = .ok (.getfield 20, 3) := by decide +kernel
theorem dX3_takeSign_62 : decode cX3_takeSign 62 = .ok (.iload_n 1, 1) := by decide +kernel
theorem dX3_takeSign_63 : decode cX3_takeSign 63 = .ok (.invokevirtual 51, 3) := by decide +kernel
theorem dX3_takeSign_66 : decode cX3_takeSign 66 = .ok (.aload_n 0, 1) := by decide +kernel
theorem dX3_takeSign_67 : decode cX3_takeSign 67 = .ok (.iconst 1, 1) := by decide +kernel
theorem dX3_takeSign_68 : decode cX3_takeSign 68 = .ok (.putfield 30, 3) := by decide +kernel
theorem dX3_takeSign_71 : decode cX3_takeSign 71 = .ok (.iconst 1, 1) := by decide +kernel
theorem dX3_takeSign_72 : decode cX3_takeSign 72 = .ok (.ireturn, 1) := by decide +kernel
theorem dX3_takeSign_73 : decode cX3_takeSign 73 = .ok (.iconst 0, 1) := by decide +kernel
theorem dX3_takeSign_74 : decode cX3_takeSign 74 = .ok (.ireturn, 1) := by decide +kernel
theorem dX3_releaseFrom_0 : decode cX3_releaseFrom 0 = .ok (.aload_n 0, 1) := by decide +kernel
theorem dX3_releaseFrom_1 : decode cX3_releaseFrom 1 = .ok (.getfield 20, 3) := by decide +kernel
theorem dX3_releaseFrom_4 : decode cX3_releaseFrom 4 = .ok (.getfield 23, 3) := by decide +kernel
theorem dX3_releaseFrom_7 : decode cX3_releaseFrom 7 = .ok (.ifCond .le 65, 3) := by decide +kernel
theorem dX3_releaseFrom_10 : decode cX3_releaseFrom 10 = .ok (.aload_n 0, 1) := by decide +kernel
theorem dX3_releaseFrom_11 : decode cX3_releaseFrom 11 = .ok (.getfield 20, 3) := by decide +kernel
theorem dX3_releaseFrom_14 : decode cX3_releaseFrom 14 = .ok (.aload_n 0, 1) := by decide +kernel
theorem dX3_releaseFrom_15 : decode cX3_releaseFrom 15 = .ok (.getfield 20, 3) := by decide +kernel
theorem dX3_releaseFrom_18 : decode cX3_releaseFrom 18 = .ok (.getfield 23, 3) := by decide +kernel
theorem dX3_releaseFrom_21 : decode cX3_releaseFrom 21 = .ok (.iconst 1, 1) := by decide +kernel
theorem dX3_releaseFrom_22 : decode cX3_releaseFrom 22 = .ok (.isub, 1) := by decide +kernel
theorem dX3_releaseFrom_23 : decode cX3_releaseFrom 23 = .ok (.invokevirtual 34, 3) := by decide +kernel
theorem dX3_releaseFrom_26 : decode cX3_releaseFrom 26 = .ok (.invokestatic 54, 3) := by decide +kernel
theorem dX3_releaseFrom_29 : decode cX3_releaseFrom 29 = .ok (.iload_n 1, 1) := by decide +kernel
theorem dX3_releaseFrom_30 : decode cX3_releaseFrom 30 = .ok (.if_icmp .lt 42, 3) := by decide +kernel
theorem dX3_releaseFrom_33 : decode cX3_releaseFrom 33 = .ok (.aload_n 0, 1) := by decide +kernel
theorem dX3_releaseFrom_34 : decode cX3_releaseFrom 34 = .ok (.getfield 14, 3) := by decide +kernel
theorem dX3_releaseFrom_37 : decode cX3_releaseFrom 37 = .ok (.aload_n 0, 1) := by decide +kernel
theorem dX3_releaseFrom_38 : decode cX3_releaseFrom 38 = .ok (.getfield 20, 3) := by decide +kernel
theorem dX3_releaseFrom_41 : decode cX3_releaseFrom 41 = .ok (.aload_n 0, 1) := by decide +kernel
theorem dX3_releaseFrom_42 : decode cX3_releaseFrom 42 = .ok (.getfield 20, 3) := by decide +kernel
theorem dX3_releaseFrom_45 : decode cX3_releaseFrom 45 = .ok (.getfield 23, 3) := by decide +kernel
theorem dX3_releaseFrom_48 : decode cX3_releaseFrom 48 = .ok (.iconst 1, 1) := by decide +kernel
theorem dX3_releaseFrom_49 : decode cX3_releaseFrom 49 = .ok (.isub, 1) := by decide +kernel
theorem dX3_releaseFrom_50 : decode cX3_releaseFrom 50 = .ok (.invokevirtual 34, 3) := by decide +kernel
theorem dX3_releaseFrom_53 : decode cX3_releaseFrom 53 = .ok (.invokevirtual 51, 3) := by decide +kernel
theorem dX3_releaseFrom_56 : decode cX3_releaseFrom 56 = .ok (.aload_n 0, 1) := by decide +kernel
theorem dX3_releaseFrom_57 : decode cX3_releaseFrom 57 = .ok (.getfield 20, 3) := by decide +kernel
theorem dX3_releaseFrom_60 : decode cX3_releaseFrom 60 = .ok (.dup, 1) := by decide +kernel
theorem dX3_releaseFrom_61 : decode cX3_releaseFrom 61 = .ok (.getfield 23, 3) := by decide +kernel
theorem dX3_releaseFrom_64 : decode cX3_releaseFrom 64 = .ok (.iconst 1, 1) := by decide +kernel
theorem dX3_releaseFrom_65 : decode cX3_releaseFrom 65 = .ok (.isub, 1) := by decide +kernel
theorem dX3_releaseFrom_66 : decode cX3_releaseFrom 66 = .ok (.putfield 23, 3) := by decide +kernel
theorem dX3_releaseFrom_69 : decode cX3_releaseFrom 69 = .ok (.goto (-69), 3) := by decide +kernel
theorem dX3_releaseFrom_72 : decode cX3_releaseFrom 72 = .ok (.return_, 1) := by decide +kernel
theorem dX3_strengthOf_0 : decode cX3_strengthOf 0 = .ok (.iload_n 0, 1) := by decide +kernel
theorem dX3_strengthOf_1 : decode cX3_strengthOf 1 = .ok (.lookupswitch 47 #[(38, 43), (45, 45), (94, 45), (124, 45)], 43) := by decide +kernel
theorem dX3_strengthOf_44 : decode cX3_strengthOf 44 = .ok (.iconst 2, 1) := by decide +kernel
theorem dX3_strengthOf_45 : decode cX3_strengthOf 45 = .ok (.ireturn, 1) := by decide +kernel
theorem dX3_strengthOf_46 : decode cX3_strengthOf 46 = .ok (.iconst 1, 1) := by decide +kernel
theorem dX3_strengthOf_47 : decode cX3_strengthOf 47 = .ok (.ireturn, 1) := by decide +kernel
theorem dX3_strengthOf_48 : decode cX3_strengthOf 48 = .ok (.iconst 0, 1) := by decide +kernel
theorem dX3_strengthOf_49 : decode cX3_strengthOf 49 = .ok (.ireturn, 1) := by decide +kernel
theorem dX4_init_0 : decode cX4_init 0 = .ok (.aload_n 0, 1) := by decide +kernel
theorem dX4_init_1 : decode cX4_init 1 = .ok (.invokespecial 1, 3) := by decide +kernel
theorem dX4_init_4 : decode cX4_init 4 = .ok (.return_, 1) := by decide +kernel
theorem dX4_intersect_0 : decode cX4_intersect 0 = .ok (.iconst 0, 1) := by decide +kernel
theorem dX4_intersect_1 : decode cX4_intersect 1 = .ok (.istore_n 3, 1) := by decide +kernel
theorem dX4_intersect_2 : decode cX4_intersect 2 = .ok (.iconst 0, 1) := by decide +kernel
theorem dX4_intersect_3 : decode cX4_intersect 3 = .ok (.istore 4, 2) := by decide +kernel
theorem dX4_intersect_5 : decode cX4_intersect 5 = .ok (.aload_n 0, 1) := by decide +kernel
theorem dX4_intersect_6 : decode cX4_intersect 6 = .ok (.iconst 0, 1) := by decide +kernel
theorem dX4_intersect_7 : decode cX4_intersect 7 = .ok (.putfield 7, 3) := by decide +kernel
theorem dX4_intersect_10 : decode cX4_intersect 10 = .ok (.iload_n 3, 1) := by decide +kernel
theorem dX4_intersect_11 : decode cX4_intersect 11 = .ok (.aload_n 1, 1) := by decide +kernel
theorem dX4_intersect_12 : decode cX4_intersect 12 = .ok (.getfield 13, 3) := by decide +kernel
theorem dX4_intersect_15 : decode cX4_intersect 15 = .ok (.if_icmp .ge 99, 3) := by decide +kernel
theorem dX4_intersect_18 : decode cX4_intersect 18 = .ok (.iload 4, 2) := by decide +kernel
theorem dX4_intersect_20 : decode cX4_intersect 20 = .ok (.aload_n 2, 1) := by decide +kernel
theorem dX4_intersect_21 : decode cX4_intersect 21 = .ok (.getfield 13, 3) := by decide +kernel
theorem dX4_intersect_24 : decode cX4_intersect 24 = .ok (.if_icmp .ge 90, 3) := by decide +kernel
theorem dX4_intersect_27 : decode cX4_intersect 27 = .ok (.aload_n 1, 1) := by decide +kernel
theorem dX4_intersect_28 : decode cX4_intersect 28 = .ok (.iload_n 3, 1) := by decide +kernel
theorem dX4_intersect_29 : decode cX4_intersect 29 = .ok (.invokevirtual 18, 3) := by decide +kernel
theorem dX4_intersect_32 : decode cX4_intersect 32 = .ok (.istore 5, 2) := by decide +kernel
theorem dX4_intersect_34 : decode cX4_intersect 34 = .ok (.aload_n 2, 1) := by decide +kernel
theorem dX4_intersect_35 : decode cX4_intersect 35 = .ok (.iload 4, 2) := by decide +kernel
theorem dX4_intersect_37 : decode cX4_intersect 37 = .ok (.invokevirtual 18, 3) := by decide +kernel
theorem dX4_intersect_40 : decode cX4_intersect 40 = .ok (.istore 6, 2) := by decide +kernel
theorem dX4_intersect_42 : decode cX4_intersect 42 = .ok (.iload 5, 2) := by decide +kernel
theorem dX4_intersect_44 : decode cX4_intersect 44 = .ok (.iload 6, 2) := by decide +kernel
theorem dX4_intersect_46 : decode cX4_intersect 46 = .ok (.if_icmp .ne 22, 3) := by decide +kernel
theorem dX4_intersect_49 : decode cX4_intersect 49 = .ok (.aload_n 0, 1) := by decide +kernel
theorem dX4_intersect_50 : decode cX4_intersect 50 = .ok (.dup, 1) := by decide +kernel
theorem dX4_intersect_51 : decode cX4_intersect 51 = .ok (.getfield 7, 3) := by decide +kernel
theorem dX4_intersect_54 : decode cX4_intersect 54 = .ok (.iconst 1, 1) := by decide +kernel
theorem dX4_intersect_55 : decode cX4_intersect 55 = .ok (.iadd, 1) := by decide +kernel
theorem dX4_intersect_56 : decode cX4_intersect 56 = .ok (.putfield 7, 3) := by decide +kernel
theorem dX4_intersect_59 : decode cX4_intersect 59 = .ok (.iinc 3 1, 3) := by decide +kernel
theorem dX4_intersect_62 : decode cX4_intersect 62 = .ok (.iinc 4 1, 3) := by decide +kernel
theorem dX4_intersect_65 : decode cX4_intersect 65 = .ok (.goto 46, 3) := by decide +kernel
