theorem dX8_chooseEnd_70 : decode cX8_chooseEnd 70 = .ok (.iload_n 3, 1) := by decide +kernel
theorem dX8_chooseEnd_71 : decode cX8_chooseEnd 71 = .ok (.if_icmp .ne 17, 3) := by decide +kernel
theorem dX8_chooseEnd_74 : decode cX8_chooseEnd 74 = .ok (.iload 7, 2) := by decide +kernel
theorem dX8_chooseEnd_76 : decode cX8_chooseEnd 76 = .ok (.iload 4, 2) := by decide +kernel
theorem dX8_chooseEnd_78 : decode cX8_chooseEnd 78 = .ok (.if_icmp .ge 10, 3) := by decide +kernel
theorem dX8_chooseEnd_81 : decode cX8_chooseEnd 81 = .ok (.iload 6, 2) := by decide +kernel
theorem dX8_chooseEnd_83 : decode cX8_chooseEnd 83 = .ok (.istore_n 3, 1) := by decide +kernel
theorem dX8_chooseEnd_84 : decode cX8_chooseEnd 84 = .ok (.iload 7, 2) := by decide +kernel
theorem dX8_chooseEnd_86 : decode cX8_chooseEnd 86 = .ok (.istore 4, 2) := by decide +kernel
theorem dX8_chooseEnd_88 : decode cX8_chooseEnd 88 = .ok (.iinc 5 1, 3) := by decide +kernel
theorem dX8_chooseEnd_91 : decode cX8_chooseEnd 91 = .ok (.goto (-80), 3) := by decide +kernel
theorem dX8_chooseEnd_94 : decode cX8_chooseEnd 94 = .ok (.aload_n 0, 1) := by decide +kernel
theorem dX8_chooseEnd_95 : decode cX8_chooseEnd 95 = .ok (.getfield 9, 3) := by decide +kernel
theorem dX8_chooseEnd_98 : decode cX8_chooseEnd 98 = .ok (.iload_n 1, 1) := by decide +kernel
theorem dX8_chooseEnd_99 : decode cX8_chooseEnd 99 = .ok (.iload_n 3, 1) := by decide +kernel
theorem dX8_chooseEnd_100 : decode cX8_chooseEnd 100 = .ok (.iastore, 1) := by decide +kernel
theorem dX8_chooseEnd_101 : decode cX8_chooseEnd 101 = .ok (.aload_n 0, 1) := by decide +kernel
theorem dX8_chooseEnd_102 : decode cX8_chooseEnd 102 = .ok (.getfield 15, 3) := by decide +kernel
theorem dX8_chooseEnd_105 : decode cX8_chooseEnd 105 = .ok (.iload_n 1, 1) := by decide +kernel
theorem dX8_chooseEnd_106 : decode cX8_chooseEnd 106 = .ok (.iload 4, 2) := by decide +kernel
theorem dX8_chooseEnd_108 : decode cX8_chooseEnd 108 = .ok (.iastore, 1) := by decide +kernel
theorem dX8_chooseEnd_109 : decode cX8_chooseEnd 109 = .ok (.return_, 1) := by decide +kernel
theorem dX8_passGap_0 : decode cX8_passGap 0 = .ok (.iconst 0, 1) := by decide +kernel
theorem dX8_passGap_1 : decode cX8_passGap 1 = .ok (.istore_n 3, 1) := by decide +kernel
theorem dX8_passGap_2 : decode cX8_passGap 2 = .ok (.iload_n 3, 1) := by decide +kernel
theorem dX8_passGap_3 : decode cX8_passGap 3 = .ok (.iload_n 2, 1) := by decide +kernel
theorem dX8_passGap_4 : decode cX8_passGap 4 = .ok (.if_icmp .gt 19, 3) := by decide +kernel
theorem dX8_passGap_7 : decode cX8_passGap 7 = .ok (.aload_n 0, 1) := by decide +kernel
theorem dX8_passGap_8 : decode cX8_passGap 8 = .ok (.getfield 20, 3) := by decide +kernel
theorem dX8_passGap_11 : decode cX8_passGap 11 = .ok (.iload_n 3, 1) := by decide +kernel
theorem dX8_passGap_12 : decode cX8_passGap 12 = .ok (.aaload, 1) := by decide +kernel
theorem dX8_passGap_13 : decode cX8_passGap 13 = .ok (.iload_n 1, 1) := by decide +kernel
theorem dX8_passGap_14 : decode cX8_passGap 14 = .ok (.invokevirtual 89, 3) := by decide +kernel
theorem dX8_passGap_17 : decode cX8_passGap 17 = .ok (.iinc 3 1, 3) := by decide +kernel
theorem dX8_passGap_20 : decode cX8_passGap 20 = .ok (.goto (-18), 3) := by decide +kernel
theorem dX8_passGap_23 : decode cX8_passGap 23 = .ok (.return_, 1) := by decide +kernel
theorem dX9_init_0 : decode cX9_init 0 = .ok (.aload_n 0, 1) := by decide +kernel
theorem dX9_init_1 : decode cX9_init 1 = .ok (.invokespecial 3, 3) := by decide +kernel
theorem dX9_init_4 : decode cX9_init 4 = .ok (.aload_n 0, 1) := by decide +kernel
theorem dX9_init_5 : decode cX9_init 5 = .ok (.iconst 0, 1) := by decide +kernel
theorem dX9_init_6 : decode cX9_init 6 = .ok (.iload_n 1, 1) := by decide +kernel
theorem dX9_init_7 : decode cX9_init 7 = .ok (.invokestatic 9, 3) := by decide +kernel
theorem dX9_init_10 : decode cX9_init 10 = .ok (.newarray .int, 2) := by decide +kernel
theorem dX9_init_12 : decode cX9_init 12 = .ok (.putfield 15, 3) := by decide +kernel
theorem dX9_init_15 : decode cX9_init 15 = .ok (.return_, 1) := by decide +kernel
theorem dX9_append_0 : decode cX9_append 0 = .ok (.aload_n 0, 1) := by decide +kernel
theorem dX9_append_1 : decode cX9_append 1 = .ok (.getfield 21, 3) := by decide +kernel
theorem dX9_append_4 : decode cX9_append 4 = .ok (.aload_n 0, 1) := by decide +kernel
theorem dX9_append_5 : decode cX9_append 5 = .ok (.getfield 15, 3) := by decide +kernel
theorem dX9_append_8 : decode cX9_append 8 = .ok (.arraylength, 1) := by decide +kernel
theorem dX9_append_9 : decode cX9_append 9 = .ok (.if_icmp .ge 23, 3) := by decide +kernel
theorem dX9_append_12 : decode cX9_append 12 = .ok (.aload_n 0, 1) := by decide +kernel
theorem dX9_append_13 : decode cX9_append 13 = .ok (.getfield 15, 3) := by decide +kernel
theorem dX9_append_16 : decode cX9_append 16 = .ok (.aload_n 0, 1) := by decide +kernel
theorem dX9_append_17 : decode cX9_append 17 = .ok (.getfield 21, 3) := by decide +kernel
theorem dX9_append_20 : decode cX9_append 20 = .ok (.iload_n 1, 1) := by decide +kernel
theorem dX9_append_21 : decode cX9_append 21 = .ok (.iastore, 1) := by decide +kernel
theorem dX9_append_22 : decode cX9_append 22 = .ok (.aload_n 0, 1) := by decide +kernel
theorem dX9_append_23 : decode cX9_append 23 = .ok (.dup, 1) := by decide +kernel
theorem dX9_append_24 : decode cX9_append 24 = .ok (.getfield 21, 3) := by decide +kernel
theorem dX9_append_27 : decode cX9_append 27 = .ok (.iconst 1, 1) := by decide +kernel
theorem dX9_append_28 : decode cX9_append 28 = .ok (.iadd, 1) := by decide +kernel
theorem dX9_append_29 : decode cX9_append 29 = .ok (.putfield 21, 3) := by decide +kernel
theorem dX9_append_32 : decode cX9_append 32 = .ok (.return_, 1) := by decide +kernel
theorem dX9_get_0 : decode cX9_get 0 = .ok (.iload_n 1, 1) := by decide +kernel
theorem dX9_get_1 : decode cX9_get 1 = .ok (.ifCond .lt 20, 3) := by decide +kernel
theorem dX9_get_4 : decode cX9_get 4 = .ok (.iload_n 1, 1) := by decide +kernel
theorem dX9_get_5 : decode cX9_get 5 = .ok (.aload_n 0, 1) := by decide +kernel
theorem dX9_get_6 : decode cX9_get 6 = .ok (.getfield 21, 3) := by decide +kernel
theorem dX9_get_9 : decode cX9_get 9 = .ok (.if_icmp .ge 12, 3) := by decide +kernel
theorem dX9_get_12 : decode cX9_get 12 = .ok (.aload_n 0, 1) := by decide +kernel
theorem dX9_get_13 : decode cX9_get 13 = .ok (.getfield 15, 3) := by decide +kernel
theorem dX9_get_16 : decode cX9_get 16 = .ok (.iload_n 1, 1) := by decide +kernel
theorem dX9_get_17 : decode cX9_get 17 = .ok (.iaload, 1) := by decide +kernel
theorem dX9_get_18 : decode cX9_get 18 = .ok (.goto 4, 3) := by decide +kernel
theorem dX9_get_21 : decode cX9_get 21 = .ok (.iconst (-1), 1) := by decide +kernel
theorem dX9_get_22 : decode cX9_get 22 = .ok (.ireturn, 1) := by decide +kernel
theorem dX9_copyFrom_0 : decode cX9_copyFrom 0 = .ok (.aload_n 0, 1) := by decide +kernel
theorem dX9_copyFrom_1 : decode cX9_copyFrom 1 = .ok (.aload_n 1, 1) := by decide +kernel
theorem dX9_copyFrom_2 : decode cX9_copyFrom 2 = .ok (.getfield 21, 3) := by decide +kernel
theorem dX9_copyFrom_5 : decode cX9_copyFrom 5 = .ok (.aload_n 0, 1) := by decide +kernel
theorem dX9_copyFrom_6 : decode cX9_copyFrom 6 = .ok (.getfield 15, 3) := by decide +kernel
theorem dX9_copyFrom_9 : decode cX9_copyFrom 9 = .ok (.arraylength, 1) := by decide +kernel
theorem dX9_copyFrom_10 : decode cX9_copyFrom 10 = .ok (.invokestatic 25, 3) := by decide +kernel
theorem dX9_copyFrom_13 : decode cX9_copyFrom 13 = .ok (.putfield 21, 3) := by decide +kernel
theorem dX9_copyFrom_16 : decode cX9_copyFrom 16 = .ok (.aload_n 1, 1) := by decide +kernel
theorem dX9_copyFrom_17 : decode cX9_copyFrom 17 = .ok (.getfield 15, 3) := by decide +kernel
theorem dX9_copyFrom_20 : decode cX9_copyFrom 20 = .ok (.iconst 0, 1) := by decide +kernel
theorem dX9_copyFrom_21 : decode cX9_copyFrom 21 = .ok (.aload_n 0, 1) := by decide +kernel
theorem dX9_copyFrom_22 : decode cX9_copyFrom 22 = .ok (.getfield 15, 3) := by decide +kernel
theorem dX9_copyFrom_25 : decode cX9_copyFrom 25 = .ok (.iconst 0, 1) := by decide +kernel
theorem dX9_copyFrom_26 : decode cX9_copyFrom 26 = .ok (.aload_n 0, 1) := by decide +kernel
theorem dX9_copyFrom_27 : decode cX9_copyFrom 27 = .ok (.getfield 21, 3) := by decide +kernel
theorem dX9_copyFrom_30 : decode cX9_copyFrom 30 = .ok (.invokestatic 28, 3) := by decide +kernel
theorem dX9_copyFrom_33 : decode cX9_copyFrom 33 = .ok (.return_, 1) := by decide +kernel
theorem dX9_firstAtLeast_0 : decode cX9_firstAtLeast 0 = .ok (.iconst 0, 1) := by decide +kernel
theorem dX9_firstAtLeast_1 : decode cX9_firstAtLeast 1 = .ok (.istore_n 2, 1) := by decide +kernel
theorem dX9_firstAtLeast_2 : decode cX9_firstAtLeast 2 = .ok (.aload_n 0, 1) := by decide +kernel
theorem dX9_firstAtLeast_3 : decode cX9_firstAtLeast 3 = .ok (.getfield 21, 3) := by decide +kernel
theorem dX9_firstAtLeast_6 : decode cX9_firstAtLeast 6 = .ok (.istore_n 3, 1) := by decide +kernel
theorem dX9_firstAtLeast_7 : decode cX9_firstAtLeast 7 = .ok (.iload_n 2, 1) := by decide +kernel
theorem dX9_firstAtLeast_8 : decode cX9_firstAtLeast 8 = .ok (.iload_n 3, 1) := by decide +kernel
theorem dX9_firstAtLeast_9 : decode cX9_firstAtLeast 9 = .ok (.if_icmp .ge 34, 3) := by decide +kernel
theorem dX9_firstAtLeast_12 : decode cX9_firstAtLeast 12 = .ok (.iload_n 2, 1) := by decide +kernel
theorem dX9_firstAtLeast_13 : decode cX9_firstAtLeast 13 = .ok (.iload_n 3, 1) := by decide +kernel
theorem dX9_firstAtLeast_14 : decode cX9_firstAtLeast 14 = .ok (.iadd, 1) := by decide +kernel
theorem dX9_firstAtLeast_15 : decode cX9_firstAtLeast 15 = .ok (.iconst 2, 1) := by decide +kernel
theorem dX9_firstAtLeast_16 : decode cX9_firstAtLeast 16 = .ok (.idiv, 1) := by decide +kernel
theorem dX9_firstAtLeast_17 : decode cX9_firstAtLeast 17 = .ok (.istore 4, 2) := by decide +kernel
theorem dX9_firstAtLeast_19 : decode cX9_firstAtLeast 19 = .ok (.aload_n 0, 1) := by decide +kernel
theorem dX9_firstAtLeast_20 : decode cX9_firstAtLeast 20 = .ok (.iload 4, 2) := by decide +kernel
theorem dX9_firstAtLeast_22 : decode cX9_firstAtLeast 22 = .ok (.invokevirtual 34, 3) := by decide +kernel
theorem dX9_firstAtLeast_25 : decode cX9_firstAtLeast 25 = .ok (.iload_n 1, 1) := by decide +kernel
theorem dX9_firstAtLeast_26 : decode cX9_firstAtLeast 26 = .ok (.if_icmp .lt 9, 3) := by decide +kernel
theorem dX9_firstAtLeast_29 : decode cX9_firstAtLeast 29 = .ok (.iload 4, 2) := by decide +kernel
theorem dX9_firstAtLeast_31 : decode cX9_firstAtLeast 31 = .ok (.istore_n 3, 1) := by decide +kernel
theorem dX9_firstAtLeast_32 : decode cX9_firstAtLeast 32 = .ok (.goto 8, 3) := by decide +kernel
theorem dX9_firstAtLeast_35 : decode cX9_firstAtLeast 35 = .ok (.iload 4, 2) := by decide +kernel
theorem dX9_firstAtLeast_37 : decode cX9_firstAtLeast 37 = .ok (.iconst 1, 1) := by decide +kernel
theorem dX9_firstAtLeast_38 : decode cX9_firstAtLeast 38 = .ok (.iadd, 1) := by decide +kernel
theorem dX9_firstAtLeast_39 : decode cX9_firstAtLeast 39 = .ok (.istore_n 2, 1) := by decide +kernel
theorem dX9_firstAtLeast_40 : decode cX9_firstAtLeast 40 = .ok (.goto (-33), 3) := by decide +kernel
theorem dX9_firstAtLeast_43 : decode cX9_firstAtLeast 43 = .ok (.iload_n 2, 1) := by decide +kernel
theorem dX9_firstAtLeast_44 : decode cX9_firstAtLeast 44 = .ok (.ireturn, 1) := by decide +kernel
theorem dX9_has_0 : decode cX9_has 0 = .ok (.aload_n 0, 1) := by decide +kernel
theorem dX9_has_1 : decode cX9_has 1 = .ok (.iload_n 1, 1) := by decide +kernel
theorem dX9_has_2 : decode cX9_has 2 = .ok (.invokevirtual 38, 3) := by decide +kernel
theorem dX9_has_5 : decode cX9_has 5 = .ok (.istore_n 2, 1) := by decide +kernel
theorem dX9_has_6 : decode cX9_has 6 = .ok (.iload_n 2, 1) := by decide +kernel
theorem dX9_has_7 : decode cX9_has 7 = .ok (.aload_n 0, 1) := by decide +kernel
theorem dX9_has_8 : decode cX9_has 8 = .ok (.getfield 21, 3) := by decide +kernel
theorem dX9_has_11 : decode cX9_has 11 = .ok (.if_icmp .ge 16, 3) := by decide +kernel
theorem dX9_has_14 : decode cX9_has 14 = .ok (.aload_n 0, 1) := by decide +kernel
theorem dX9_has_15 : decode cX9_has 15 = .ok (.iload_n 2, 1) := by decide +kernel
theorem dX9_has_16 : decode cX9_has 16 = .ok (.invokevirtual 34, 3) := by decide +kernel
theorem dX9_has_19 : decode cX9_has 19 = .ok (.iload_n 1, 1) := by decide +kernel
theorem dX9_has_20 : decode cX9_has 20 = .ok (.if_icmp .ne 7, 3) := by decide +kernel
theorem dX9_has_23 : decode cX9_has 23 = .ok (.iconst 1, 1) := by decide +kernel
theorem dX9_has_24 : decode cX9_has 24 = .ok (.goto 4, 3) := by decide +kernel
theorem dX9_has_27 : decode cX9_has 27 = .ok (.iconst 0, 1) := by decide +kernel
theorem dX9_has_28 : decode cX9_has 28 = .ok (.ireturn, 1) := by decide +kernel
theorem dX9_insert_0 : decode cX9_insert 0 = .ok (.aload_n 0, 1) := by decide +kernel
theorem dX9_insert_1 : decode cX9_insert 1 = .ok (.iload_n 1, 1) := by decide +kernel
theorem dX9_insert_2 : decode cX9_insert 2 = .ok (.invokevirtual 38, 3) := by decide +kernel
theorem dX9_insert_5 : decode cX9_insert 5 = .ok (.istore_n 2, 1) := by decide +kernel
theorem dX9_insert_6 : decode cX9_insert 6 = .ok (.aload_n 0, 1) := by decide +kernel
theorem dX9_insert_7 : decode cX9_insert 7 = .ok (.getfield 21, 3) := by decide +kernel
theorem dX9_insert_10 : decode cX9_insert 10 = .ok (.aload_n 0, 1) := by decide +kernel
theorem dX9_insert_11 : decode cX9_insert 11 = .ok (.getfield 15, 3) := by decide +kernel
theorem dX9_insert_14 : decode cX9_insert 14 = .ok (.arraylength, 1) := by decide +kernel
theorem dX9_insert_15 : decode cX9_insert 15 = .ok (.if_icmp .ge 41, 3) := by decide +kernel
theorem dX9_insert_18 : decode cX9_insert 18 = .ok (.aload_n 0, 1) := by decide +kernel
theorem dX9_insert_19 : decode cX9_insert 19 = .ok (.getfield 15, 3) := by decide +kernel
theorem dX9_insert_22 : decode cX9_insert 22 = .ok (.iload_n 2, 1) := by decide +kernel
theorem dX9_insert_23 : decode cX9_insert 23 = .ok (.aload_n 0, 1) := by decide +kernel
theorem dX9_insert_24 : decode cX9_insert 24 = .ok (.getfield 15, 3) := by decide +kernel
theorem dX9_insert_27 : decode cX9_insert 27 = .ok (.iload_n 2, 1) := by decide +kernel
theorem dX9_insert_28 : decode cX9_insert 28 = .ok (.iconst 1, 1) := by decide +kernel
theorem dX9_insert_29 : decode cX9_insert 29 = .ok (.iadd, 1) := by decide +kernel
theorem dX9_insert_30 : decode cX9_insert 30 = .ok (.aload_n 0, 1) := by decide +kernel
theorem dX9_insert_31 : decode cX9_insert 31 = .ok (.getfield 21, 3) := by decide +kernel
theorem dX9_insert_34 : decode cX9_insert 34 = .ok (.iload_n 2, 1) := by decide +kernel
theorem dX9_insert_35 : decode cX9_insert 35 = .ok (.isub, 1) := by decide +kernel
theorem dX9_insert_36 : decode cX9_insert 36 = .ok (.invokestatic 28, 3) := by decide +kernel
theorem dX9_insert_39 : decode cX9_insert 39 = .ok (.aload_n 0, 1) := by decide +kernel
theorem dX9_insert_40 : decode cX9_insert 40 = .ok (.getfield 15, 3) := by decide +kernel
theorem dX9_insert_43 : decode cX9_insert 43 = .ok (.iload_n 2, 1) := by decide +kernel
theorem dX9_insert_44 : decode cX9_insert 44 = .ok (.iload_n 1, 1) := by decide +kernel
theorem dX9_insert_45 : decode cX9_insert 45 = .ok (.iastore, 1) := by decide +kernel
theorem dX9_insert_46 : decode cX9_insert 46 = .ok (.aload_n 0, 1) := by decide +kernel
theorem dX9_insert_47 : decode cX9_insert 47 = .ok (.dup, 1) := by decide +kernel
theorem dX9_insert_48 : decode cX9_insert 48 = .ok (.getfield 21, 3) := by decide +kernel
theorem dX9_insert_51 : decode cX9_insert 51 = .ok (.iconst 1, 1) := by decide +kernel
theorem dX9_insert_52 : decode cX9_insert 52 = .ok (.iadd, 1) := by decide +kernel
theorem dX9_insert_53 : decode cX9_insert 53 = .ok (.putfield 21, 3) := by decide +kernel
theorem dX9_insert_56 : decode cX9_insert 56 = .ok (.iload_n 2, 1) := by decide +kernel
theorem dX9_insert_57 : decode cX9_insert 57 = .ok (.ireturn, 1) := by decide +kernel
theorem dX9_delete_0 : decode cX9_delete 0 = .ok (.aload_n 0, 1) := by decide +kernel
theorem dX9_delete_1 : decode cX9_delete 1 = .ok (.iload_n 1, 1) := by decide +kernel
theorem dX9_delete_2 : decode cX9_delete 2 = .ok (.invokevirtual 38, 3) := by decide +kernel
theorem dX9_delete_5 : decode cX9_delete 5 = .ok (.istore_n 2, 1) := by decide +kernel
theorem dX9_delete_6 : decode cX9_delete 6 = .ok (.iload_n 2, 1) := by decide +kernel
theorem dX9_delete_7 : decode cX9_delete 7 = .ok (.aload_n 0, 1) := by decide +kernel
theorem dX9_delete_8 : decode cX9_delete 8 = .ok (.getfield 21, 3) := by decide +kernel
theorem dX9_delete_11 : decode cX9_delete 11 = .ok (.if_icmp .ge 36, 3) := by decide +kernel
theorem dX9_delete_14 : decode cX9_delete 14 = .ok (.aload_n 0, 1) := by decide +kernel
theorem dX9_delete_15 : decode cX9_delete 15 = .ok (.getfield 15, 3) := by decide +kernel
theorem dX9_delete_18 : decode cX9_delete 18 = .ok (.iload_n 2, 1) := by decide +kernel
theorem dX9_delete_19 : decode cX9_delete 19 = .ok (.iconst 1, 1) := by decide +kernel
theorem dX9_delete_20 : decode cX9_delete 20 = .ok (.iadd, 1) := by decide +kernel
theorem dX9_delete_21 : decode cX9_delete 21 = .ok (.aload_n 0, 1) := by decide +kernel
theorem dX9_delete_22 : decode cX9_delete 22 = .ok (.getfield 15, 3) := by decide +kernel
theorem dX9_delete_25 : decode cX9_delete 25 = .ok (.iload_n 2, 1) := by decide +kernel
theorem dX9_delete_26 : decode cX9_delete 26 = .ok (.aload_n 0, 1) := by decide +kernel
theorem dX9_delete_27 : decode cX9_delete 27 = .ok (.getfield 21, 3) := by decide +kernel
theorem dX9_delete_30 : decode cX9_delete 30 = .ok (.iload_n 2, 1) := by decide +kernel
theorem dX9_delete_31 : decode cX9_delete 31 = .ok (.isub, 1) := by decide +kernel
theorem dX9_delete_32 : decode cX9_delete 32 = .ok (.iconst 1, 1) := by decide +kernel
theorem dX9_delete_33 : decode cX9_delete 33 = .ok (.isub, 1) := by decide +kernel
theorem dX9_delete_34 : decode cX9_delete 34 = .ok (.invokestatic 28, 3) := by decide +kernel
theorem dX9_delete_37 : decode cX9_delete 37 = .ok (.aload_n 0, 1) := by decide +kernel
theorem dX9_delete_38 : decode cX9_delete 38 = .ok (.dup, 1) := by decide +kernel
theorem dX9_delete_39 : decode cX9_delete 39 = .ok (.getfield 21, 3) := by decide +kernel
theorem dX9_delete_42 : decode cX9_delete 42 = .ok (.iconst 1, 1) := by decide +kernel
theorem dX9_delete_43 : decode cX9_delete 43 = .ok (.isub, 1) := by decide +kernel
theorem dX9_delete_44 : decode cX9_delete 44 = .ok (.putfield 21, 3) := by decide +kernel
theorem dX9_delete_47 : decode cX9_delete 47 = .ok (.iload_n 2, 1) := by decide +kernel
theorem dX9_delete_48 : decode cX9_delete 48 = .ok (.ireturn, 1) := by decide +kernel
theorem dX9_gapBefore_0 : decode cX9_gapBefore 0 = .ok (.iload_n 1, 1) := by decide +kernel
theorem dX9_gapBefore_1 : decode cX9_gapBefore 1 = .ok (.iconst 1, 1) := by decide +kernel
theorem dX9_gapBefore_2 : decode cX9_gapBefore 2 = .ok (.if_icmp .lt 31, 3) := by decide +kernel
theorem dX9_gapBefore_5 : decode cX9_gapBefore 5 = .ok (.iload_n 1, 1) := by decide +kernel
theorem dX9_gapBefore_6 : decode cX9_gapBefore 6 = .ok (.aload_n 0, 1) := by decide +kernel
theorem dX9_gapBefore_7 : decode cX9_gapBefore 7 = .ok (.getfield 21, 3) := by decide +kernel
theorem dX9_gapBefore_10 : decode cX9_gapBefore 10 = .ok (.if_icmp .ge 23, 3) := by decide +kernel
theorem dX9_gapBefore_13 : decode cX9_gapBefore 13 = .ok (.aload_n 0, 1) := by decide +kernel
theorem dX9_gapBefore_14 : decode cX9_gapBefore 14 = .ok (.getfield 15, 3) := by decide +kernel
theorem dX9_gapBefore_17 : decode cX9_gapBefore 17 = .ok (.iload_n 1, 1) := by decide +kernel
theorem dX9_gapBefore_18 : decode cX9_gapBefore 18 = .ok (.iaload, 1) := by decide +kernel
theorem dX9_gapBefore_19 : decode cX9_gapBefore 19 = .ok (.aload_n 0, 1) := by decide +kernel
theorem dX9_gapBefore_20 : decode cX9_gapBefore 20 = .ok (.getfield 15, 3) := by decide +kernel
theorem dX9_gapBefore_23 : decode cX9_gapBefore 23 = .ok (.iload_n 1, 1) := by decide +kernel
theorem dX9_gapBefore_24 : decode cX9_gapBefore 24 = .ok (.iconst 1, 1) := by decide +kernel
theorem dX9_gapBefore_25 : decode cX9_gapBefore 25 = .ok (.isub, 1) := by decide +kernel
theorem dX9_gapBefore_26 : decode cX9_gapBefore 26 = .ok (.iaload, 1) := by decide +kernel
theorem dX9_gapBefore_27 : decode cX9_gapBefore 27 = .ok (.isub, 1) := by decide +kernel
theorem dX9_gapBefore_28 : decode cX9_gapBefore 28 = .ok (.iconst 1, 1) := by decide +kernel
theorem dX9_gapBefore_29 : decode cX9_gapBefore 29 = .ok (.isub, 1) := by decide +kernel
theorem dX9_gapBefore_30 : decode cX9_gapBefore 30 = .ok (.goto 4, 3) := by decide +kernel
theorem dX9_gapBefore_33 : decode cX9_gapBefore 33 = .ok (.iconst 0, 1) := by decide +kernel
theorem dX9_gapBefore_34 : decode cX9_gapBefore 34 = .ok (.ireturn, 1) := by decide +kernel
theorem dX10_init_0 : decode cX10_init 0 = .ok (.aload_n 0, 1) := by decide +kernel
theorem dX10_init_1 : decode cX10_init 1 = .ok (.invokespecial 3, 3) := by decide +kernel
theorem dX10_init_4 : decode cX10_init 4 = .ok (.aload_n 0, 1) := by decide +kernel
theorem dX10_init_5 : decode cX10_init 5 = .ok (.bipush 64, 2) := by decide +kernel
theorem dX10_init_7 : decode cX10_init 7 = .ok (.newarray .int, 2) := by decide +kernel
theorem dX10_init_9 : decode cX10_init 9 = .ok (.putfield 9, 3) := by decide +kernel
theorem dX10_init_12 : decode cX10_init 12 = .ok (.aload_n 0, 1) := by decide +kernel
theorem dX10_init_13 : decode cX10_init 13 = .ok (.bipush 64, 2) := by decide +kernel
theorem dX10_init_15 : decode cX10_init 15 = .ok (.newarray .int, 2) := by decide +kernel
theorem dX10_init_17 : decode cX10_init 17 = .ok (.putfield 15, 3) := by decide +kernel
theorem dX10_init_20 : decode cX10_init 20 = .ok (.aload_n 0, 1) := by decide +kernel
theorem dX10_init_21 : decode cX10_init 21 = .ok (.iload_n 1, 1) := by decide +kernel
theorem dX10_init_22 : decode cX10_init 22 = .ok (.putfield 18, 3) := by decide +kernel
theorem dX10_init_25 : decode cX10_init 25 = .ok (.return_, 1) := by decide +kernel
theorem dX10_makeEmpty_0 : decode cX10_makeEmpty 0 = .ok (.aload_n 0, 1) := by decide +kernel
theorem dX10_makeEmpty_1 : decode cX10_makeEmpty 1 = .ok (.iconst 0, 1) := by decide +kernel
theorem dX10_makeEmpty_2 : decode cX10_makeEmpty 2 = .ok (.putfield 22, 3) := by decide +kernel
theorem dX10_makeEmpty_5 : decode cX10_makeEmpty 5 = .ok (.aload_n 0, 1) := by decide +kernel
theorem dX10_makeEmpty_6 : decode cX10_makeEmpty 6 = .ok (.iconst 0, 1) := by decide +kernel
theorem dX10_makeEmpty_7 : decode cX10_makeEmpty 7 = .ok (.putfield 25, 3) := by decide +kernel
theorem dX10_makeEmpty_10 : decode cX10_makeEmpty 10 = .ok (.aload_n 0, 1) := by decide +kernel
theorem dX10_makeEmpty_11 : decode cX10_makeEmpty 11 = .ok (.iconst 0, 1) := by decide +kernel
theorem dX10_makeEmpty_12 : decode cX10_makeEmpty 12 = .ok (.putfield 28, 3) := by decide +kernel
theorem dX10_makeEmpty_15 : decode cX10_makeEmpty 15 = .ok (.return_, 1) := by decide +kernel
theorem dX10_admit_0 : decode cX10_admit 0 = .ok (.iload_n 2, 1) := by decide +kernel
theorem dX10_admit_1 : decode cX10_admit 1 = .ok (.sipush 256, 3) := by decide +kernel
theorem dX10_admit_4 : decode cX10_admit 4 = .ok (.aload_n 0, 1) := by decide +kernel
theorem dX10_admit_5 : decode cX10_admit 5 = .ok (.getfield 28, 3) := by decide +kernel
theorem dX10_admit_8 : decode cX10_admit 8 = .ok (.imul, 1) := by decide +kernel
theorem dX10_admit_9 : decode cX10_admit 9 = .ok (.isub, 1) := by decide +kernel
theorem dX10_admit_10 : decode cX10_admit 10 = .ok (.istore_n 3, 1) := by decide +kernel
theorem dX10_admit_11 : decode cX10_admit 11 = .ok (.aload_n 0, 1) := by decide +kernel
theorem dX10_admit_12 : decode cX10_admit 12 = .ok (.getfield 25, 3) := by decide +kernel
theorem dX10_admit_15 : decode cX10_admit 15 = .ok (.ifCond .le 38, 3) := by decide +kernel
theorem dX10_admit_18 : decode cX10_admit 18 = .ok (.aload_n 0, 1) := by decide +kernel
theorem dX10_admit_19 : decode cX10_admit 19 = .ok (.getfield 9, 3) := by decide +kernel
theorem dX10_admit_22 : decode cX10_admit 22 = .ok (.aload_n 0, 1) := by decide +kernel
theorem dX10_admit_23 : decode cX10_admit 23 = .ok (.getfield 22, 3) := by decide +kernel
theorem dX10_admit_26 : decode cX10_admit 26 = .ok (.iaload, 1) := by decide +kernel
theorem dX10_admit_27 : decode cX10_admit 27 = .ok (.iload_n 1, 1) := by decide +kernel
theorem dX10_admit_28 : decode cX10_admit 28 = .ok (.bipush 64, 2) := by decide +kernel
theorem dX10_admit_30 : decode cX10_admit 30 = .ok (.iadd, 1) := by decide +kernel
theorem dX10_admit_31 : decode cX10_admit 31 = .ok (.if_icmp .lt 22, 3) := by decide +kernel
theorem dX10_admit_34 : decode cX10_admit 34 = .ok (.aload_n 0, 1) := by decide +kernel
theorem dX10_admit_35 : decode cX10_admit 35 = .ok (.aload_n 0, 1) := by decide +kernel
theorem dX10_admit_36 : decode cX10_admit 36 = .ok (.iconst 1, 1) := by decide +kernel
theorem dX10_admit_37 : decode cX10_admit 37 = .ok (.invokevirtual 33, 3) := by decide +kernel
theorem dX10_admit_40 : decode cX10_admit 40 = .ok (.putfield 22, 3) := by decide +kernel
theorem dX10_admit_43 : decode cX10_admit 43 = .ok (.aload_n 0, 1) := by decide +kernel
theorem dX10_admit_44 : decode cX10_admit 44 = .ok (.dup, 1) := by decide +kernel
theorem dX10_admit_45 : decode cX10_admit 45 = .ok (.getfield 25, 3) := by decide +kernel
theorem dX10_admit_48 : decode cX10_admit 48 = .ok (.iconst 1, 1) := by decide +kernel
theorem dX10_admit_49 : decode cX10_admit 49 = .ok (.isub, 1) := by decide +kernel
theorem dX10_admit_50 : decode cX10_admit 50 = .ok (.putfield 25, 3) := by decide +kernel
theorem dX10_admit_53 : decode cX10_admit 53 = .ok (.aload_n 0, 1) := by decide +kernel
theorem dX10_admit_54 : decode cX10_admit 54 = .ok (.getfield 25, 3) := by decide +kernel
theorem dX10_admit_57 : decode cX10_admit 57 = .ok (.ifCond .le 35, 3) := by decide +kernel
theorem dX10_admit_60 : decode cX10_admit 60 = .ok (.aload_n 0, 1) := by decide +kernel
theorem dX10_admit_61 : decode cX10_admit 61 = .ok (.getfield 15, 3) := by decide +kernel
theorem dX10_admit_64 : decode cX10_admit 64 = .ok (.aload_n 0, 1) := by decide +kernel
theorem dX10_admit_65 : decode cX10_admit 65 = .ok (.aload_n 0, 1) := by decide +kernel
theorem dX10_admit_66 : decode cX10_admit 66 = .ok (.getfield 25, 3) := by decide +kernel
theorem dX10_admit_69 : decode cX10_admit 69 = .ok (.iconst 1, 1) := by decide +kernel
theorem dX10_admit_70 : decode cX10_admit 70 = .ok (.isub, 1) := by decide +kernel
theorem dX10_admit_71 : decode cX10_admit 71 = .ok (.invokevirtual 33, 3) := by decide +kernel
theorem dX10_admit_74 : decode cX10_admit 74 = .ok (.iaload, 1) := by decide +kernel
theorem dX10_admit_75 : decode cX10_admit 75 = .ok (.iload_n 3, 1) := by decide +kernel
theorem dX10_admit_76 : decode cX10_admit 76 = .ok (.if_icmp .lt 16, 3) := by decide +kernel
theorem dX10_admit_79 : decode cX10_admit 79 = .ok (.aload_n 0, 1) := by decide +kernel
theorem dX10_admit_80 : decode cX10_admit 80 = .ok (.dup, 1) := by decide +kernel
theorem dX10_admit_81 : decode cX10_admit 81 = .ok (.getfield 25, 3) := by decide +kernel
theorem dX10_admit_84 : decode cX10_admit 84 = .ok (.iconst 1, 1) := by decide +kernel
theorem dX10_admit_85 : decode cX10_admit 85 = .ok (.isub, 1) := by decide +kernel
theorem dX10_admit_86 : decode cX10_admit 86 = .ok (.putfield 25, 3) := by decide +kernel
theorem dX10_admit_89 : decode cX10_admit 89 = .ok (.goto (-36), 3) := by decide +kernel
theorem dX10_admit_92 : decode cX10_admit 92 = .ok (.aload_n 0, 1) := by decide +kernel
theorem dX10_admit_93 : decode cX10_admit 93 = .ok (.getfield 9, 3) := by decide +kernel
theorem dX10_admit_96 : decode cX10_admit 96 = .ok (.aload_n 0, 1) := by decide +kernel
theorem dX10_admit_97 : decode cX10_admit 97 = .ok (.aload_n 0, 1) := by decide +kernel
theorem dX10_admit_98 : decode cX10_admit 98 = .ok (.getfield 25, 3) := by decide +kernel
theorem dX10_admit_101 : decode cX10_admit 101 = .ok (.invokevirtual 33, 3) := by decide +kernel
theorem dX10_admit_104 : decode cX10_admit 104 = .ok (.iload_n 1, 1) := by decide +kernel
theorem dX10_admit_105 : decode cX10_admit 105 = .ok (.iastore, 1) := by decide +kernel
theorem dX10_admit_106 : decode cX10_admit 106 = .ok (.aload_n 0, 1) := by decide +kernel
theorem dX10_admit_107 : decode cX10_admit 107 = .ok (.getfield 15, 3) := by decide +kernel
theorem dX10_admit_110 : decode cX10_admit 110 = .ok (.aload_n 0, 1) := by decide +kernel
theorem dX10_admit_111 : decode cX10_admit 111 = .ok (.aload_n 0, 1) := by decide +kernel
theorem dX10_admit_112 : decode cX10_admit 112 = .ok (.getfield 25, 3) := by decide +kernel
theorem dX10_admit_115 : decode cX10_admit 115 = .ok (.invokevirtual 33, 3) := by decide +kernel
theorem dX10_admit_118 : decode cX10_admit 118 = .ok (.iload_n 3, 1) := by decide +kernel
theorem dX10_admit_119 : decode cX10_admit 119 = .ok (.iastore, 1) := by decide +kernel
theorem dX10_admit_120 : decode cX10_admit 120 = .ok (.aload_n 0, 1) := by decide +kernel
theorem dX10_admit_121 : decode cX10_admit 121 = .ok (.dup, 1) := by decide +kernel
theorem dX10_admit_122 : decode cX10_admit 122 = .ok (.getfield 25, 3) := by decide +kernel
theorem dX10_admit_125 : decode cX10_admit 125 = .ok (.iconst 1, 1) := by decide +kernel
theorem dX10_admit_126 : decode cX10_admit 126 = .ok (.iadd, 1) := by decide +kernel
theorem dX10_admit_127 : decode cX10_admit 127 = .ok (.putfield 25, 3) := by decide +kernel
theorem dX10_admit_130 : decode cX10_admit 130 = .ok (.return_, 1) := by decide +kernel
theorem dX10_leastRank_0 : decode cX10_leastRank 0 = .ok (.aload_n 0, 1) := by decide +kernel
theorem dX10_leastRank_1 : decode cX10_leastRank 1 = .ok (.getfield 15, 3) := by decide +kernel
theorem dX10_leastRank_4 : decode cX10_leastRank 4 = .ok (.aload_n 0, 1) := by decide +kernel
theorem dX10_leastRank_5 : decode cX10_leastRank 5 = .ok (.getfield 22, 3) := by decide +kernel
theorem dX10_leastRank_8 : decode cX10_leastRank 8 = .ok (.iaload, 1) := by decide +kernel
theorem dX10_leastRank_9 : decode cX10_leastRank 9 = .ok (.sipush 256, 3) := by decide +kernel
theorem dX10_leastRank_12 : decode cX10_leastRank 12 = .ok (.bipush 32, 2) := by decide +kernel
theorem dX10_leastRank_14 : decode cX10_leastRank 14 = .ok (.aload_n 0, 1) := by decide +kernel
theorem dX10_leastRank_15 : decode cX10_leastRank 15 = .ok (.getfield 28, 3) := by decide +kernel
theorem dX10_leastRank_18 : decode cX10_leastRank 18 = .ok (.iadd, 1) := by decide +kernel
theorem dX10_leastRank_19 : decode cX10_leastRank 19 = .ok (.imul, 1) := by decide +kernel
theorem dX10_leastRank_20 : decode cX10_leastRank 20 = .ok (.iadd, 1) := by decide +kernel
theorem dX10_leastRank_21 : decode cX10_leastRank 21 = .ok (.iconst 1, 1) := by decide +kernel
theorem dX10_leastRank_22 : decode cX10_leastRank 22 = .ok (.iadd, 1) := by decide +kernel
theorem dX10_leastRank_23 : decode cX10_leastRank 23 = .ok (.ireturn, 1) := by decide +kernel
theorem dX10_endOfLeast_0 : decode cX10_endOfLeast 0 = .ok (.aload_n 0, 1) := by decide +kernel
theorem dX10_endOfLeast_1 : decode cX10_endOfLeast 1 = .ok (.getfield 9, 3) := by decide +kernel
theorem dX10_endOfLeast_4 : decode cX10_endOfLeast 4 = .ok (.aload_n 0, 1) := by decide +kernel
theorem dX10_endOfLeast_5 : decode cX10_endOfLeast 5 = .ok (.getfield 22, 3) := by decide +kernel
theorem dX10_endOfLeast_8 : decode cX10_endOfLeast 8 = .ok (.iaload, 1) := by decide +kernel
theorem dX10_endOfLeast_9 : decode cX10_endOfLeast 9 = .ok (.ireturn, 1) := by decide +kernel
theorem dX10_passGap_0 : decode cX10_passGap 0 = .ok (.aload_n 0, 1) := by decide +kernel
theorem dX10_passGap_1 : decode cX10_passGap 1 = .ok (.dup, 1) := by decide +kernel
theorem dX10_passGap_2 : decode cX10_passGap 2 = .ok (.getfield 28, 3) := by decide +kernel
theorem dX10_passGap_5 : decode cX10_passGap 5 = .ok (.iload_n 1, 1) := by decide +kernel
theorem dX10_passGap_6 : decode cX10_passGap 6 = .ok (.aload_n 0, 1) := by decide +kernel
theorem dX10_passGap_7 : decode cX10_passGap 7 = .ok (.getfield 18, 3) := by decide +kernel
theorem dX10_passGap_10 : decode cX10_passGap 10 = .ok (.if_icmp .le 13, 3) := by decide +kernel
theorem dX10_passGap_13 : decode cX10_passGap 13 = .ok (.aload_n 0, 1) := by decide +kernel
theorem dX10_passGap_14 : decode cX10_passGap 14 = .ok (.getfield 18, 3) := by decide +kernel
theorem dX10_passGap_17 : decode cX10_passGap 17 = .ok (.bipush 28, 2) := by decide +kernel
theorem dX10_passGap_19 : decode cX10_passGap 19 = .ok (.iadd, 1) := by decide +kernel
theorem dX10_passGap_20 : decode cX10_passGap 20 = .ok (.goto 7, 3) := by decide +kernel
theorem dX10_passGap_23 : decode cX10_passGap 23 = .ok (.aload_n 0, 1) := by decide +kernel
theorem dX10_passGap_24 : decode cX10_passGap 24 = .ok (.getfield 18, 3) := by decide +kernel
theorem dX10_passGap_27 : decode cX10_passGap 27 = .ok (.iadd, 1) := by decide +kernel
theorem dX10_passGap_28 : decode cX10_passGap 28 = .ok (.putfield 28, 3) := by decide +kernel
theorem dX10_passGap_31 : decode cX10_passGap 31 = .ok (.return_, 1) := by decide +kernel
theorem dX10_slot_0 : decode cX10_slot 0 = .ok (.aload_n 0, 1) := by decide +kernel
theorem dX10_slot_1 : decode cX10_slot 1 = .ok (.getfield 22, 3) := by decide +kernel
theorem dX10_slot_4 : decode cX10_slot 4 = .ok (.iload_n 1, 1) := by decide +kernel
theorem dX10_slot_5 : decode cX10_slot 5 = .ok (.iadd, 1) := by decide +kernel
theorem dX10_slot_6 : decode cX10_slot 6 = .ok (.bipush 64, 2) := by decide +kernel
theorem dX10_slot_8 : decode cX10_slot 8 = .ok (.irem, 1) := by decide +kernel
theorem dX10_slot_9 : decode cX10_slot 9 = .ok (.ireturn, 1) := by decide +kernel
theorem dX11_init_0 : decode cX11_init 0 = .ok (.aload_n 0, 1) := by decide +kernel
theorem dX11_init_1 : decode cX11_init 1 = .ok (.invokespecial 1, 3) := by decide +kernel
theorem dX11_init_4 : decode cX11_init 4 = .ok (.aload_n 0, 1) := by decide +kernel
theorem dX11_init_5 : decode cX11_init 5 = .ok (.bipush 6, 2) := by decide +kernel
theorem dX11_init_7 : decode cX11_init 7 = .ok (.anewarray 9, 3) := by decide +kernel
theorem dX11_init_10 : decode cX11_init 10 = .ok (.putfield 11, 3) := by decide +kernel
theorem dX11_init_13 : decode cX11_init 13 = .ok (.aload_n 0, 1) := by decide +kernel
theorem dX11_init_14 : decode cX11_init 14 = .ok (.new 15, 3) := by decide +kernel
theorem dX11_init_17 : decode cX11_init 17 = .ok (.dup, 1) := by decide +kernel
theorem dX11_init_18 : decode cX11_init 18 = .ok (.invokespecial 17, 3) := by decide +kernel
theorem dX11_init_21 : decode cX11_init 21 = .ok (.putfield 18, 3) := by decide +kernel
theorem dX11_init_24 : decode cX11_init 24 = .ok (.aload_n 0, 1) := by decide +kernel
theorem dX11_init_25 : decode cX11_init 25 = .ok (.new 22, 3) := by decide +kernel
theorem dX11_init_28 : decode cX11_init 28 = .ok (.dup, 1) := by decide +kernel
theorem dX11_init_29 : decode cX11_init 29 = .ok (.invokespecial 24, 3) := by decide +kernel
theorem dX11_init_32 : decode cX11_init 32 = .ok (.putfield 25, 3) := by decide +kernel
theorem dX11_init_35 : decode cX11_init 35 = .ok (.aload_n 0, 1) := by decide +kernel
theorem dX11_init_36 : decode cX11_init 36 = .ok (.new 29, 3) := by decide +kernel
theorem dX11_init_39 : decode cX11_init 39 = .ok (.dup, 1) := by decide +kernel
theorem dX11_init_40 : decode cX11_init 40 = .ok (.bipush 100, 2) := by decide +kernel
theorem dX11_init_42 : decode cX11_init 42 = .ok (.invokespecial 31, 3) := by decide +kernel
theorem dX11_init_45 : decode cX11_init 45 = .ok (.putfield 34, 3) := by decide +kernel
theorem dX11_init_48 : decode cX11_init 48 = .ok (.aload_n 0, 1) := by decide +kernel
theorem dX11_init_49 : decode cX11_init 49 = .ok (.new 38, 3) := by decide +kernel
theorem dX11_init_52 : decode cX11_init 52 = .ok (.dup, 1) := by decide +kernel
theorem dX11_init_53 : decode cX11_init 53 = .ok (.invokespecial 40, 3) := by decide +kernel
theorem dX11_init_56 : decode cX11_init 56 = .ok (.putfield 41, 3) := by decide +kernel
theorem dX11_init_59 : decode cX11_init 59 = .ok (.aload_n 0, 1) := by decide +kernel
theorem dX11_init_60 : decode cX11_init 60 = .ok (.new 45, 3) := by decide +kernel
theorem dX11_init_63 : decode cX11_init 63 = .ok (.dup, 1) := by decide +kernel
theorem dX11_init_64 : decode cX11_init 64 = .ok (.invokespecial 47, 3) := by decide +kernel
theorem dX11_init_67 : decode cX11_init 67 = .ok (.putfield 48, 3) := by decide +kernel
theorem dX11_init_70 : decode cX11_init 70 = .ok (.aload_n 0, 1) := by decide +kernel
theorem dX11_init_71 : decode cX11_init 71 = .ok (.new 52, 3) := by decide +kernel
theorem dX11_init_74 : decode cX11_init 74 = .ok (.dup, 1) := by decide +kernel
theorem dX11_init_75 : decode cX11_init 75 = .ok (.invokespecial 54, 3) := by decide +kernel
theorem dX11_init_78 : decode cX11_init 78 = .ok (.putfield 55, 3) := by decide +kernel
theorem dX11_init_81 : decode cX11_init 81 = .ok (.aload_n 0, 1) := by decide +kernel
theorem dX11_init_82 : decode cX11_init 82 = .ok (.new 59, 3) := by decide +kernel
theorem dX11_init_85 : decode cX11_init 85 = .ok (.dup, 1) := by decide +kernel
theorem dX11_init_86 : decode cX11_init 86 = .ok (.invokespecial 61, 3) := by decide +kernel
theorem dX11_init_89 : decode cX11_init 89 = .ok (.putfield 62, 3) := by decide +kernel
theorem dX11_init_92 : decode cX11_init 92 = .ok (.aload_n 0, 1) := by decide +kernel
theorem dX11_init_93 : decode cX11_init 93 = .ok (.new 66, 3) := by decide +kernel
theorem dX11_init_96 : decode cX11_init 96 = .ok (.dup, 1) := by decide +kernel
theorem dX11_init_97 : decode cX11_init 97 = .ok (.invokespecial 68, 3) := by decide +kernel
theorem dX11_init_100 : decode cX11_init 100 = .ok (.putfield 69, 3) := by decide +kernel
theorem dX11_init_103 : decode cX11_init 103 = .ok (.iconst 0, 1) := by decide +kernel
theorem dX11_init_104 : decode cX11_init 104 = .ok (.istore_n 1, 1) := by decide +kernel
theorem dX11_init_105 : decode cX11_init 105 = .ok (.iload_n 1, 1) := by decide +kernel
theorem dX11_init_106 : decode cX11_init 106 = .ok (.bipush 6, 2) := by decide +kernel
theorem dX11_init_108 : decode cX11_init 108 = .ok (.if_icmp .ge 22, 3) := by decide +kernel
theorem dX11_init_111 : decode cX11_init 111 = .ok (.aload_n 0, 1) := by decide +kernel
theorem dX11_init_112 : decode cX11_init 112 = .ok (.getfield 11, 3) := by decide +kernel
theorem dX11_init_115 : decode cX11_init 115 = .ok (.iload_n 1, 1) := by decide +kernel
theorem dX11_init_116 : decode cX11_init 116 = .ok (.new 9, 3) := by decide +kernel
theorem dX11_init_119 : decode cX11_init 119 = .ok (.dup, 1) := by decide +kernel
theorem dX11_init_120 : decode cX11_init 120 = .ok (.invokespecial 73, 3) := by decide +kernel
theorem dX11_init_123 : decode cX11_init 123 = .ok (.aastore, 1) := by decide +kernel
theorem dX11_init_124 : decode cX11_init 124 = .ok (.iinc 1 1, 3) := by decide +kernel
theorem dX11_init_127 : decode cX11_init 127 = .ok (.goto (-22), 3) := by decide +kernel
theorem dX11_init_130 : decode cX11_init 130 = .ok (.return_, 1) := by decide +kernel
theorem dX11_add_0 : decode cX11_add 0 = .ok (.iload_n 1, 1) := by decide +kernel
theorem dX11_add_1 : decode cX11_add 1 = .ok (.invokestatic 74, 3) := by decide +kernel
theorem dX11_add_4 : decode cX11_add 4 = .ok (.ifCond .eq 10, 3) := by decide +kernel
theorem dX11_add_7 : decode cX11_add 7 = .ok (.iload_n 2, 1) := by decide +kernel
theorem dX11_add_8 : decode cX11_add 8 = .ok (.invokestatic 78, 3) := by decide +kernel
theorem dX11_add_11 : decode cX11_add 11 = .ok (.ifCond .ne 6, 3) := by decide +kernel
theorem dX11_add_14 : decode cX11_add 14 = .ok (.bipush (-2), 2) := by decide +kernel
theorem dX11_add_16 : decode cX11_add 16 = .ok (.ireturn, 1) := by decide +kernel
theorem dX11_add_17 : decode cX11_add 17 = .ok (.aload_n 0, 1) := by decide +kernel
theorem dX11_add_18 : decode cX11_add 18 = .ok (.getfield 11, 3) := by decide +kernel
theorem dX11_add_21 : decode cX11_add 21 = .ok (.iload_n 1, 1) := by decide +kernel
theorem dX11_add_22 : decode cX11_add 22 = .ok (.aaload, 1) := by decide +kernel
theorem dX11_add_23 : decode cX11_add 23 = .ok (.getfield 81, 3) := by decide +kernel
theorem dX11_add_26 : decode cX11_add 26 = .ok (.iload_n 2, 1) := by decide +kernel
theorem dX11_add_27 : decode cX11_add 27 = .ok (.invokevirtual 84, 3) := by decide +kernel
theorem dX11_add_30 : decode cX11_add 30 = .ok (.ifCond .eq 6, 3) := by decide +kernel
theorem dX11_add_33 : decode cX11_add 33 = .ok (.bipush (-3), 2) := by decide +kernel
theorem dX11_add_35 : decode cX11_add 35 = .ok (.ireturn, 1) := by decide +kernel
theorem dX11_add_36 : decode cX11_add 36 = .ok (.aload_n 0, 1) := by decide +kernel
theorem dX11_add_37 : decode cX11_add 37 = .ok (.getfield 11, 3) := by decide +kernel
theorem dX11_add_40 : decode cX11_add 40 = .ok (.iload_n 1, 1) := by decide +kernel
theorem dX11_add_41 : decode cX11_add 41 = .ok (.aaload, 1) := by decide +kernel
theorem dX11_add_42 : decode cX11_add 42 = .ok (.getfield 81, 3) := by decide +kernel
theorem dX11_add_45 : decode cX11_add 45 = .ok (.getfield 87, 3) := by decide +kernel
theorem dX11_add_48 : decode cX11_add 48 = .ok (.sipush 200, 3) := by decide +kernel
theorem dX11_add_51 : decode cX11_add 51 = .ok (.if_icmp .lt 6, 3) := by decide +kernel
theorem dX11_add_54 : decode cX11_add 54 = .ok (.bipush (-4), 2) := by decide +kernel
theorem dX11_add_56 : decode cX11_add 56 = .ok (.ireturn, 1) := by decide +kernel
theorem dX11_add_57 : decode cX11_add 57 = .ok (.aload_n 0, 1) := by decide +kernel
theorem dX11_add_58 : decode cX11_add 58 = .ok (.iload_n 1, 1) := by decide +kernel
theorem dX11_add_59 : decode cX11_add 59 = .ok (.invokevirtual 91, 3) := by decide +kernel
theorem dX11_add_62 : decode cX11_add 62 = .ok (.aload_n 0, 1) := by decide +kernel
theorem dX11_add_63 : decode cX11_add 63 = .ok (.getfield 11, 3) := by decide +kernel
theorem dX11_add_66 : decode cX11_add 66 = .ok (.iload_n 1, 1) := by decide +kernel
theorem dX11_add_67 : decode cX11_add 67 = .ok (.aaload, 1) := by decide +kernel
theorem dX11_add_68 : decode cX11_add 68 = .ok (.iload_n 2, 1) := by decide +kernel
theorem dX11_add_69 : decode cX11_add 69 = .ok (.invokevirtual 94, 3) := by decide +kernel
theorem dX11_add_72 : decode cX11_add 72 = .ok (.ireturn, 1) := by decide +kernel
theorem dX11_remove_0 : decode cX11_remove 0 = .ok (.iload_n 1, 1) := by decide +kernel
theorem dX11_remove_1 : decode cX11_remove 1 = .ok (.invokestatic 74, 3) := by decide +kernel
theorem dX11_remove_4 : decode cX11_remove 4 = .ok (.ifCond .eq 10, 3) := by decide +kernel
theorem dX11_remove_7 : decode cX11_remove 7 = .ok (.iload_n 2, 1) := by decide +kernel
theorem dX11_remove_8 : decode cX11_remove 8 = .ok (.invokestatic 78, 3) := by decide +kernel
theorem dX11_remove_11 : decode cX11_remove 11 = .ok (.ifCond .ne 6, 3) := by decide +kernel
theorem dX11_remove_14 : decode cX11_remove 14 = .ok (.bipush (-2), 2) := by decide +kernel
theorem dX11_remove_16 : decode cX11_remove 16 = .ok (.ireturn, 1) := by decide +kernel
theorem dX11_remove_17 : decode cX11_remove 17 = .ok (.aload_n 0, 1) := by decide +kernel
theorem dX11_remove_18 : decode cX11_remove 18 = .ok (.getfield 11, 3) := by decide +kernel
theorem dX11_remove_21 : decode cX11_remove 21 = .ok (.iload_n 1, 1) := by decide +kernel
theorem dX11_remove_22 : decode cX11_remove 22 = .ok (.aaload, 1) := by decide +kernel
theorem dX11_remove_23 : decode cX11_remove 23 = .ok (.getfield 81, 3) := by decide +kernel
theorem dX11_remove_26 : decode cX11_remove 26 = .ok (.iload_n 2, 1) := by decide +kernel
theorem dX11_remove_27 : decode cX11_remove 27 = .ok (.invokevirtual 84, 3) := by decide +kernel
theorem dX11_remove_30 : decode cX11_remove 30 = .ok (.ifCond .ne 6, 3) := by decide +kernel
theorem dX11_remove_33 : decode cX11_remove 33 = .ok (.bipush (-3), 2) := by decide +kernel
theorem dX11_remove_35 : decode cX11_remove 35 = .ok (.ireturn, 1) := by decide +kernel
theorem dX11_remove_36 : decode cX11_remove 36 = .ok (.aload_n 0, 1) := by decide +kernel
theorem dX11_remove_37 : decode cX11_remove 37 = .ok (.iload_n 1, 1) := by decide +kernel
theorem dX11_remove_38 : decode cX11_remove 38 = .ok (.invokevirtual 91, 3) := by decide +kernel
theorem dX11_remove_41 : decode cX11_remove 41 = .ok (.aload_n 0, 1) := by decide +kernel
theorem dX11_remove_42 : decode cX11_remove 42 = .ok (.getfield 11, 3) := by decide +kernel
theorem dX11_remove_45 : decode cX11_remove 45 = .ok (.iload_n 1, 1) := by decide +kernel
theorem dX11_remove_46 : decode cX11_remove 46 = .ok (.aaload, 1) := by decide +kernel
theorem dX11_remove_47 : decode cX11_remove 47 = .ok (.iload_n 2, 1) := by decide +kernel
theorem dX11_remove_48 : decode cX11_remove 48 = .ok (.invokevirtual 98, 3) := by decide +kernel
theorem dX11_remove_51 : decode cX11_remove 51 = .ok (.ireturn, 1) := by decide +kernel
theorem dX11_pack_0 : decode cX11_pack 0 = .ok (.iload_n 1, 1) := by decide +kernel
theorem dX11_pack_1 : decode cX11_pack 1 = .ok (.invokestatic 74, 3) := by decide +kernel
theorem dX11_pack_4 : decode cX11_pack 4 = .ok (.ifCond .eq 10, 3) := by decide +kernel
theorem dX11_pack_7 : decode cX11_pack 7 = .ok (.iload_n 2, 1) := by decide +kernel
theorem dX11_pack_8 : decode cX11_pack 8 = .ok (.invokestatic 101, 3) := by decide +kernel
theorem dX11_pack_11 : decode cX11_pack 11 = .ok (.ifCond .ne 6, 3) := by decide +kernel
theorem dX11_pack_14 : decode cX11_pack 14 = .ok (.bipush (-2), 2) := by decide +kernel
theorem dX11_pack_16 : decode cX11_pack 16 = .ok (.ireturn, 1) := by decide +kernel
theorem dX11_pack_17 : decode cX11_pack 17 = .ok (.aload_n 0, 1) := by decide +kernel
theorem dX11_pack_18 : decode cX11_pack 18 = .ok (.iload_n 1, 1) := by decide +kernel
theorem dX11_pack_19 : decode cX11_pack 19 = .ok (.invokevirtual 91, 3) := by decide +kernel
theorem dX11_pack_22 : decode cX11_pack 22 = .ok (.iload_n 2, 1) := by decide +kernel
theorem dX11_pack_23 : decode cX11_pack 23 = .ok (.ifCond .ne 19, 3) := by decide +kernel
theorem dX11_pack_26 : decode cX11_pack 26 = .ok (.aload_n 0, 1) := by decide +kernel
theorem dX11_pack_27 : decode cX11_pack 27 = .ok (.getfield 48, 3) := by decide +kernel
theorem dX11_pack_30 : decode cX11_pack 30 = .ok (.aload_n 0, 1) := by decide +kernel
theorem dX11_pack_31 : decode cX11_pack 31 = .ok (.getfield 11, 3) := by decide +kernel
theorem dX11_pack_34 : decode cX11_pack 34 = .ok (.iload_n 1, 1) := by decide +kernel
theorem dX11_pack_35 : decode cX11_pack 35 = .ok (.aaload, 1) := by decide +kernel
theorem dX11_pack_36 : decode cX11_pack 36 = .ok (.invokevirtual 104, 3) := by decide +kernel
theorem dX11_pack_39 : decode cX11_pack 39 = .ok (.goto 13, 3) := by decide +kernel
theorem dX11_pack_42 : decode cX11_pack 42 = .ok (.aload_n 0, 1) := by decide +kernel
theorem dX11_pack_43 : decode cX11_pack 43 = .ok (.getfield 11, 3) := by decide +kernel
theorem dX11_pack_46 : decode cX11_pack 46 = .ok (.iload_n 1, 1) := by decide +kernel
theorem dX11_pack_47 : decode cX11_pack 47 = .ok (.aaload, 1) := by decide +kernel
theorem dX11_pack_48 : decode cX11_pack 48 = .ok (.iload_n 2, 1) := by decide +kernel
theorem dX11_pack_49 : decode cX11_pack 49 = .ok (.invokevirtual 108, 3) := by decide +kernel
theorem dX11_pack_52 : decode cX11_pack 52 = .ok (.aload_n 0, 1) := by decide +kernel
theorem dX11_pack_53 : decode cX11_pack 53 = .ok (.aload_n 0, 1) := by decide +kernel
theorem dX11_pack_54 : decode cX11_pack 54 = .ok (.getfield 11, 3) := by decide +kernel
theorem dX11_pack_57 : decode cX11_pack 57 = .ok (.iload_n 1, 1) := by decide +kernel
theorem dX11_pack_58 : decode cX11_pack 58 = .ok (.aaload, 1) := by decide +kernel
theorem dX11_pack_59 : decode cX11_pack 59 = .ok (.iconst 5, 1) := by decide +kernel
theorem dX11_pack_60 : decode cX11_pack 60 = .ok (.invokevirtual 111, 3) := by decide +kernel
theorem dX11_pack_63 : decode cX11_pack 63 = .ok (.ireturn, 1) := by decide +kernel
theorem dX11_load_0 : decode cX11_load 0 = .ok (.iload_n 1, 1) := by decide +kernel
theorem dX11_load_1 : decode cX11_load 1 = .ok (.invokestatic 74, 3) := by decide +kernel
theorem dX11_load_4 : decode cX11_load 4 = .ok (.ifCond .ne 6, 3) := by decide +kernel
theorem dX11_load_7 : decode cX11_load 7 = .ok (.bipush (-2), 2) := by decide +kernel
theorem dX11_load_9 : decode cX11_load 9 = .ok (.ireturn, 1) := by decide +kernel
theorem dX11_load_10 : decode cX11_load 10 = .ok (.aload_n 0, 1) := by decide +kernel
theorem dX11_load_11 : decode cX11_load 11 = .ok (.getfield 62, 3) := by decide +kernel
theorem dX11_load_14 : decode cX11_load 14 = .ok (.aload_n 0, 1) := by decide +kernel
theorem dX11_load_15 : decode cX11_load 15 = .ok (.getfield 34, 3) := by decide +kernel
theorem dX11_load_18 : decode cX11_load 18 = .ok (.invokevirtual 115, 3) := by decide +kernel
theorem dX11_load_21 : decode cX11_load 21 = .ok (.istore_n 2, 1) := by decide +kernel
theorem dX11_load_22 : decode cX11_load 22 = .ok (.iload_n 2, 1) := by decide +kernel
theorem dX11_load_23 : decode cX11_load 23 = .ok (.iconst (-1), 1) := by decide +kernel
theorem dX11_load_24 : decode cX11_load 24 = .ok (.if_icmp .eq 9, 3) := by decide +kernel
theorem dX11_load_27 : decode cX11_load 27 = .ok (.sipush (-2000), 3) := by decide +kernel
theorem dX11_load_30 : decode cX11_load 30 = .ok (.iload_n 2, 1) := by decide +kernel
theorem dX11_load_31 : decode cX11_load 31 = .ok (.isub, 1) := by decide +kernel
theorem dX11_load_32 : decode cX11_load 32 = .ok (.ireturn, 1) := by decide +kernel
theorem dX11_load_33 : decode cX11_load 33 = .ok (.aload_n 0, 1) := by decide +kernel
theorem dX11_load_34 : decode cX11_load 34 = .ok (.iload_n 1, 1) := by decide +kernel
theorem dX11_load_35 : decode cX11_load 35 = .ok (.aload_n 0, 1) := by decide +kernel
theorem dX11_load_36 : decode cX11_load 36 = .ok (.getfield 62, 3) := by decide +kernel
theorem dX11_load_39 : decode cX11_load 39 = .ok (.getfield 119, 3) := by decide +kernel
theorem dX11_load_42 : decode cX11_load 42 = .ok (.invokevirtual 120, 3) := by decide +kernel
theorem dX11_load_45 : decode cX11_load 45 = .ok (.aload_n 0, 1) := by decide +kernel
theorem dX11_load_46 : decode cX11_load 46 = .ok (.getfield 34, 3) := by decide +kernel
theorem dX11_load_49 : decode cX11_load 49 = .ok (.iconst 0, 1) := by decide +kernel
theorem dX11_load_50 : decode cX11_load 50 = .ok (.putfield 87, 3) := by decide +kernel
theorem dX11_load_53 : decode cX11_load 53 = .ok (.aload_n 0, 1) := by decide +kernel
theorem dX11_load_54 : decode cX11_load 54 = .ok (.getfield 11, 3) := by decide +kernel
theorem dX11_load_57 : decode cX11_load 57 = .ok (.iload_n 1, 1) := by decide +kernel
theorem dX11_load_58 : decode cX11_load 58 = .ok (.aaload, 1) := by decide +kernel
theorem dX11_load_59 : decode cX11_load 59 = .ok (.getfield 81, 3) := by decide +kernel
theorem dX11_load_62 : decode cX11_load 62 = .ok (.getfield 87, 3) := by decide +kernel
theorem dX11_load_65 : decode cX11_load 65 = .ok (.ireturn, 1) := by decide +kernel
theorem dX11_store_0 : decode cX11_store 0 = .ok (.iload_n 1, 1) := by decide +kernel
theorem dX11_store_1 : decode cX11_store 1 = .ok (.invokestatic 74, 3) := by decide +kernel
theorem dX11_store_4 : decode cX11_store 4 = .ok (.ifCond .ne 6, 3) := by decide +kernel
theorem dX11_store_7 : decode cX11_store 7 = .ok (.bipush (-2), 2) := by decide +kernel
theorem dX11_store_9 : decode cX11_store 9 = .ok (.ireturn, 1) := by decide +kernel
theorem dX11_store_10 : decode cX11_store 10 = .ok (.aload_n 0, 1) := by decide +kernel
theorem dX11_store_11 : decode cX11_store 11 = .ok (.getfield 124, 3) := by decide +kernel
theorem dX11_store_14 : decode cX11_store 14 = .ok (.ifnonnull 6, 3) := by decide +kernel
theorem dX11_store_17 : decode cX11_store 17 = .ok (.bipush (-3), 2) := by decide +kernel
theorem dX11_store_19 : decode cX11_store 19 = .ok (.ireturn, 1) := by decide +kernel
theorem dX11_store_20 : decode cX11_store 20 = .ok (.aload_n 0, 1) := by decide +kernel
theorem dX11_store_21 : decode cX11_store 21 = .ok (.getfield 124, 3) := by decide +kernel
theorem dX11_store_24 : decode cX11_store 24 = .ok (.getfield 128, 3) := by decide +kernel
theorem dX11_store_27 : decode cX11_store 27 = .ok (.getfield 87, 3) := by decide +kernel
theorem dX11_store_30 : decode cX11_store 30 = .ok (.sipush 200, 3) := by decide +kernel
theorem dX11_store_33 : decode cX11_store 33 = .ok (.if_icmp .le 6, 3) := by decide +kernel
theorem dX11_store_36 : decode cX11_store 36 = .ok (.bipush (-4), 2) := by decide +kernel
theorem dX11_store_38 : decode cX11_store 38 = .ok (.ireturn, 1) := by decide +kernel
theorem dX11_store_39 : decode cX11_store 39 = .ok (.aload_n 0, 1) := by decide +kernel
theorem dX11_store_40 : decode cX11_store 40 = .ok (.iload_n 1, 1) := by decide +kernel
theorem dX11_store_41 : decode cX11_store 41 = .ok (.aload_n 0, 1) := by decide +kernel
theorem dX11_store_42 : decode cX11_store 42 = .ok (.getfield 124, 3) := by decide +kernel
theorem dX11_store_45 : decode cX11_store 45 = .ok (.getfield 128, 3) := by decide +kernel
theorem dX11_store_48 : decode cX11_store 48 = .ok (.invokevirtual 120, 3) := by decide +kernel
theorem dX11_store_51 : decode cX11_store 51 = .ok (.aload_n 0, 1) := by decide +kernel
theorem dX11_store_52 : decode cX11_store 52 = .ok (.getfield 11, 3) := by decide +kernel
theorem dX11_store_55 : decode cX11_store 55 = .ok (.iload_n 1, 1) := by decide +kernel
theorem dX11_store_56 : decode cX11_store 56 = .ok (.aaload, 1) := by decide +kernel
theorem dX11_store_57 : decode cX11_store 57 = .ok (.getfield 81, 3) := by decide +kernel
theorem dX11_store_60 : decode cX11_store 60 = .ok (.getfield 87, 3) := by decide +kernel
theorem dX11_store_63 : decode cX11_store 63 = .ok (.ireturn, 1) := by decide +kernel
theorem dX11_clear_0 : decode cX11_clear 0 = .ok (.iload_n 1, 1) := by decide +kernel
theorem dX11_clear_1 : decode cX11_clear 1 = .ok (.invokestatic 74, 3) := by decide +kernel
theorem dX11_clear_4 : decode cX11_clear 4 = .ok (.ifCond .ne 6, 3) := by decide +kernel
theorem dX11_clear_7 : decode cX11_clear 7 = .ok (.bipush (-2), 2) := by decide +kernel
theorem dX11_clear_9 : decode cX11_clear 9 = .ok (.ireturn, 1) := by decide +kernel
theorem dX11_clear_10 : decode cX11_clear 10 = .ok (.aload_n 0, 1) := by decide +kernel
theorem dX11_clear_11 : decode cX11_clear 11 = .ok (.getfield 11, 3) := by decide +kernel
theorem dX11_clear_14 : decode cX11_clear 14 = .ok (.iload_n 1, 1) := by decide +kernel
theorem dX11_clear_15 : decode cX11_clear 15 = .ok (.aaload, 1) := by decide +kernel
theorem dX11_clear_16 : decode cX11_clear 16 = .ok (.getfield 81, 3) := by decide +kernel
theorem dX11_clear_19 : decode cX11_clear 19 = .ok (.getfield 87, 3) := by decide +kernel
theorem dX11_clear_22 : decode cX11_clear 22 = .ok (.istore_n 2, 1) := by decide +kernel
theorem dX11_clear_23 : decode cX11_clear 23 = .ok (.aload_n 0, 1) := by decide +kernel
theorem dX11_clear_24 : decode cX11_clear 24 = .ok (.iload_n 1, 1) := by decide +kernel
theorem dX11_clear_25 : decode cX11_clear 25 = .ok (.invokevirtual 91, 3) := by decide +kernel
theorem dX11_clear_28 : decode cX11_clear 28 = .ok (.aload_n 0, 1) := by decide +kernel
theorem dX11_clear_29 : decode cX11_clear 29 = .ok (.getfield 11, 3) := by decide +kernel
theorem dX11_clear_32 : decode cX11_clear 32 = .ok (.iload_n 1, 1) := by decide +kernel
theorem dX11_clear_33 : decode cX11_clear 33 = .ok (.aaload, 1) := by decide +kernel
theorem dX11_clear_34 : decode cX11_clear 34 = .ok (.invokevirtual 133, 3) := by decide +kernel
theorem dX11_clear_37 : decode cX11_clear 37 = .ok (.iload_n 2, 1) := by decide +kernel
theorem dX11_clear_38 : decode cX11_clear 38 = .ok (.ireturn, 1) := by decide +kernel
theorem dX11_undo_0 : decode cX11_undo 0 = .ok (.aload_n 0, 1) := by decide +kernel
theorem dX11_undo_1 : decode cX11_undo 1 = .ok (.getfield 18, 3) := by decide +kernel
theorem dX11_undo_4 : decode cX11_undo 4 = .ok (.getfield 136, 3) := by decide +kernel
theorem dX11_undo_7 : decode cX11_undo 7 = .ok (.ifCond .ne 6, 3) := by decide +kernel
theorem dX11_undo_10 : decode cX11_undo 10 = .ok (.bipush (-3), 2) := by decide +kernel
theorem dX11_undo_12 : decode cX11_undo 12 = .ok (.ireturn, 1) := by decide +kernel
theorem dX11_undo_13 : decode cX11_undo 13 = .ok (.aload_n 0, 1) := by decide +kernel
theorem dX11_undo_14 : decode cX11_undo 14 = .ok (.getfield 18, 3) := by decide +kernel
theorem dX11_undo_17 : decode cX11_undo 17 = .ok (.aload_n 0, 1) := by decide +kernel
theorem dX11_undo_18 : decode cX11_undo 18 = .ok (.getfield 11, 3) := by decide +kernel
theorem dX11_undo_21 : decode cX11_undo 21 = .ok (.invokevirtual 137, 3) := by decide +kernel
theorem dX11_undo_24 : decode cX11_undo 24 = .ok (.aload_n 0, 1) := by decide +kernel
theorem dX11_undo_25 : decode cX11_undo 25 = .ok (.getfield 25, 3) := by decide +kernel
theorem dX11_undo_28 : decode cX11_undo 28 = .ok (.invokevirtual 141, 3) := by decide +kernel
theorem dX11_undo_31 : decode cX11_undo 31 = .ok (.aload_n 0, 1) := by decide +kernel
theorem dX11_undo_32 : decode cX11_undo 32 = .ok (.getfield 18, 3) := by decide +kernel
theorem dX11_undo_35 : decode cX11_undo 35 = .ok (.getfield 136, 3) := by decide +kernel
theorem dX11_undo_38 : decode cX11_undo 38 = .ok (.ireturn, 1) := by decide +kernel
theorem dX11_type_0 : decode cX11_type 0 = .ok (.iload_n 1, 1) := by decide +kernel
theorem dX11_type_1 : decode cX11_type 1 = .ok (.ifCond .lt 9, 3) := by decide +kernel
theorem dX11_type_4 : decode cX11_type 4 = .ok (.iload_n 1, 1) := by decide +kernel
theorem dX11_type_5 : decode cX11_type 5 = .ok (.bipush 127, 2) := by decide +kernel
theorem dX11_type_7 : decode cX11_type 7 = .ok (.if_icmp .le 6, 3) := by decide +kernel
theorem dX11_type_10 : decode cX11_type 10 = .ok (.bipush (-2), 2) := by decide +kernel
theorem dX11_type_12 : decode cX11_type 12 = .ok (.ireturn, 1) := by decide +kernel
theorem dX11_type_13 : decode cX11_type 13 = .ok (.aload_n 0, 1) := by decide +kernel
theorem dX11_type_14 : decode cX11_type 14 = .ok (.getfield 34, 3) := by decide +kernel
theorem dX11_type_17 : decode cX11_type 17 = .ok (.getfield 87, 3) := by decide +kernel
theorem dX11_type_20 : decode cX11_type 20 = .ok (.bipush 100, 2) := by decide +kernel
theorem dX11_type_22 : decode cX11_type 22 = .ok (.if_icmp .lt 6, 3) := by decide +kernel
theorem dX11_type_25 : decode cX11_type 25 = .ok (.bipush (-4), 2) := by decide +kernel
theorem dX11_type_27 : decode cX11_type 27 = .ok (.ireturn, 1) := by decide +kernel
theorem dX11_type_28 : decode cX11_type 28 = .ok (.aload_n 0, 1) := by decide +kernel
theorem dX11_type_29 : decode cX11_type 29 = .ok (.getfield 34, 3) := by decide +kernel
theorem dX11_type_32 : decode cX11_type 32 = .ok (.iload_n 1, 1) := by decide +kernel
theorem dX11_type_33 : decode cX11_type 33 = .ok (.invokevirtual 144, 3) := by decide +kernel
theorem dX11_type_36 : decode cX11_type 36 = .ok (.aload_n 0, 1) := by decide +kernel
theorem dX11_type_37 : decode cX11_type 37 = .ok (.getfield 34, 3) := by decide +kernel
theorem dX11_type_40 : decode cX11_type 40 = .ok (.getfield 87, 3) := by decide +kernel
theorem dX11_type_43 : decode cX11_type 43 = .ok (.ireturn, 1) := by decide +kernel
theorem dX11_erase_0 : decode cX11_erase 0 = .ok (.aload_n 0, 1) := by decide +kernel
theorem dX11_erase_1 : decode cX11_erase 1 = .ok (.getfield 34, 3) := by decide +kernel
theorem dX11_erase_4 : decode cX11_erase 4 = .ok (.getfield 87, 3) := by decide +kernel
theorem dX11_erase_7 : decode cX11_erase 7 = .ok (.istore_n 1, 1) := by decide +kernel
theorem dX11_erase_8 : decode cX11_erase 8 = .ok (.aload_n 0, 1) := by decide +kernel
theorem dX11_erase_9 : decode cX11_erase 9 = .ok (.getfield 34, 3) := by decide +kernel
theorem dX11_erase_12 : decode cX11_erase 12 = .ok (.iconst 0, 1) := by decide +kernel
theorem dX11_erase_13 : decode cX11_erase 13 = .ok (.putfield 87, 3) := by decide +kernel
theorem dX11_erase_16 : decode cX11_erase 16 = .ok (.iload_n 1, 1) := by decide +kernel
theorem dX11_erase_17 : decode cX11_erase 17 = .ok (.ireturn, 1) := by decide +kernel
theorem dX11_list_0 : decode cX11_list 0 = .ok (.iload_n 1, 1) := by decide +kernel
theorem dX11_list_1 : decode cX11_list 1 = .ok (.invokestatic 74, 3) := by decide +kernel
theorem dX11_list_4 : decode cX11_list 4 = .ok (.ifCond .ne 6, 3) := by decide +kernel
theorem dX11_list_7 : decode cX11_list 7 = .ok (.bipush (-2), 2) := by decide +kernel
theorem dX11_list_9 : decode cX11_list 9 = .ok (.ireturn, 1) := by decide +kernel
theorem dX11_list_10 : decode cX11_list 10 = .ok (.aload_n 0, 1) := by decide +kernel
theorem dX11_list_11 : decode cX11_list 11 = .ok (.getfield 11, 3) := by decide +kernel
theorem dX11_list_14 : decode cX11_list 14 = .ok (.iload_n 1, 1) := by decide +kernel
theorem dX11_list_15 : decode cX11_list 15 = .ok (.aaload, 1) := by decide +kernel
theorem dX11_list_16 : decode cX11_list 16 = .ok (.astore_n 3, 1) := by decide +kernel
theorem dX11_list_17 : decode cX11_list 17 = .ok (.iload_n 2, 1) := by decide +kernel
theorem dX11_list_18 : decode cX11_list 18 = .ok (.tableswitch 91 0 5 #[38, 46, 51, 58, 65, 74], 38) := by decide +kernel
theorem dX11_list_56 : decode cX11_list 56 = .ok (.aload_n 3, 1) := by decide +kernel
theorem dX11_list_57 : decode cX11_list 57 = .ok (.getfield 81, 3) := by decide +kernel
theorem dX11_list_60 : decode cX11_list 60 = .ok (.getfield 87, 3) := by decide +kernel
theorem dX11_list_63 : decode cX11_list 63 = .ok (.ireturn, 1) := by decide +kernel
theorem dX11_list_64 : decode cX11_list 64 = .ok (.aload_n 3, 1) := by decide +kernel
theorem dX11_list_65 : decode cX11_list 65 = .ok (.getfield 147, 3) := by decide +kernel
theorem dX11_list_68 : decode cX11_list 68 = .ok (.ireturn, 1) := by decide +kernel
theorem dX11_list_69 : decode cX11_list 69 = .ok (.aload_n 0, 1) := by decide +kernel
theorem dX11_list_70 : decode cX11_list 70 = .ok (.aload_n 3, 1) := by decide +kernel
theorem dX11_list_71 : decode cX11_list 71 = .ok (.iconst 5, 1) := by decide +kernel
theorem dX11_list_72 : decode cX11_list 72 = .ok (.invokevirtual 111, 3) := by decide +kernel
theorem dX11_list_75 : decode cX11_list 75 = .ok (.ireturn, 1) := by decide +kernel
theorem dX11_list_76 : decode cX11_list 76 = .ok (.aload_n 0, 1) := by decide +kernel
theorem dX11_list_77 : decode cX11_list 77 = .ok (.aload_n 3, 1) := by decide +kernel
theorem dX11_list_78 : decode cX11_list 78 = .ok (.iconst 4, 1) := by decide +kernel
theorem dX11_list_79 : decode cX11_list 79 = .ok (.invokevirtual 111, 3) := by decide +kernel
theorem dX11_list_82 : decode cX11_list 82 = .ok (.ireturn, 1) := by decide +kernel
theorem dX11_list_83 : decode cX11_list 83 = .ok (.aload_n 3, 1) := by decide +kernel
theorem dX11_list_84 : decode cX11_list 84 = .ok (.getfield 81, 3) := by decide +kernel
theorem dX11_list_87 : decode cX11_list 87 = .ok (.iconst 0, 1) := by decide +kernel
theorem dX11_list_88 : decode cX11_list 88 = .ok (.invokevirtual 150, 3) := by decide +kernel
theorem dX11_list_91 : decode cX11_list 91 = .ok (.ireturn, 1) := by decide +kernel
theorem dX11_list_92 : decode cX11_list 92 = .ok (.aload_n 3, 1) := by decide +kernel
theorem dX11_list_93 : decode cX11_list 93 = .ok (.getfield 81, 3) := by decide +kernel
theorem dX11_list_96 : decode cX11_list 96 = .ok (.aload_n 3, 1) := by decide +kernel
theorem dX11_list_97 : decode cX11_list 97 = .ok (.getfield 81, 3) := by decide +kernel
theorem dX11_list_100 : decode cX11_list 100 = .ok (.getfield 87, 3) := by decide +kernel
theorem dX11_list_103 : decode cX11_list 103 = .ok (.iconst 1, 1) := by decide +kernel
theorem dX11_list_104 : decode cX11_list 104 = .ok (.isub, 1) := by decide +kernel
theorem dX11_list_105 : decode cX11_list 105 = .ok (.invokevirtual 150, 3) := by decide +kernel
theorem dX11_list_108 : decode cX11_list 108 = .ok (.ireturn, 1) := by decide +kernel
theorem dX11_list_109 : decode cX11_list 109 = .ok (.bipush (-2), 2) := by decide +kernel
theorem dX11_list_111 : decode cX11_list 111 = .ok (.ireturn, 1) := by decide +kernel
theorem dX11_block_0 : decode cX11_block 0 = .ok (.aload_n 0, 1) := by decide +kernel
theorem dX11_block_1 : decode cX11_block 1 = .ok (.iload_n 1, 1) := by decide +kernel
theorem dX11_block_2 : decode cX11_block 2 = .ok (.iload_n 2, 1) := by decide +kernel
theorem dX11_block_3 : decode cX11_block 3 = .ok (.invokevirtual 153, 3) := by decide +kernel
theorem dX11_block_6 : decode cX11_block 6 = .ok (.ifCond .ne 6, 3) := by decide +kernel
theorem dX11_block_9 : decode cX11_block 9 = .ok (.bipush (-2), 2) := by decide +kernel
theorem dX11_block_11 : decode cX11_block 11 = .ok (.ireturn, 1) := by decide +kernel
theorem dX11_block_12 : decode cX11_block 12 = .ok (.aload_n 0, 1) := by decide +kernel
theorem dX11_block_13 : decode cX11_block 13 = .ok (.aload_n 0, 1) := by decide +kernel
theorem dX11_block_14 : decode cX11_block 14 = .ok (.getfield 11, 3) := by decide +kernel
theorem dX11_block_17 : decode cX11_block 17 = .ok (.iload_n 1, 1) := by decide +kernel
theorem dX11_block_18 : decode cX11_block 18 = .ok (.aaload, 1) := by decide +kernel
theorem dX11_block_19 : decode cX11_block 19 = .ok (.iload_n 2, 1) := by decide +kernel
theorem dX11_block_20 : decode cX11_block 20 = .ok (.invokevirtual 157, 3) := by decide +kernel
theorem dX11_block_23 : decode cX11_block 23 = .ok (.iload_n 3, 1) := by decide +kernel
theorem dX11_block_24 : decode cX11_block 24 = .ok (.invokevirtual 161, 3) := by decide +kernel
theorem dX11_block_27 : decode cX11_block 27 = .ok (.ireturn, 1) := by decide +kernel
theorem dX11_word_0 : decode cX11_word 0 = .ok (.aload_n 0, 1) := by decide +kernel
theorem dX11_word_1 : decode cX11_word 1 = .ok (.iload_n 1, 1) := by decide +kernel
theorem dX11_word_2 : decode cX11_word 2 = .ok (.iload_n 2, 1) := by decide +kernel
theorem dX11_word_3 : decode cX11_word 3 = .ok (.invokevirtual 153, 3) := by decide +kernel
theorem dX11_word_6 : decode cX11_word 6 = .ok (.ifCond .ne 7, 3) := by decide +kernel
theorem dX11_word_9 : decode cX11_word 9 = .ok (.ldc2_w 164, 3) := by decide +kernel
theorem dX11_word_12 : decode cX11_word 12 = .ok (.lreturn, 1) := by decide +kernel
theorem dX11_word_13 : decode cX11_word 13 = .ok (.aload_n 0, 1) := by decide +kernel
theorem dX11_word_14 : decode cX11_word 14 = .ok (.aload_n 0, 1) := by decide +kernel
theorem dX11_word_15 : decode cX11_word 15 = .ok (.getfield 11, 3) := by decide +kernel
theorem dX11_word_18 : decode cX11_word 18 = .ok (.iload_n 1, 1) := by decide +kernel
theorem dX11_word_19 : decode cX11_word 19 = .ok (.aaload, 1) := by decide +kernel
theorem dX11_word_20 : decode cX11_word 20 = .ok (.iload_n 2, 1) := by decide +kernel
theorem dX11_word_21 : decode cX11_word 21 = .ok (.invokevirtual 157, 3) := by decide +kernel
theorem dX11_word_24 : decode cX11_word 24 = .ok (.astore 4, 2) := by decide +kernel
theorem dX11_word_26 : decode cX11_word 26 = .ok (.iload_n 3, 1) := by decide +kernel
theorem dX11_word_27 : decode cX11_word 27 = .ok (.ifCond .lt 21, 3) := by decide +kernel
theorem dX11_word_30 : decode cX11_word 30 = .ok (.iload_n 3, 1) := by decide +kernel
theorem dX11_word_31 : decode cX11_word 31 = .ok (.aload 4, 2) := by decide +kernel
theorem dX11_word_33 : decode cX11_word 33 = .ok (.invokevirtual 166, 3) := by decide +kernel
theorem dX11_word_36 : decode cX11_word 36 = .ok (.if_icmp .ge 12, 3) := by decide +kernel
theorem dX11_word_39 : decode cX11_word 39 = .ok (.aload 4, 2) := by decide +kernel
theorem dX11_word_41 : decode cX11_word 41 = .ok (.iload_n 3, 1) := by decide +kernel
theorem dX11_word_42 : decode cX11_word 42 = .ok (.invokevirtual 170, 3) := by decide +kernel
theorem dX11_word_45 : decode cX11_word 45 = .ok (.goto 6, 3) := by decide +kernel
theorem dX11_word_48 : decode cX11_word 48 = .ok (.ldc2_w 164, 3) := by decide +kernel
theorem dX11_word_51 : decode cX11_word 51 = .ok (.lreturn, 1) := by decide +kernel
theorem dX11_exception_0 : decode cX11_exception 0 = .ok (.aload_n 0, 1) := by decide +kernel
theorem dX11_exception_1 : decode cX11_exception 1 = .ok (.iload_n 1, 1) := by decide +kernel
theorem dX11_exception_2 : decode cX11_exception 2 = .ok (.iload_n 2, 1) := by decide +kernel
theorem dX11_exception_3 : decode cX11_exception 3 = .ok (.invokevirtual 153, 3) := by decide +kernel
theorem dX11_exception_6 : decode cX11_exception 6 = .ok (.ifCond .eq 18, 3) := by decide +kernel
theorem dX11_exception_9 : decode cX11_exception 9 = .ok (.iload_n 3, 1) := by decide +kernel
theorem dX11_exception_10 : decode cX11_exception 10 = .ok (.ifCond .lt 14, 3) := by decide +kernel
theorem dX11_exception_13 : decode cX11_exception 13 = .ok (.iload 4, 2) := by decide +kernel
theorem dX11_exception_15 : decode cX11_exception 15 = .ok (.ifCond .lt 9, 3) := by decide +kernel
theorem dX11_exception_18 : decode cX11_exception 18 = .ok (.iload 4, 2) := by decide +kernel
theorem dX11_exception_20 : decode cX11_exception 20 = .ok (.iconst 1, 1) := by decide +kernel
theorem dX11_exception_21 : decode cX11_exception 21 = .ok (.if_icmp .le 6, 3) := by decide +kernel
theorem dX11_exception_24 : decode cX11_exception 24 = .ok (.bipush (-2), 2) := by decide +kernel
theorem dX11_exception_26 : decode cX11_exception 26 = .ok (.ireturn, 1) := by decide +kernel
theorem dX11_exception_27 : decode cX11_exception 27 = .ok (.aload_n 0, 1) := by decide +kernel
theorem dX11_exception_28 : decode cX11_exception 28 = .ok (.aload_n 0, 1) := by decide +kernel
theorem dX11_exception_29 : decode cX11_exception 29 = .ok (.getfield 11, 3) := by decide +kernel
theorem dX11_exception_32 : decode cX11_exception 32 = .ok (.iload_n 1, 1) := by decide +kernel
theorem dX11_exception_33 : decode cX11_exception 33 = .ok (.aaload, 1) := by decide +kernel
theorem dX11_exception_34 : decode cX11_exception 34 = .ok (.iload_n 2, 1) := by decide +kernel
theorem dX11_exception_35 : decode cX11_exception 35 = .ok (.invokevirtual 157, 3) := by decide +kernel
theorem dX11_exception_38 : decode cX11_exception 38 = .ok (.astore 5, 2) := by decide +kernel
theorem dX11_exception_40 : decode cX11_exception 40 = .ok (.iconst 0, 1) := by decide +kernel
theorem dX11_exception_41 : decode cX11_exception 41 = .ok (.istore 6, 2) := by decide +kernel
theorem dX11_exception_43 : decode cX11_exception 43 = .ok (.iconst 1, 1) := by decide +kernel
theorem dX11_exception_44 : decode cX11_exception 44 = .ok (.istore 7, 2) := by decide +kernel
theorem dX11_exception_46 : decode cX11_exception 46 = .ok (.iload 7, 2) := by decide +kernel
theorem dX11_exception_48 : decode cX11_exception 48 = .ok (.aload 5, 2) := by decide +kernel
theorem dX11_exception_50 : decode cX11_exception 50 = .ok (.getfield 174, 3) := by decide +kernel
theorem dX11_exception_53 : decode cX11_exception 53 = .ok (.if_icmp .ge 50, 3) := by decide +kernel
theorem dX11_exception_56 : decode cX11_exception 56 = .ok (.aload 5, 2) := by decide +kernel
theorem dX11_exception_58 : decode cX11_exception 58 = .ok (.iload 7, 2) := by decide +kernel
theorem dX11_exception_60 : decode cX11_exception 60 = .ok (.invokevirtual 177, 3) := by decide +kernel
theorem dX11_exception_63 : decode cX11_exception 63 = .ok (.istore 8, 2) := by decide +kernel
theorem dX11_exception_65 : decode cX11_exception 65 = .ok (.iload 8, 2) := by decide +kernel
theorem dX11_exception_67 : decode cX11_exception 67 = .ok (.ifCond .le 22, 3) := by decide +kernel
theorem dX11_exception_70 : decode cX11_exception 70 = .ok (.iload 6, 2) := by decide +kernel
theorem dX11_exception_72 : decode cX11_exception 72 = .ok (.iload_n 3, 1) := by decide +kernel
theorem dX11_exception_73 : decode cX11_exception 73 = .ok (.if_icmp .ne 16, 3) := by decide +kernel
theorem dX11_exception_76 : decode cX11_exception 76 = .ok (.iload 4, 2) := by decide +kernel
theorem dX11_exception_78 : decode cX11_exception 78 = .ok (.ifCond .ne 8, 3) := by decide +kernel
theorem dX11_exception_81 : decode cX11_exception 81 = .ok (.iload 7, 2) := by decide +kernel
theorem dX11_exception_83 : decode cX11_exception 83 = .ok (.goto 5, 3) := by decide +kernel
theorem dX11_exception_86 : decode cX11_exception 86 = .ok (.iload 8, 2) := by decide +kernel
theorem dX11_exception_88 : decode cX11_exception 88 = .ok (.ireturn, 1) := by decide +kernel
theorem dX11_exception_89 : decode cX11_exception 89 = .ok (.iload 8, 2) := by decide +kernel
theorem dX11_exception_91 : decode cX11_exception 91 = .ok (.ifCond .le 6, 3) := by decide +kernel
theorem dX11_exception_94 : decode cX11_exception 94 = .ok (.iinc 6 1, 3) := by decide +kernel
theorem dX11_exception_97 : decode cX11_exception 97 = .ok (.iinc 7 1, 3) := by decide +kernel
theorem dX11_exception_100 : decode cX11_exception 100 = .ok (.goto (-54), 3) := by decide +kernel
theorem dX11_exception_103 : decode cX11_exception 103 = .ok (.bipush (-2), 2) := by decide +kernel
theorem dX11_exception_105 : decode cX11_exception 105 = .ok (.ireturn, 1) := by decide +kernel
theorem dX11_gaps_0 : decode cX11_gaps 0 = .ok (.iload_n 1, 1) := by decide +kernel
theorem dX11_gaps_1 : decode cX11_gaps 1 = .ok (.invokestatic 74, 3) := by decide +kernel
theorem dX11_gaps_4 : decode cX11_gaps 4 = .ok (.ifCond .eq 13, 3) := by decide +kernel
theorem dX11_gaps_7 : decode cX11_gaps 7 = .ok (.iload_n 2, 1) := by decide +kernel
theorem dX11_gaps_8 : decode cX11_gaps 8 = .ok (.ifCond .lt 9, 3) := by decide +kernel
theorem dX11_gaps_11 : decode cX11_gaps 11 = .ok (.iload_n 2, 1) := by decide +kernel
theorem dX11_gaps_12 : decode cX11_gaps 12 = .ok (.bipush 20, 2) := by decide +kernel
theorem dX11_gaps_14 : decode cX11_gaps 14 = .ok (.if_icmp .le 6, 3) := by decide +kernel
theorem dX11_gaps_17 : decode cX11_gaps 17 = .ok (.bipush (-2), 2) := by decide +kernel
theorem dX11_gaps_19 : decode cX11_gaps 19 = .ok (.ireturn, 1) := by decide +kernel
theorem dX11_gaps_20 : decode cX11_gaps 20 = .ok (.aload_n 0, 1) := by decide +kernel
theorem dX11_gaps_21 : decode cX11_gaps 21 = .ok (.getfield 11, 3) := by decide +kernel
theorem dX11_gaps_24 : decode cX11_gaps 24 = .ok (.iload_n 1, 1) := by decide +kernel
theorem dX11_gaps_25 : decode cX11_gaps 25 = .ok (.aaload, 1) := by decide +kernel
theorem dX11_gaps_26 : decode cX11_gaps 26 = .ok (.getfield 81, 3) := by decide +kernel
theorem dX11_gaps_29 : decode cX11_gaps 29 = .ok (.astore_n 3, 1) := by decide +kernel
theorem dX11_gaps_30 : decode cX11_gaps 30 = .ok (.iconst 0, 1) := by decide +kernel
theorem dX11_gaps_31 : decode cX11_gaps 31 = .ok (.istore 4, 2) := by decide +kernel
theorem dX11_gaps_33 : decode cX11_gaps 33 = .ok (.iconst 1, 1) := by decide +kernel
theorem dX11_gaps_34 : decode cX11_gaps 34 = .ok (.istore 5, 2) := by decide +kernel
theorem dX11_gaps_36 : decode cX11_gaps 36 = .ok (.iload 5, 2) := by decide +kernel
theorem dX11_gaps_38 : decode cX11_gaps 38 = .ok (.aload_n 3, 1) := by decide +kernel
theorem dX11_gaps_39 : decode cX11_gaps 39 = .ok (.getfield 87, 3) := by decide +kernel
theorem dX11_gaps_42 : decode cX11_gaps 42 = .ok (.if_icmp .ge 25, 3) := by decide +kernel
theorem dX11_gaps_45 : decode cX11_gaps 45 = .ok (.aload_n 3, 1) := by decide +kernel
theorem dX11_gaps_46 : decode cX11_gaps 46 = .ok (.iload 5, 2) := by decide +kernel
theorem dX11_gaps_48 : decode cX11_gaps 48 = .ok (.invokevirtual 180, 3) := by decide +kernel
theorem dX11_gaps_51 : decode cX11_gaps 51 = .ok (.invokestatic 183, 3) := by decide +kernel
theorem dX11_gaps_54 : decode cX11_gaps 54 = .ok (.iload_n 2, 1) := by decide +kernel
theorem dX11_gaps_55 : decode cX11_gaps 55 = .ok (.if_icmp .ne 6, 3) := by decide +kernel
theorem dX11_gaps_58 : decode cX11_gaps 58 = .ok (.iinc 4 1, 3) := by decide +kernel
theorem dX11_gaps_61 : decode cX11_gaps 61 = .ok (.iinc 5 1, 3) := by decide +kernel
theorem dX11_gaps_64 : decode cX11_gaps 64 = .ok (.goto (-28), 3) := by decide +kernel
theorem dX11_gaps_67 : decode cX11_gaps 67 = .ok (.iload 4, 2) := by decide +kernel
theorem dX11_gaps_69 : decode cX11_gaps 69 = .ok (.ireturn, 1) := by decide +kernel
theorem dX11_costBy_0 : decode cX11_costBy 0 = .ok (.iload_n 1, 1) := by decide +kernel
theorem dX11_costBy_1 : decode cX11_costBy 1 = .ok (.invokestatic 74, 3) := by decide +kernel
theorem dX11_costBy_4 : decode cX11_costBy 4 = .ok (.ifCond .eq 10, 3) := by decide +kernel
theorem dX11_costBy_7 : decode cX11_costBy 7 = .ok (.iload_n 2, 1) := by decide +kernel
theorem dX11_costBy_8 : decode cX11_costBy 8 = .ok (.invokestatic 101, 3) := by decide +kernel
theorem dX11_costBy_11 : decode cX11_costBy 11 = .ok (.ifCond .ne 6, 3) := by decide +kernel
theorem dX11_costBy_14 : decode cX11_costBy 14 = .ok (.bipush (-2), 2) := by decide +kernel
theorem dX11_costBy_16 : decode cX11_costBy 16 = .ok (.ireturn, 1) := by decide +kernel
theorem dX11_costBy_17 : decode cX11_costBy 17 = .ok (.aload_n 0, 1) := by decide +kernel
theorem dX11_costBy_18 : decode cX11_costBy 18 = .ok (.getfield 11, 3) := by decide +kernel
theorem dX11_costBy_21 : decode cX11_costBy 21 = .ok (.iload_n 1, 1) := by decide +kernel
theorem dX11_costBy_22 : decode cX11_costBy 22 = .ok (.aaload, 1) := by decide +kernel
theorem dX11_costBy_23 : decode cX11_costBy 23 = .ok (.getfield 81, 3) := by decide +kernel
theorem dX11_costBy_26 : decode cX11_costBy 26 = .ok (.astore_n 3, 1) := by decide +kernel
theorem dX11_costBy_27 : decode cX11_costBy 27 = .ok (.iload_n 2, 1) := by decide +kernel
theorem dX11_costBy_28 : decode cX11_costBy 28 = .ok (.ifCond .ne 12, 3) := by decide +kernel
theorem dX11_costBy_31 : decode cX11_costBy 31 = .ok (.aload_n 0, 1) := by decide +kernel
theorem dX11_costBy_32 : decode cX11_costBy 32 = .ok (.getfield 48, 3) := by decide +kernel
theorem dX11_costBy_35 : decode cX11_costBy 35 = .ok (.aload_n 3, 1) := by decide +kernel
theorem dX11_costBy_36 : decode cX11_costBy 36 = .ok (.invokevirtual 186, 3) := by decide +kernel
theorem dX11_costBy_39 : decode cX11_costBy 39 = .ok (.ireturn, 1) := by decide +kernel
theorem dX11_costBy_40 : decode cX11_costBy 40 = .ok (.iconst 0, 1) := by decide +kernel
theorem dX11_costBy_41 : decode cX11_costBy 41 = .ok (.istore 4, 2) := by decide +kernel
theorem dX11_costBy_43 : decode cX11_costBy 43 = .ok (.iconst 0, 1) := by decide +kernel
theorem dX11_costBy_44 : decode cX11_costBy 44 = .ok (.istore 5, 2) := by decide +kernel
theorem dX11_costBy_46 : decode cX11_costBy 46 = .ok (.iload 5, 2) := by decide +kernel
theorem dX11_costBy_48 : decode cX11_costBy 48 = .ok (.aload_n 3, 1) := by decide +kernel
theorem dX11_costBy_49 : decode cX11_costBy 49 = .ok (.getfield 87, 3) := by decide +kernel
theorem dX11_costBy_52 : decode cX11_costBy 52 = .ok (.if_icmp .ge 45, 3) := by decide +kernel
theorem dX11_costBy_55 : decode cX11_costBy 55 = .ok (.aload_n 0, 1) := by decide +kernel
theorem dX11_costBy_56 : decode cX11_costBy 56 = .ok (.getfield 41, 3) := by decide +kernel
theorem dX11_costBy_59 : decode cX11_costBy 59 = .ok (.aload_n 3, 1) := by decide +kernel
theorem dX11_costBy_60 : decode cX11_costBy 60 = .ok (.iload 5, 2) := by decide +kernel
theorem dX11_costBy_62 : decode cX11_costBy 62 = .ok (.iload 5, 2) := by decide +kernel
theorem dX11_costBy_64 : decode cX11_costBy 64 = .ok (.iload_n 2, 1) := by decide +kernel
theorem dX11_costBy_65 : decode cX11_costBy 65 = .ok (.iadd, 1) := by decide +kernel
theorem dX11_costBy_66 : decode cX11_costBy 66 = .ok (.aload_n 3, 1) := by decide +kernel
theorem dX11_costBy_67 : decode cX11_costBy 67 = .ok (.getfield 87, 3) := by decide +kernel
theorem dX11_costBy_70 : decode cX11_costBy 70 = .ok (.invokestatic 189, 3) := by decide +kernel
theorem dX11_costBy_73 : decode cX11_costBy 73 = .ok (.invokevirtual 195, 3) := by decide +kernel
theorem dX11_costBy_76 : decode cX11_costBy 76 = .ok (.iload 4, 2) := by decide +kernel
theorem dX11_costBy_78 : decode cX11_costBy 78 = .ok (.aload_n 0, 1) := by decide +kernel
theorem dX11_costBy_79 : decode cX11_costBy 79 = .ok (.getfield 41, 3) := by decide +kernel
theorem dX11_costBy_82 : decode cX11_costBy 82 = .ok (.getfield 199, 3) := by decide +kernel
theorem dX11_costBy_85 : decode cX11_costBy 85 = .ok (.iadd, 1) := by decide +kernel
theorem dX11_costBy_86 : decode cX11_costBy 86 = .ok (.istore 4, 2) := by decide +kernel
theorem dX11_costBy_88 : decode cX11_costBy 88 = .ok (.iload 5, 2) := by decide +kernel
theorem dX11_costBy_90 : decode cX11_costBy 90 = .ok (.iload_n 2, 1) := by decide +kernel
theorem dX11_costBy_91 : decode cX11_costBy 91 = .ok (.iadd, 1) := by decide +kernel
