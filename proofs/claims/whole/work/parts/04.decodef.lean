theorem d_K_leaveSource_0 : decode c_K_leaveSource 0 = .ok (.aload_n 0, 1) := by decide +kernel
theorem d_K_leaveSource_1 : decode c_K_leaveSource 1 = .ok (.getfield 50, 3) := by decide +kernel
theorem d_K_leaveSource_4 : decode c_K_leaveSource 4 = .ok (.ifnonnull 17, 3) := by decide +kernel
theorem d_K_leaveSource_7 : decode c_K_leaveSource 7 = .ok (.aload_n 0, 1) := by decide +kernel
theorem d_K_leaveSource_8 : decode c_K_leaveSource 8 = .ok (.getfield 13, 3) := by decide +kernel
theorem d_K_leaveSource_11 : decode c_K_leaveSource 11 = .ok (.aload_n 0, 1) := by decide +kernel
theorem d_K_leaveSource_12 : decode c_K_leaveSource 12 = .ok (.getfield 47, 3) := by decide +kernel
theorem d_K_leaveSource_15 : decode c_K_leaveSource 15 = .ok (.putfield 44, 3) := by decide +kernel
theorem d_K_leaveSource_18 : decode c_K_leaveSource 18 = .ok (.goto 14, 3) := by decide +kernel
theorem d_K_leaveSource_21 : decode c_K_leaveSource 21 = .ok (.aload_n 0, 1) := by decide +kernel
theorem d_K_leaveSource_22 : decode c_K_leaveSource 22 = .ok (.getfield 50, 3) := by decide +kernel
theorem d_K_leaveSource_25 : decode c_K_leaveSource 25 = .ok (.aload_n 0, 1) := by decide +kernel
theorem d_K_leaveSource_26 : decode c_K_leaveSource 26 = .ok (.getfield 47, 3) := by decide +kernel
theorem d_K_leaveSource_29 : decode c_K_leaveSource 29 = .ok (.putfield 47, 3) := by decide +kernel
theorem d_K_leaveSource_32 : decode c_K_leaveSource 32 = .ok (.aload_n 0, 1) := by decide +kernel
theorem d_K_leaveSource_33 : decode c_K_leaveSource 33 = .ok (.getfield 47, 3) := by decide +kernel
theorem d_K_leaveSource_36 : decode c_K_leaveSource 36 = .ok (.ifnull 14, 3) := by decide +kernel
theorem d_K_leaveSource_39 : decode c_K_leaveSource 39 = .ok (.aload_n 0, 1) := by decide +kernel
theorem d_K_leaveSource_40 : decode c_K_leaveSource 40 = .ok (.getfield 47, 3) := by decide +kernel
theorem d_K_leaveSource_43 : decode c_K_leaveSource 43 = .ok (.aload_n 0, 1) := by decide +kernel
theorem d_K_leaveSource_44 : decode c_K_leaveSource 44 = .ok (.getfield 50, 3) := by decide +kernel
theorem d_K_leaveSource_47 : decode c_K_leaveSource 47 = .ok (.putfield 50, 3) := by decide +kernel
theorem d_K_leaveSource_50 : decode c_K_leaveSource 50 = .ok (.aload_n 0, 1) := by decide +kernel
theorem d_K_leaveSource_51 : decode c_K_leaveSource 51 = .ok (.getfield 13, 3) := by decide +kernel
theorem d_K_leaveSource_54 : decode c_K_leaveSource 54 = .ok (.dup, 1) := by decide +kernel
theorem d_K_leaveSource_55 : decode c_K_leaveSource 55 = .ok (.getfield 53, 3) := by decide +kernel
theorem d_K_leaveSource_58 : decode c_K_leaveSource 58 = .ok (.iconst 1, 1) := by decide +kernel
theorem d_K_leaveSource_59 : decode c_K_leaveSource 59 = .ok (.isub, 1) := by decide +kernel
theorem d_K_leaveSource_60 : decode c_K_leaveSource 60 = .ok (.putfield 53, 3) := by decide +kernel
theorem d_K_leaveSource_63 : decode c_K_leaveSource 63 = .ok (.return_, 1) := by decide +kernel
theorem d_N_init_0 : decode c_N_init 0 = .ok (.aload_n 0, 1) := by decide +kernel
theorem d_N_init_1 : decode c_N_init 1 = .ok (.invokespecial 1, 3) := by decide +kernel
theorem d_N_init_4 : decode c_N_init 4 = .ok (.aload_n 0, 1) := by decide +kernel
theorem d_N_init_5 : decode c_N_init 5 = .ok (.iload_n 1, 1) := by decide +kernel
theorem d_N_init_6 : decode c_N_init 6 = .ok (.putfield 7, 3) := by decide +kernel
theorem d_N_init_9 : decode c_N_init 9 = .ok (.return_, 1) := by decide +kernel
theorem d_T_init_0 : decode c_T_init 0 = .ok (.aload_n 0, 1) := by decide +kernel
theorem d_T_init_1 : decode c_T_init 1 = .ok (.invokespecial 5, 3) := by decide +kernel
theorem d_T_init_4 : decode c_T_init 4 = .ok (.aload_n 0, 1) := by decide +kernel
theorem d_T_init_5 : decode c_T_init 5 = .ok (.sipush 128, 3) := by decide +kernel
theorem d_T_init_8 : decode c_T_init 8 = .ok (.anewarray 11, 3) := by decide +kernel
theorem d_T_init_11 : decode c_T_init 11 = .ok (.putfield 13, 3) := by decide +kernel
theorem d_T_init_14 : decode c_T_init 14 = .ok (.return_, 1) := by decide +kernel
theorem d_T_at_0 : decode c_T_at 0 = .ok (.iload_n 1, 1) := by decide +kernel
theorem d_T_at_1 : decode c_T_at 1 = .ok (.invokestatic 17, 3) := by decide +kernel
theorem d_T_at_4 : decode c_T_at 4 = .ok (.ifCond .ne 5, 3) := by decide +kernel
theorem d_T_at_7 : decode c_T_at 7 = .ok (.aconst_null, 1) := by decide +kernel
theorem d_T_at_8 : decode c_T_at 8 = .ok (.areturn, 1) := by decide +kernel
theorem d_T_at_9 : decode c_T_at 9 = .ok (.aload_n 0, 1) := by decide +kernel
theorem d_T_at_10 : decode c_T_at 10 = .ok (.getfield 13, 3) := by decide +kernel
theorem d_T_at_13 : decode c_T_at 13 = .ok (.iload_n 1, 1) := by decide +kernel
theorem d_T_at_14 : decode c_T_at 14 = .ok (.invokestatic 21, 3) := by decide +kernel
theorem d_T_at_17 : decode c_T_at 17 = .ok (.aaload, 1) := by decide +kernel
theorem d_T_at_18 : decode c_T_at 18 = .ok (.astore_n 2, 1) := by decide +kernel
theorem d_T_at_19 : decode c_T_at 19 = .ok (.aload_n 2, 1) := by decide +kernel
theorem d_T_at_20 : decode c_T_at 20 = .ok (.ifnonnull 7, 3) := by decide +kernel
theorem d_T_at_23 : decode c_T_at 23 = .ok (.aconst_null, 1) := by decide +kernel
theorem d_T_at_24 : decode c_T_at 24 = .ok (.goto 12, 3) := by decide +kernel
theorem d_T_at_27 : decode c_T_at 27 = .ok (.aload_n 2, 1) := by decide +kernel
theorem d_T_at_28 : decode c_T_at 28 = .ok (.getfield 25, 3) := by decide +kernel
theorem d_T_at_31 : decode c_T_at 31 = .ok (.iload_n 1, 1) := by decide +kernel
theorem d_T_at_32 : decode c_T_at 32 = .ok (.bipush 127, 2) := by decide +kernel
theorem d_T_at_34 : decode c_T_at 34 = .ok (.iand, 1) := by decide +kernel
theorem d_T_at_35 : decode c_T_at 35 = .ok (.aaload, 1) := by decide +kernel
theorem d_T_at_36 : decode c_T_at 36 = .ok (.areturn, 1) := by decide +kernel
theorem d_T_of_0 : decode c_T_of 0 = .ok (.iload_n 1, 1) := by decide +kernel
theorem d_T_of_1 : decode c_T_of 1 = .ok (.invokestatic 21, 3) := by decide +kernel
theorem d_T_of_4 : decode c_T_of 4 = .ok (.istore_n 2, 1) := by decide +kernel
theorem d_T_of_5 : decode c_T_of 5 = .ok (.aload_n 0, 1) := by decide +kernel
theorem d_T_of_6 : decode c_T_of 6 = .ok (.getfield 13, 3) := by decide +kernel
theorem d_T_of_9 : decode c_T_of 9 = .ok (.iload_n 2, 1) := by decide +kernel
theorem d_T_of_10 : decode c_T_of 10 = .ok (.aaload, 1) := by decide +kernel
theorem d_T_of_11 : decode c_T_of 11 = .ok (.astore_n 3, 1) := by decide +kernel
theorem d_T_of_12 : decode c_T_of 12 = .ok (.aload_n 3, 1) := by decide +kernel
theorem d_T_of_13 : decode c_T_of 13 = .ok (.ifnonnull 18, 3) := by decide +kernel
theorem d_T_of_16 : decode c_T_of 16 = .ok (.new 11, 3) := by decide +kernel
theorem d_T_of_19 : decode c_T_of 19 = .ok (.dup, 1) := by decide +kernel
theorem d_T_of_20 : decode c_T_of 20 = .ok (.invokespecial 29, 3) := by decide +kernel
theorem d_T_of_23 : decode c_T_of 23 = .ok (.astore_n 3, 1) := by decide +kernel
theorem d_T_of_24 : decode c_T_of 24 = .ok (.aload_n 0, 1) := by decide +kernel
theorem d_T_of_25 : decode c_T_of 25 = .ok (.getfield 13, 3) := by decide +kernel
theorem d_T_of_28 : decode c_T_of 28 = .ok (.iload_n 2, 1) := by decide +kernel
theorem d_T_of_29 : decode c_T_of 29 = .ok (.aload_n 3, 1) := by decide +kernel
theorem d_T_of_30 : decode c_T_of 30 = .ok (.aastore, 1) := by decide +kernel
theorem d_T_of_31 : decode c_T_of 31 = .ok (.aload_n 3, 1) := by decide +kernel
theorem d_T_of_32 : decode c_T_of 32 = .ok (.getfield 25, 3) := by decide +kernel
theorem d_T_of_35 : decode c_T_of 35 = .ok (.iload_n 1, 1) := by decide +kernel
theorem d_T_of_36 : decode c_T_of 36 = .ok (.bipush 127, 2) := by decide +kernel
theorem d_T_of_38 : decode c_T_of 38 = .ok (.iand, 1) := by decide +kernel
theorem d_T_of_39 : decode c_T_of 39 = .ok (.aaload, 1) := by decide +kernel
theorem d_T_of_40 : decode c_T_of 40 = .ok (.astore 4, 2) := by decide +kernel
theorem d_T_of_42 : decode c_T_of 42 = .ok (.aload 4, 2) := by decide +kernel
theorem d_T_of_44 : decode c_T_of 44 = .ok (.ifnonnull 24, 3) := by decide +kernel
theorem d_T_of_47 : decode c_T_of 47 = .ok (.new 30, 3) := by decide +kernel
theorem d_T_of_50 : decode c_T_of 50 = .ok (.dup, 1) := by decide +kernel
theorem d_T_of_51 : decode c_T_of 51 = .ok (.iload_n 1, 1) := by decide +kernel
theorem d_T_of_52 : decode c_T_of 52 = .ok (.invokespecial 32, 3) := by decide +kernel
theorem d_T_of_55 : decode c_T_of 55 = .ok (.astore 4, 2) := by decide +kernel
theorem d_T_of_57 : decode c_T_of 57 = .ok (.aload_n 3, 1) := by decide +kernel
theorem d_T_of_58 : decode c_T_of 58 = .ok (.getfield 25, 3) := by decide +kernel
theorem d_T_of_61 : decode c_T_of 61 = .ok (.iload_n 1, 1) := by decide +kernel
theorem d_T_of_62 : decode c_T_of 62 = .ok (.bipush 127, 2) := by decide +kernel
theorem d_T_of_64 : decode c_T_of 64 = .ok (.iand, 1) := by decide +kernel
theorem d_T_of_65 : decode c_T_of 65 = .ok (.aload 4, 2) := by decide +kernel
theorem d_T_of_67 : decode c_T_of 67 = .ok (.aastore, 1) := by decide +kernel
theorem d_T_of_68 : decode c_T_of 68 = .ok (.aload 4, 2) := by decide +kernel
theorem d_T_of_70 : decode c_T_of 70 = .ok (.areturn, 1) := by decide +kernel
theorem d_T_pageIndex_0 : decode c_T_pageIndex 0 = .ok (.iload_n 0, 1) := by decide +kernel
theorem d_T_pageIndex_1 : decode c_T_pageIndex 1 = .ok (.bipush 7, 2) := by decide +kernel
theorem d_T_pageIndex_3 : decode c_T_pageIndex 3 = .ok (.ishr, 1) := by decide +kernel
theorem d_T_pageIndex_4 : decode c_T_pageIndex 4 = .ok (.bipush 127, 2) := by decide +kernel
theorem d_T_pageIndex_6 : decode c_T_pageIndex 6 = .ok (.iand, 1) := by decide +kernel
theorem d_T_pageIndex_7 : decode c_T_pageIndex 7 = .ok (.ireturn, 1) := by decide +kernel
theorem d_U_init_0 : decode c_U_init 0 = .ok (.aload_n 0, 1) := by decide +kernel
theorem d_U_init_1 : decode c_U_init 1 = .ok (.invokespecial 3, 3) := by decide +kernel
theorem d_U_init_4 : decode c_U_init 4 = .ok (.aload_n 0, 1) := by decide +kernel
theorem d_U_init_5 : decode c_U_init 5 = .ok (.bipush 16, 2) := by decide +kernel
theorem d_U_init_7 : decode c_U_init 7 = .ok (.newarray .int, 2) := by decide +kernel
theorem d_U_init_9 : decode c_U_init 9 = .ok (.putfield 11, 3) := by decide +kernel
theorem d_U_init_12 : decode c_U_init 12 = .ok (.return_, 1) := by decide +kernel
theorem d_U_add_0 : decode c_U_add 0 = .ok (.aload_n 0, 1) := by decide +kernel
theorem d_U_add_1 : decode c_U_add 1 = .ok (.getfield 15, 3) := by decide +kernel
theorem d_U_add_4 : decode c_U_add 4 = .ok (.sipush 16384, 3) := by decide +kernel
theorem d_U_add_7 : decode c_U_add 7 = .ok (.if_icmp .lt 4, 3) := by decide +kernel
theorem d_U_add_10 : decode c_U_add 10 = .ok (.return_, 1) := by decide +kernel
theorem d_U_add_11 : decode c_U_add 11 = .ok (.aload_n 0, 1) := by decide +kernel
theorem d_U_add_12 : decode c_U_add 12 = .ok (.getfield 15, 3) := by decide +kernel
theorem d_U_add_15 : decode c_U_add 15 = .ok (.aload_n 0, 1) := by decide +kernel
theorem d_U_add_16 : decode c_U_add 16 = .ok (.getfield 11, 3) := by decide +kernel
theorem d_U_add_19 : decode c_U_add 19 = .ok (.arraylength, 1) := by decide +kernel
theorem d_U_add_20 : decode c_U_add 20 = .ok (.if_icmp .lt 20, 3) := by decide +kernel
theorem d_U_add_23 : decode c_U_add 23 = .ok (.aload_n 0, 1) := by decide +kernel
theorem d_U_add_24 : decode c_U_add 24 = .ok (.aload_n 0, 1) := by decide +kernel
theorem d_U_add_25 : decode c_U_add 25 = .ok (.getfield 11, 3) := by decide +kernel
theorem d_U_add_28 : decode c_U_add 28 = .ok (.iconst 2, 1) := by decide +kernel
theorem d_U_add_29 : decode c_U_add 29 = .ok (.aload_n 0, 1) := by decide +kernel
theorem d_U_add_30 : decode c_U_add 30 = .ok (.getfield 15, 3) := by decide +kernel
theorem d_U_add_33 : decode c_U_add 33 = .ok (.imul, 1) := by decide +kernel
theorem d_U_add_34 : decode c_U_add 34 = .ok (.invokestatic 19, 3) := by decide +kernel
theorem d_U_add_37 : decode c_U_add 37 = .ok (.putfield 11, 3) := by decide +kernel
theorem d_U_add_40 : decode c_U_add 40 = .ok (.aload_n 0, 1) := by decide +kernel
theorem d_U_add_41 : decode c_U_add 41 = .ok (.getfield 11, 3) := by decide +kernel
theorem d_U_add_44 : decode c_U_add 44 = .ok (.aload_n 0, 1) := by decide +kernel
theorem d_U_add_45 : decode c_U_add 45 = .ok (.getfield 15, 3) := by decide +kernel
theorem d_U_add_48 : decode c_U_add 48 = .ok (.iload_n 1, 1) := by decide +kernel
theorem d_U_add_49 : decode c_U_add 49 = .ok (.iastore, 1) := by decide +kernel
theorem d_U_add_50 : decode c_U_add 50 = .ok (.aload_n 0, 1) := by decide +kernel
theorem d_U_add_51 : decode c_U_add 51 = .ok (.dup, 1) := by decide +kernel
theorem d_U_add_52 : decode c_U_add 52 = .ok (.getfield 15, 3) := by decide +kernel
theorem d_U_add_55 : decode c_U_add 55 = .ok (.iconst 1, 1) := by decide +kernel
theorem d_U_add_56 : decode c_U_add 56 = .ok (.iadd, 1) := by decide +kernel
theorem d_U_add_57 : decode c_U_add 57 = .ok (.putfield 15, 3) := by decide +kernel
theorem d_U_add_60 : decode c_U_add 60 = .ok (.return_, 1) := by decide +kernel
theorem d_U_at_0 : decode c_U_at 0 = .ok (.aload_n 0, 1) := by decide +kernel
theorem d_U_at_1 : decode c_U_at 1 = .ok (.iload_n 1, 1) := by decide +kernel
theorem d_U_at_2 : decode c_U_at 2 = .ok (.invokevirtual 25, 3) := by decide +kernel
theorem d_U_at_5 : decode c_U_at 5 = .ok (.ifCond .eq 12, 3) := by decide +kernel
theorem d_U_at_8 : decode c_U_at 8 = .ok (.aload_n 0, 1) := by decide +kernel
theorem d_U_at_9 : decode c_U_at 9 = .ok (.getfield 11, 3) := by decide +kernel
theorem d_U_at_12 : decode c_U_at 12 = .ok (.iload_n 1, 1) := by decide +kernel
theorem d_U_at_13 : decode c_U_at 13 = .ok (.iaload, 1) := by decide +kernel
theorem d_U_at_14 : decode c_U_at 14 = .ok (.goto 4, 3) := by decide +kernel
theorem d_U_at_17 : decode c_U_at 17 = .ok (.iconst (-1), 1) := by decide +kernel
theorem d_U_at_18 : decode c_U_at 18 = .ok (.ireturn, 1) := by decide +kernel
theorem d_U_set_0 : decode c_U_set 0 = .ok (.aload_n 0, 1) := by decide +kernel
theorem d_U_set_1 : decode c_U_set 1 = .ok (.iload_n 1, 1) := by decide +kernel
theorem d_U_set_2 : decode c_U_set 2 = .ok (.invokevirtual 25, 3) := by decide +kernel
theorem d_U_set_5 : decode c_U_set 5 = .ok (.ifCond .eq 10, 3) := by decide +kernel
theorem d_U_set_8 : decode c_U_set 8 = .ok (.aload_n 0, 1) := by decide +kernel
theorem d_U_set_9 : decode c_U_set 9 = .ok (.getfield 11, 3) := by decide +kernel
theorem d_U_set_12 : decode c_U_set 12 = .ok (.iload_n 1, 1) := by decide +kernel
theorem d_U_set_13 : decode c_U_set 13 = .ok (.iload_n 2, 1) := by decide +kernel
theorem d_U_set_14 : decode c_U_set 14 = .ok (.iastore, 1) := by decide +kernel
theorem d_U_set_15 : decode c_U_set 15 = .ok (.return_, 1) := by decide +kernel
theorem d_U_takeLast_0 : decode c_U_takeLast 0 = .ok (.aload_n 0, 1) := by decide +kernel
theorem d_U_takeLast_1 : decode c_U_takeLast 1 = .ok (.aload_n 0, 1) := by decide +kernel
theorem d_U_takeLast_2 : decode c_U_takeLast 2 = .ok (.getfield 15, 3) := by decide +kernel
theorem d_U_takeLast_5 : decode c_U_takeLast 5 = .ok (.iconst 1, 1) := by decide +kernel
theorem d_U_takeLast_6 : decode c_U_takeLast 6 = .ok (.isub, 1) := by decide +kernel
theorem d_U_takeLast_7 : decode c_U_takeLast 7 = .ok (.invokevirtual 29, 3) := by decide +kernel
theorem d_U_takeLast_10 : decode c_U_takeLast 10 = .ok (.istore_n 1, 1) := by decide +kernel
theorem d_U_takeLast_11 : decode c_U_takeLast 11 = .ok (.aload_n 0, 1) := by decide +kernel
theorem d_U_takeLast_12 : decode c_U_takeLast 12 = .ok (.getfield 15, 3) := by decide +kernel
theorem d_U_takeLast_15 : decode c_U_takeLast 15 = .ok (.ifCond .le 13, 3) := by decide +kernel
theorem d_U_takeLast_18 : decode c_U_takeLast 18 = .ok (.aload_n 0, 1) := by decide +kernel
theorem d_U_takeLast_19 : decode c_U_takeLast 19 = .ok (.dup, 1) := by decide +kernel
theorem d_U_takeLast_20 : decode c_U_takeLast 20 = .ok (.getfield 15, 3) := by decide +kernel
theorem d_U_takeLast_23 : decode c_U_takeLast 23 = .ok (.iconst 1, 1) := by decide +kernel
theorem d_U_takeLast_24 : decode c_U_takeLast 24 = .ok (.isub, 1) := by decide +kernel
theorem d_U_takeLast_25 : decode c_U_takeLast 25 = .ok (.putfield 15, 3) := by decide +kernel
theorem d_U_takeLast_28 : decode c_U_takeLast 28 = .ok (.iload_n 1, 1) := by decide +kernel
theorem d_U_takeLast_29 : decode c_U_takeLast 29 = .ok (.ireturn, 1) := by decide +kernel
theorem d_U_empty_0 : decode c_U_empty 0 = .ok (.aload_n 0, 1) := by decide +kernel
theorem d_U_empty_1 : decode c_U_empty 1 = .ok (.iconst 0, 1) := by decide +kernel
theorem d_U_empty_2 : decode c_U_empty 2 = .ok (.putfield 15, 3) := by decide +kernel
theorem d_U_empty_5 : decode c_U_empty 5 = .ok (.return_, 1) := by decide +kernel
theorem d_U_isIndex_0 : decode c_U_isIndex 0 = .ok (.iload_n 1, 1) := by decide +kernel
theorem d_U_isIndex_1 : decode c_U_isIndex 1 = .ok (.ifCond .lt 24, 3) := by decide +kernel
theorem d_U_isIndex_4 : decode c_U_isIndex 4 = .ok (.iload_n 1, 1) := by decide +kernel
theorem d_U_isIndex_5 : decode c_U_isIndex 5 = .ok (.aload_n 0, 1) := by decide +kernel
theorem d_U_isIndex_6 : decode c_U_isIndex 6 = .ok (.getfield 15, 3) := by decide +kernel
theorem d_U_isIndex_9 : decode c_U_isIndex 9 = .ok (.if_icmp .ge 16, 3) := by decide +kernel
theorem d_U_isIndex_12 : decode c_U_isIndex 12 = .ok (.iload_n 1, 1) := by decide +kernel
theorem d_U_isIndex_13 : decode c_U_isIndex 13 = .ok (.aload_n 0, 1) := by decide +kernel
theorem d_U_isIndex_14 : decode c_U_isIndex 14 = .ok (.getfield 11, 3) := by decide +kernel
theorem d_U_isIndex_17 : decode c_U_isIndex 17 = .ok (.arraylength, 1) := by decide +kernel
theorem d_U_isIndex_18 : decode c_U_isIndex 18 = .ok (.if_icmp .ge 7, 3) := by decide +kernel
theorem d_U_isIndex_21 : decode c_U_isIndex 21 = .ok (.iconst 1, 1) := by decide +kernel
theorem d_U_isIndex_22 : decode c_U_isIndex 22 = .ok (.goto 4, 3) := by decide +kernel
theorem d_U_isIndex_25 : decode c_U_isIndex 25 = .ok (.iconst 0, 1) := by decide +kernel
theorem d_U_isIndex_26 : decode c_U_isIndex 26 = .ok (.ireturn, 1) := by decide +kernel
theorem d_P_init_0 : decode c_P_init 0 = .ok (.aload_n 0, 1) := by decide +kernel
theorem d_P_init_1 : decode c_P_init 1 = .ok (.invokespecial 1, 3) := by decide +kernel
theorem d_P_init_4 : decode c_P_init 4 = .ok (.aload_n 0, 1) := by decide +kernel
theorem d_P_init_5 : decode c_P_init 5 = .ok (.sipush 128, 3) := by decide +kernel
theorem d_P_init_8 : decode c_P_init 8 = .ok (.anewarray 9, 3) := by decide +kernel
theorem d_P_init_11 : decode c_P_init 11 = .ok (.putfield 11, 3) := by decide +kernel
theorem d_P_init_14 : decode c_P_init 14 = .ok (.return_, 1) := by decide +kernel
theorem d_L_link_0 : decode c_L_link 0 = .ok (.aload_n 3, 1) := by decide +kernel
theorem d_L_link_1 : decode c_L_link 1 = .ok (.iconst 0, 1) := by decide +kernel
theorem d_L_link_2 : decode c_L_link 2 = .ok (.aload_n 0, 1) := by decide +kernel
theorem d_L_link_3 : decode c_L_link 3 = .ok (.iload_n 1, 1) := by decide +kernel
theorem d_L_link_4 : decode c_L_link 4 = .ok (.iload_n 2, 1) := by decide +kernel
theorem d_L_link_5 : decode c_L_link 5 = .ok (.invokevirtual 7, 3) := by decide +kernel
theorem d_L_link_8 : decode c_L_link 8 = .ok (.ifCond .eq 7, 3) := by decide +kernel
theorem d_L_link_11 : decode c_L_link 11 = .ok (.lconst 1, 1) := by decide +kernel
theorem d_L_link_12 : decode c_L_link 12 = .ok (.goto 4, 3) := by decide +kernel
theorem d_L_link_15 : decode c_L_link 15 = .ok (.lconst 0, 1) := by decide +kernel
theorem d_L_link_16 : decode c_L_link 16 = .ok (.lastore, 1) := by decide +kernel
theorem d_L_link_17 : decode c_L_link 17 = .ok (.goto 11, 3) := by decide +kernel
theorem d_L_link_20 : decode c_L_link 20 = .ok (.astore 4, 2) := by decide +kernel
theorem d_L_link_22 : decode c_L_link 22 = .ok (.iconst 1, 1) := by decide +kernel
theorem d_L_link_23 : decode c_L_link 23 = .ok (.ireturn, 1) := by decide +kernel
theorem d_L_link_24 : decode c_L_link 24 = .ok (.astore 4, 2) := by decide +kernel
theorem d_L_link_26 : decode c_L_link 26 = .ok (.iconst 2, 1) := by decide +kernel
theorem d_L_link_27 : decode c_L_link 27 = .ok (.ireturn, 1) := by decide +kernel
theorem d_L_link_28 : decode c_L_link 28 = .ok (.iconst 0, 1) := by decide +kernel
theorem d_L_link_29 : decode c_L_link 29 = .ok (.ireturn, 1) := by decide +kernel
theorem d_L_unlink_0 : decode c_L_unlink 0 = .ok (.aload_n 3, 1) := by decide +kernel
theorem d_L_unlink_1 : decode c_L_unlink 1 = .ok (.iconst 0, 1) := by decide +kernel
theorem d_L_unlink_2 : decode c_L_unlink 2 = .ok (.aload_n 0, 1) := by decide +kernel
theorem d_L_unlink_3 : decode c_L_unlink 3 = .ok (.iload_n 1, 1) := by decide +kernel
theorem d_L_unlink_4 : decode c_L_unlink 4 = .ok (.iload_n 2, 1) := by decide +kernel
theorem d_L_unlink_5 : decode c_L_unlink 5 = .ok (.invokevirtual 17, 3) := by decide +kernel
theorem d_L_unlink_8 : decode c_L_unlink 8 = .ok (.ifCond .eq 7, 3) := by decide +kernel
theorem d_L_unlink_11 : decode c_L_unlink 11 = .ok (.lconst 1, 1) := by decide +kernel
theorem d_L_unlink_12 : decode c_L_unlink 12 = .ok (.goto 4, 3) := by decide +kernel
theorem d_L_unlink_15 : decode c_L_unlink 15 = .ok (.lconst 0, 1) := by decide +kernel
theorem d_L_unlink_16 : decode c_L_unlink 16 = .ok (.lastore, 1) := by decide +kernel
theorem d_L_unlink_17 : decode c_L_unlink 17 = .ok (.goto 7, 3) := by decide +kernel
theorem d_L_unlink_20 : decode c_L_unlink 20 = .ok (.astore 4, 2) := by decide +kernel
theorem d_L_unlink_22 : decode c_L_unlink 22 = .ok (.iconst 1, 1) := by decide +kernel
theorem d_L_unlink_23 : decode c_L_unlink 23 = .ok (.ireturn, 1) := by decide +kernel
theorem d_L_unlink_24 : decode c_L_unlink 24 = .ok (.iconst 0, 1) := by decide +kernel
theorem d_L_unlink_25 : decode c_L_unlink 25 = .ok (.ireturn, 1) := by decide +kernel
theorem d_L_clear_0 : decode c_L_clear 0 = .ok (.aload_n 2, 1) := by decide +kernel
theorem d_L_clear_1 : decode c_L_clear 1 = .ok (.iconst 0, 1) := by decide +kernel
theorem d_L_clear_2 : decode c_L_clear 2 = .ok (.aload_n 0, 1) := by decide +kernel
theorem d_L_clear_3 : decode c_L_clear 3 = .ok (.iload_n 1, 1) := by decide +kernel
theorem d_L_clear_4 : decode c_L_clear 4 = .ok (.invokevirtual 20, 3) := by decide +kernel
theorem d_L_clear_7 : decode c_L_clear 7 = .ok (.i2l, 1) := by decide +kernel
theorem d_L_clear_8 : decode c_L_clear 8 = .ok (.lastore, 1) := by decide +kernel
theorem d_L_clear_9 : decode c_L_clear 9 = .ok (.goto 6, 3) := by decide +kernel
theorem d_L_clear_12 : decode c_L_clear 12 = .ok (.astore_n 3, 1) := by decide +kernel
theorem d_L_clear_13 : decode c_L_clear 13 = .ok (.iconst 1, 1) := by decide +kernel
theorem d_L_clear_14 : decode c_L_clear 14 = .ok (.ireturn, 1) := by decide +kernel
theorem d_L_clear_15 : decode c_L_clear 15 = .ok (.iconst 0, 1) := by decide +kernel
theorem d_L_clear_16 : decode c_L_clear 16 = .ok (.ireturn, 1) := by decide +kernel
theorem d_L_touch_0 : decode c_L_touch 0 = .ok (.aload_n 0, 1) := by decide +kernel
theorem d_L_touch_1 : decode c_L_touch 1 = .ok (.iload_n 1, 1) := by decide +kernel
theorem d_L_touch_2 : decode c_L_touch 2 = .ok (.invokevirtual 24, 3) := by decide +kernel
theorem d_L_touch_5 : decode c_L_touch 5 = .ok (.goto 6, 3) := by decide +kernel
theorem d_L_touch_8 : decode c_L_touch 8 = .ok (.astore_n 2, 1) := by decide +kernel
theorem d_L_touch_9 : decode c_L_touch 9 = .ok (.iconst 1, 1) := by decide +kernel
theorem d_L_touch_10 : decode c_L_touch 10 = .ok (.ireturn, 1) := by decide +kernel
theorem d_L_touch_11 : decode c_L_touch 11 = .ok (.iconst 0, 1) := by decide +kernel
theorem d_L_touch_12 : decode c_L_touch 12 = .ok (.ireturn, 1) := by decide +kernel
