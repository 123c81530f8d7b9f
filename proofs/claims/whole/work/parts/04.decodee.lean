theorem d_M_links_0 : decode c_M_links 0 = .ok (.aload_n 0, 1) := by decide +kernel
theorem d_M_links_1 : decode c_M_links 1 = .ok (.iconst 0, 1) := by decide +kernel
theorem d_M_links_2 : decode c_M_links 2 = .ok (.putfield 35, 3) := by decide +kernel
theorem d_M_links_5 : decode c_M_links 5 = .ok (.iload_n 1, 1) := by decide +kernel
theorem d_M_links_6 : decode c_M_links 6 = .ok (.invokestatic 49, 3) := by decide +kernel
theorem d_M_links_9 : decode c_M_links 9 = .ok (.ifCond .eq 12, 3) := by decide +kernel
theorem d_M_links_12 : decode c_M_links 12 = .ok (.iload_n 2, 1) := by decide +kernel
theorem d_M_links_13 : decode c_M_links 13 = .ok (.ifCond .lt 8, 3) := by decide +kernel
theorem d_M_links_16 : decode c_M_links 16 = .ok (.iload_n 2, 1) := by decide +kernel
theorem d_M_links_17 : decode c_M_links 17 = .ok (.iconst 1, 1) := by decide +kernel
theorem d_M_links_18 : decode c_M_links 18 = .ok (.if_icmp .le 5, 3) := by decide +kernel
theorem d_M_links_21 : decode c_M_links 21 = .ok (.iconst (-1), 1) := by decide +kernel
theorem d_M_links_22 : decode c_M_links 22 = .ok (.ireturn, 1) := by decide +kernel
theorem d_M_links_23 : decode c_M_links 23 = .ok (.aload_n 0, 1) := by decide +kernel
theorem d_M_links_24 : decode c_M_links 24 = .ok (.iload_n 1, 1) := by decide +kernel
theorem d_M_links_25 : decode c_M_links 25 = .ok (.invokevirtual 42, 3) := by decide +kernel
theorem d_M_links_28 : decode c_M_links 28 = .ok (.istore_n 3, 1) := by decide +kernel
theorem d_M_links_29 : decode c_M_links 29 = .ok (.iconst 0, 1) := by decide +kernel
theorem d_M_links_30 : decode c_M_links 30 = .ok (.istore 4, 2) := by decide +kernel
theorem d_M_links_32 : decode c_M_links 32 = .ok (.iconst 0, 1) := by decide +kernel
theorem d_M_links_33 : decode c_M_links 33 = .ok (.istore 5, 2) := by decide +kernel
theorem d_M_links_35 : decode c_M_links 35 = .ok (.iload 5, 2) := by decide +kernel
theorem d_M_links_37 : decode c_M_links 37 = .ok (.aload_n 0, 1) := by decide +kernel
theorem d_M_links_38 : decode c_M_links 38 = .ok (.getfield 46, 3) := by decide +kernel
theorem d_M_links_41 : decode c_M_links 41 = .ok (.if_icmp .ge 44, 3) := by decide +kernel
theorem d_M_links_44 : decode c_M_links 44 = .ok (.iload 4, 2) := by decide +kernel
theorem d_M_links_46 : decode c_M_links 46 = .ok (.iload_n 2, 1) := by decide +kernel
theorem d_M_links_47 : decode c_M_links 47 = .ok (.ifCond .ne 13, 3) := by decide +kernel
theorem d_M_links_50 : decode c_M_links 50 = .ok (.aload_n 0, 1) := by decide +kernel
theorem d_M_links_51 : decode c_M_links 51 = .ok (.getfield 13, 3) := by decide +kernel
theorem d_M_links_54 : decode c_M_links 54 = .ok (.iload 5, 2) := by decide +kernel
theorem d_M_links_56 : decode c_M_links 56 = .ok (.iaload, 1) := by decide +kernel
theorem d_M_links_57 : decode c_M_links 57 = .ok (.goto 10, 3) := by decide +kernel
theorem d_M_links_60 : decode c_M_links 60 = .ok (.aload_n 0, 1) := by decide +kernel
theorem d_M_links_61 : decode c_M_links 61 = .ok (.getfield 7, 3) := by decide +kernel
theorem d_M_links_64 : decode c_M_links 64 = .ok (.iload 5, 2) := by decide +kernel
theorem d_M_links_66 : decode c_M_links 66 = .ok (.iaload, 1) := by decide +kernel
theorem d_M_links_67 : decode c_M_links 67 = .ok (.iload_n 3, 1) := by decide +kernel
theorem d_M_links_68 : decode c_M_links 68 = .ok (.if_icmp .ne 7, 3) := by decide +kernel
theorem d_M_links_71 : decode c_M_links 71 = .ok (.iconst 1, 1) := by decide +kernel
theorem d_M_links_72 : decode c_M_links 72 = .ok (.goto 4, 3) := by decide +kernel
theorem d_M_links_75 : decode c_M_links 75 = .ok (.iconst 0, 1) := by decide +kernel
theorem d_M_links_76 : decode c_M_links 76 = .ok (.iadd, 1) := by decide +kernel
theorem d_M_links_77 : decode c_M_links 77 = .ok (.istore 4, 2) := by decide +kernel
theorem d_M_links_79 : decode c_M_links 79 = .ok (.iinc 5 1, 3) := by decide +kernel
theorem d_M_links_82 : decode c_M_links 82 = .ok (.goto (-47), 3) := by decide +kernel
theorem d_M_links_85 : decode c_M_links 85 = .ok (.iload 4, 2) := by decide +kernel
theorem d_M_links_87 : decode c_M_links 87 = .ok (.ireturn, 1) := by decide +kernel
theorem d_M_touched_0 : decode c_M_touched 0 = .ok (.aload_n 0, 1) := by decide +kernel
theorem d_M_touched_1 : decode c_M_touched 1 = .ok (.iconst 0, 1) := by decide +kernel
theorem d_M_touched_2 : decode c_M_touched 2 = .ok (.putfield 35, 3) := by decide +kernel
theorem d_M_touched_5 : decode c_M_touched 5 = .ok (.iload_n 1, 1) := by decide +kernel
theorem d_M_touched_6 : decode c_M_touched 6 = .ok (.invokestatic 49, 3) := by decide +kernel
theorem d_M_touched_9 : decode c_M_touched 9 = .ok (.ifCond .eq 11, 3) := by decide +kernel
theorem d_M_touched_12 : decode c_M_touched 12 = .ok (.aload_n 0, 1) := by decide +kernel
theorem d_M_touched_13 : decode c_M_touched 13 = .ok (.iload_n 1, 1) := by decide +kernel
theorem d_M_touched_14 : decode c_M_touched 14 = .ok (.invokevirtual 42, 3) := by decide +kernel
theorem d_M_touched_17 : decode c_M_touched 17 = .ok (.goto 4, 3) := by decide +kernel
theorem d_M_touched_20 : decode c_M_touched 20 = .ok (.iconst (-1), 1) := by decide +kernel
theorem d_M_touched_21 : decode c_M_touched 21 = .ok (.istore_n 2, 1) := by decide +kernel
theorem d_M_touched_22 : decode c_M_touched 22 = .ok (.iload_n 2, 1) := by decide +kernel
theorem d_M_touched_23 : decode c_M_touched 23 = .ok (.ifCond .lt 16, 3) := by decide +kernel
theorem d_M_touched_26 : decode c_M_touched 26 = .ok (.aload_n 0, 1) := by decide +kernel
theorem d_M_touched_27 : decode c_M_touched 27 = .ok (.getfield 19, 3) := by decide +kernel
theorem d_M_touched_30 : decode c_M_touched 30 = .ok (.iload_n 2, 1) := by decide +kernel
theorem d_M_touched_31 : decode c_M_touched 31 = .ok (.baload, 1) := by decide +kernel
theorem d_M_touched_32 : decode c_M_touched 32 = .ok (.ifCond .eq 7, 3) := by decide +kernel
theorem d_M_touched_35 : decode c_M_touched 35 = .ok (.iconst 1, 1) := by decide +kernel
theorem d_M_touched_36 : decode c_M_touched 36 = .ok (.goto 4, 3) := by decide +kernel
theorem d_M_touched_39 : decode c_M_touched 39 = .ok (.iconst 0, 1) := by decide +kernel
theorem d_M_touched_40 : decode c_M_touched 40 = .ok (.ireturn, 1) := by decide +kernel
theorem d_F_init_0 : decode c_F_init 0 = .ok (.aload_n 0, 1) := by decide +kernel
theorem d_F_init_1 : decode c_F_init 1 = .ok (.invokespecial 1, 3) := by decide +kernel
theorem d_F_init_4 : decode c_F_init 4 = .ok (.aload_n 0, 1) := by decide +kernel
theorem d_F_init_5 : decode c_F_init 5 = .ok (.new 7, 3) := by decide +kernel
theorem d_F_init_8 : decode c_F_init 8 = .ok (.dup, 1) := by decide +kernel
theorem d_F_init_9 : decode c_F_init 9 = .ok (.invokespecial 9, 3) := by decide +kernel
theorem d_F_init_12 : decode c_F_init 12 = .ok (.putfield 10, 3) := by decide +kernel
theorem d_F_init_15 : decode c_F_init 15 = .ok (.return_, 1) := by decide +kernel
theorem d_F_isEmpty_0 : decode c_F_isEmpty 0 = .ok (.aload_n 0, 1) := by decide +kernel
theorem d_F_isEmpty_1 : decode c_F_isEmpty 1 = .ok (.getfield 10, 3) := by decide +kernel
theorem d_F_isEmpty_4 : decode c_F_isEmpty 4 = .ok (.getfield 16, 3) := by decide +kernel
theorem d_F_isEmpty_7 : decode c_F_isEmpty 7 = .ok (.ifCond .ne 7, 3) := by decide +kernel
theorem d_F_isEmpty_10 : decode c_F_isEmpty 10 = .ok (.iconst 1, 1) := by decide +kernel
theorem d_F_isEmpty_11 : decode c_F_isEmpty 11 = .ok (.goto 4, 3) := by decide +kernel
theorem d_F_isEmpty_14 : decode c_F_isEmpty 14 = .ok (.iconst 0, 1) := by decide +kernel
theorem d_F_isEmpty_15 : decode c_F_isEmpty 15 = .ok (.ireturn, 1) := by decide +kernel
theorem d_F_put_0 : decode c_F_put 0 = .ok (.aload_n 0, 1) := by decide +kernel
theorem d_F_put_1 : decode c_F_put 1 = .ok (.getfield 10, 3) := by decide +kernel
theorem d_F_put_4 : decode c_F_put 4 = .ok (.iload_n 1, 1) := by decide +kernel
theorem d_F_put_5 : decode c_F_put 5 = .ok (.invokevirtual 20, 3) := by decide +kernel
theorem d_F_put_8 : decode c_F_put 8 = .ok (.aload_n 0, 1) := by decide +kernel
theorem d_F_put_9 : decode c_F_put 9 = .ok (.getfield 10, 3) := by decide +kernel
theorem d_F_put_12 : decode c_F_put 12 = .ok (.getfield 16, 3) := by decide +kernel
theorem d_F_put_15 : decode c_F_put 15 = .ok (.iconst 1, 1) := by decide +kernel
theorem d_F_put_16 : decode c_F_put 16 = .ok (.isub, 1) := by decide +kernel
theorem d_F_put_17 : decode c_F_put 17 = .ok (.istore_n 2, 1) := by decide +kernel
theorem d_F_put_18 : decode c_F_put 18 = .ok (.iload_n 2, 1) := by decide +kernel
theorem d_F_put_19 : decode c_F_put 19 = .ok (.ifCond .le 45, 3) := by decide +kernel
theorem d_F_put_22 : decode c_F_put 22 = .ok (.iload_n 2, 1) := by decide +kernel
theorem d_F_put_23 : decode c_F_put 23 = .ok (.iconst 1, 1) := by decide +kernel
theorem d_F_put_24 : decode c_F_put 24 = .ok (.isub, 1) := by decide +kernel
theorem d_F_put_25 : decode c_F_put 25 = .ok (.iconst 1, 1) := by decide +kernel
theorem d_F_put_26 : decode c_F_put 26 = .ok (.ishr, 1) := by decide +kernel
theorem d_F_put_27 : decode c_F_put 27 = .ok (.istore_n 3, 1) := by decide +kernel
theorem d_F_put_28 : decode c_F_put 28 = .ok (.aload_n 0, 1) := by decide +kernel
theorem d_F_put_29 : decode c_F_put 29 = .ok (.getfield 10, 3) := by decide +kernel
theorem d_F_put_32 : decode c_F_put 32 = .ok (.iload_n 3, 1) := by decide +kernel
theorem d_F_put_33 : decode c_F_put 33 = .ok (.invokevirtual 24, 3) := by decide +kernel
theorem d_F_put_36 : decode c_F_put 36 = .ok (.iload_n 1, 1) := by decide +kernel
theorem d_F_put_37 : decode c_F_put 37 = .ok (.if_icmp .gt 6, 3) := by decide +kernel
theorem d_F_put_40 : decode c_F_put 40 = .ok (.goto 24, 3) := by decide +kernel
theorem d_F_put_43 : decode c_F_put 43 = .ok (.aload_n 0, 1) := by decide +kernel
theorem d_F_put_44 : decode c_F_put 44 = .ok (.getfield 10, 3) := by decide +kernel
theorem d_F_put_47 : decode c_F_put 47 = .ok (.iload_n 2, 1) := by decide +kernel
theorem d_F_put_48 : decode c_F_put 48 = .ok (.aload_n 0, 1) := by decide +kernel
theorem d_F_put_49 : decode c_F_put 49 = .ok (.getfield 10, 3) := by decide +kernel
theorem d_F_put_52 : decode c_F_put 52 = .ok (.iload_n 3, 1) := by decide +kernel
theorem d_F_put_53 : decode c_F_put 53 = .ok (.invokevirtual 24, 3) := by decide +kernel
theorem d_F_put_56 : decode c_F_put 56 = .ok (.invokevirtual 28, 3) := by decide +kernel
theorem d_F_put_59 : decode c_F_put 59 = .ok (.iload_n 3, 1) := by decide +kernel
theorem d_F_put_60 : decode c_F_put 60 = .ok (.istore_n 2, 1) := by decide +kernel
theorem d_F_put_61 : decode c_F_put 61 = .ok (.goto (-43), 3) := by decide +kernel
theorem d_F_put_64 : decode c_F_put 64 = .ok (.aload_n 0, 1) := by decide +kernel
theorem d_F_put_65 : decode c_F_put 65 = .ok (.getfield 10, 3) := by decide +kernel
theorem d_F_put_68 : decode c_F_put 68 = .ok (.iload_n 2, 1) := by decide +kernel
theorem d_F_put_69 : decode c_F_put 69 = .ok (.iload_n 1, 1) := by decide +kernel
theorem d_F_put_70 : decode c_F_put 70 = .ok (.invokevirtual 28, 3) := by decide +kernel
theorem d_F_put_73 : decode c_F_put 73 = .ok (.return_, 1) := by decide +kernel
theorem d_F_take_0 : decode c_F_take 0 = .ok (.aload_n 0, 1) := by decide +kernel
theorem d_F_take_1 : decode c_F_take 1 = .ok (.getfield 10, 3) := by decide +kernel
theorem d_F_take_4 : decode c_F_take 4 = .ok (.iconst 0, 1) := by decide +kernel
theorem d_F_take_5 : decode c_F_take 5 = .ok (.invokevirtual 24, 3) := by decide +kernel
theorem d_F_take_8 : decode c_F_take 8 = .ok (.istore_n 1, 1) := by decide +kernel
theorem d_F_take_9 : decode c_F_take 9 = .ok (.aload_n 0, 1) := by decide +kernel
theorem d_F_take_10 : decode c_F_take 10 = .ok (.getfield 10, 3) := by decide +kernel
theorem d_F_take_13 : decode c_F_take 13 = .ok (.invokevirtual 32, 3) := by decide +kernel
theorem d_F_take_16 : decode c_F_take 16 = .ok (.istore_n 2, 1) := by decide +kernel
theorem d_F_take_17 : decode c_F_take 17 = .ok (.aload_n 0, 1) := by decide +kernel
theorem d_F_take_18 : decode c_F_take 18 = .ok (.iload_n 2, 1) := by decide +kernel
theorem d_F_take_19 : decode c_F_take 19 = .ok (.invokevirtual 36, 3) := by decide +kernel
theorem d_F_take_22 : decode c_F_take 22 = .ok (.iload_n 1, 1) := by decide +kernel
theorem d_F_take_23 : decode c_F_take 23 = .ok (.ireturn, 1) := by decide +kernel
theorem d_F_sinkFromTop_0 : decode c_F_sinkFromTop 0 = .ok (.iconst 0, 1) := by decide +kernel
theorem d_F_sinkFromTop_1 : decode c_F_sinkFromTop 1 = .ok (.istore_n 2, 1) := by decide +kernel
theorem d_F_sinkFromTop_2 : decode c_F_sinkFromTop 2 = .ok (.iconst 2, 1) := by decide +kernel
theorem d_F_sinkFromTop_3 : decode c_F_sinkFromTop 3 = .ok (.iload_n 2, 1) := by decide +kernel
theorem d_F_sinkFromTop_4 : decode c_F_sinkFromTop 4 = .ok (.imul, 1) := by decide +kernel
theorem d_F_sinkFromTop_5 : decode c_F_sinkFromTop 5 = .ok (.iconst 1, 1) := by decide +kernel
theorem d_F_sinkFromTop_6 : decode c_F_sinkFromTop 6 = .ok (.iadd, 1) := by decide +kernel
theorem d_F_sinkFromTop_7 : decode c_F_sinkFromTop 7 = .ok (.aload_n 0, 1) := by decide +kernel
theorem d_F_sinkFromTop_8 : decode c_F_sinkFromTop 8 = .ok (.getfield 10, 3) := by decide +kernel
theorem d_F_sinkFromTop_11 : decode c_F_sinkFromTop 11 = .ok (.getfield 16, 3) := by decide +kernel
theorem d_F_sinkFromTop_14 : decode c_F_sinkFromTop 14 = .ok (.if_icmp .ge 45, 3) := by decide +kernel
theorem d_F_sinkFromTop_17 : decode c_F_sinkFromTop 17 = .ok (.aload_n 0, 1) := by decide +kernel
theorem d_F_sinkFromTop_18 : decode c_F_sinkFromTop 18 = .ok (.iload_n 2, 1) := by decide +kernel
theorem d_F_sinkFromTop_19 : decode c_F_sinkFromTop 19 = .ok (.invokevirtual 39, 3) := by decide +kernel
theorem d_F_sinkFromTop_22 : decode c_F_sinkFromTop 22 = .ok (.istore_n 3, 1) := by decide +kernel
theorem d_F_sinkFromTop_23 : decode c_F_sinkFromTop 23 = .ok (.aload_n 0, 1) := by decide +kernel
theorem d_F_sinkFromTop_24 : decode c_F_sinkFromTop 24 = .ok (.getfield 10, 3) := by decide +kernel
theorem d_F_sinkFromTop_27 : decode c_F_sinkFromTop 27 = .ok (.iload_n 3, 1) := by decide +kernel
theorem d_F_sinkFromTop_28 : decode c_F_sinkFromTop 28 = .ok (.invokevirtual 24, 3) := by decide +kernel
theorem d_F_sinkFromTop_31 : decode c_F_sinkFromTop 31 = .ok (.iload_n 1, 1) := by decide +kernel
theorem d_F_sinkFromTop_32 : decode c_F_sinkFromTop 32 = .ok (.if_icmp .lt 6, 3) := by decide +kernel
theorem d_F_sinkFromTop_35 : decode c_F_sinkFromTop 35 = .ok (.goto 24, 3) := by decide +kernel
theorem d_F_sinkFromTop_38 : decode c_F_sinkFromTop 38 = .ok (.aload_n 0, 1) := by decide +kernel
theorem d_F_sinkFromTop_39 : decode c_F_sinkFromTop 39 = .ok (.getfield 10, 3) := by decide +kernel
theorem d_F_sinkFromTop_42 : decode c_F_sinkFromTop 42 = .ok (.iload_n 2, 1) := by decide +kernel
theorem d_F_sinkFromTop_43 : decode c_F_sinkFromTop 43 = .ok (.aload_n 0, 1) := by decide +kernel
theorem d_F_sinkFromTop_44 : decode c_F_sinkFromTop 44 = .ok (.getfield 10, 3) := by decide +kernel
theorem d_F_sinkFromTop_47 : decode c_F_sinkFromTop 47 = .ok (.iload_n 3, 1) := by decide +kernel
theorem d_F_sinkFromTop_48 : decode c_F_sinkFromTop 48 = .ok (.invokevirtual 24, 3) := by decide +kernel
theorem d_F_sinkFromTop_51 : decode c_F_sinkFromTop 51 = .ok (.invokevirtual 28, 3) := by decide +kernel
theorem d_F_sinkFromTop_54 : decode c_F_sinkFromTop 54 = .ok (.iload_n 3, 1) := by decide +kernel
theorem d_F_sinkFromTop_55 : decode c_F_sinkFromTop 55 = .ok (.istore_n 2, 1) := by decide +kernel
theorem d_F_sinkFromTop_56 : decode c_F_sinkFromTop 56 = .ok (.goto (-54), 3) := by decide +kernel
theorem d_F_sinkFromTop_59 : decode c_F_sinkFromTop 59 = .ok (.aload_n 0, 1) := by decide +kernel
theorem d_F_sinkFromTop_60 : decode c_F_sinkFromTop 60 = .ok (.getfield 10, 3) := by decide +kernel
theorem d_F_sinkFromTop_63 : decode c_F_sinkFromTop 63 = .ok (.iload_n 2, 1) := by decide +kernel
theorem d_F_sinkFromTop_64 : decode c_F_sinkFromTop 64 = .ok (.iload_n 1, 1) := by decide +kernel
theorem d_F_sinkFromTop_65 : decode c_F_sinkFromTop 65 = .ok (.invokevirtual 28, 3) := by decide +kernel
theorem d_F_sinkFromTop_68 : decode c_F_sinkFromTop 68 = .ok (.return_, 1) := by decide +kernel
theorem d_F_lesserBelow_0 : decode c_F_lesserBelow 0 = .ok (.iconst 2, 1) := by decide +kernel
theorem d_F_lesserBelow_1 : decode c_F_lesserBelow 1 = .ok (.iload_n 1, 1) := by decide +kernel
theorem d_F_lesserBelow_2 : decode c_F_lesserBelow 2 = .ok (.imul, 1) := by decide +kernel
theorem d_F_lesserBelow_3 : decode c_F_lesserBelow 3 = .ok (.iconst 1, 1) := by decide +kernel
theorem d_F_lesserBelow_4 : decode c_F_lesserBelow 4 = .ok (.iadd, 1) := by decide +kernel
theorem d_F_lesserBelow_5 : decode c_F_lesserBelow 5 = .ok (.istore_n 2, 1) := by decide +kernel
theorem d_F_lesserBelow_6 : decode c_F_lesserBelow 6 = .ok (.iload_n 2, 1) := by decide +kernel
theorem d_F_lesserBelow_7 : decode c_F_lesserBelow 7 = .ok (.iconst 1, 1) := by decide +kernel
theorem d_F_lesserBelow_8 : decode c_F_lesserBelow 8 = .ok (.iadd, 1) := by decide +kernel
theorem d_F_lesserBelow_9 : decode c_F_lesserBelow 9 = .ok (.istore_n 3, 1) := by decide +kernel
theorem d_F_lesserBelow_10 : decode c_F_lesserBelow 10 = .ok (.iload_n 3, 1) := by decide +kernel
theorem d_F_lesserBelow_11 : decode c_F_lesserBelow 11 = .ok (.aload_n 0, 1) := by decide +kernel
theorem d_F_lesserBelow_12 : decode c_F_lesserBelow 12 = .ok (.getfield 10, 3) := by decide +kernel
theorem d_F_lesserBelow_15 : decode c_F_lesserBelow 15 = .ok (.getfield 16, 3) := by decide +kernel
theorem d_F_lesserBelow_18 : decode c_F_lesserBelow 18 = .ok (.if_icmp .ge 26, 3) := by decide +kernel
theorem d_F_lesserBelow_21 : decode c_F_lesserBelow 21 = .ok (.aload_n 0, 1) := by decide +kernel
theorem d_F_lesserBelow_22 : decode c_F_lesserBelow 22 = .ok (.getfield 10, 3) := by decide +kernel
theorem d_F_lesserBelow_25 : decode c_F_lesserBelow 25 = .ok (.iload_n 3, 1) := by decide +kernel
theorem d_F_lesserBelow_26 : decode c_F_lesserBelow 26 = .ok (.invokevirtual 24, 3) := by decide +kernel
theorem d_F_lesserBelow_29 : decode c_F_lesserBelow 29 = .ok (.aload_n 0, 1) := by decide +kernel
theorem d_F_lesserBelow_30 : decode c_F_lesserBelow 30 = .ok (.getfield 10, 3) := by decide +kernel
theorem d_F_lesserBelow_33 : decode c_F_lesserBelow 33 = .ok (.iload_n 2, 1) := by decide +kernel
theorem d_F_lesserBelow_34 : decode c_F_lesserBelow 34 = .ok (.invokevirtual 24, 3) := by decide +kernel
theorem d_F_lesserBelow_37 : decode c_F_lesserBelow 37 = .ok (.if_icmp .ge 7, 3) := by decide +kernel
theorem d_F_lesserBelow_40 : decode c_F_lesserBelow 40 = .ok (.iload_n 3, 1) := by decide +kernel
theorem d_F_lesserBelow_41 : decode c_F_lesserBelow 41 = .ok (.goto 4, 3) := by decide +kernel
theorem d_F_lesserBelow_44 : decode c_F_lesserBelow 44 = .ok (.iload_n 2, 1) := by decide +kernel
theorem d_F_lesserBelow_45 : decode c_F_lesserBelow 45 = .ok (.ireturn, 1) := by decide +kernel
theorem d_K_init_0 : decode c_K_init 0 = .ok (.aload_n 0, 1) := by decide +kernel
theorem d_K_init_1 : decode c_K_init 1 = .ok (.invokespecial 1, 3) := by decide +kernel
theorem d_K_init_4 : decode c_K_init 4 = .ok (.aload_n 0, 1) := by decide +kernel
theorem d_K_init_5 : decode c_K_init 5 = .ok (.aload_n 1, 1) := by decide +kernel
theorem d_K_init_6 : decode c_K_init 6 = .ok (.putfield 7, 3) := by decide +kernel
theorem d_K_init_9 : decode c_K_init 9 = .ok (.aload_n 0, 1) := by decide +kernel
theorem d_K_init_10 : decode c_K_init 10 = .ok (.aload_n 2, 1) := by decide +kernel
theorem d_K_init_11 : decode c_K_init 11 = .ok (.putfield 13, 3) := by decide +kernel
theorem d_K_init_14 : decode c_K_init 14 = .ok (.return_, 1) := by decide +kernel
theorem d_K_fasten_0 : decode c_K_fasten 0 = .ok (.aload_n 0, 1) := by decide +kernel
theorem d_K_fasten_1 : decode c_K_fasten 1 = .ok (.invokevirtual 16, 3) := by decide +kernel
theorem d_K_fasten_4 : decode c_K_fasten 4 = .ok (.aload_n 0, 1) := by decide +kernel
theorem d_K_fasten_5 : decode c_K_fasten 5 = .ok (.invokevirtual 19, 3) := by decide +kernel
theorem d_K_fasten_8 : decode c_K_fasten 8 = .ok (.return_, 1) := by decide +kernel
theorem d_K_loosen_0 : decode c_K_loosen 0 = .ok (.aload_n 0, 1) := by decide +kernel
theorem d_K_loosen_1 : decode c_K_loosen 1 = .ok (.invokevirtual 22, 3) := by decide +kernel
theorem d_K_loosen_4 : decode c_K_loosen 4 = .ok (.aload_n 0, 1) := by decide +kernel
theorem d_K_loosen_5 : decode c_K_loosen 5 = .ok (.invokevirtual 25, 3) := by decide +kernel
theorem d_K_loosen_8 : decode c_K_loosen 8 = .ok (.return_, 1) := by decide +kernel
theorem d_K_joinReader_0 : decode c_K_joinReader 0 = .ok (.aload_n 0, 1) := by decide +kernel
theorem d_K_joinReader_1 : decode c_K_joinReader 1 = .ok (.aload_n 0, 1) := by decide +kernel
theorem d_K_joinReader_2 : decode c_K_joinReader 2 = .ok (.getfield 7, 3) := by decide +kernel
theorem d_K_joinReader_5 : decode c_K_joinReader 5 = .ok (.getfield 28, 3) := by decide +kernel
theorem d_K_joinReader_8 : decode c_K_joinReader 8 = .ok (.putfield 34, 3) := by decide +kernel
theorem d_K_joinReader_11 : decode c_K_joinReader 11 = .ok (.aload_n 0, 1) := by decide +kernel
theorem d_K_joinReader_12 : decode c_K_joinReader 12 = .ok (.getfield 34, 3) := by decide +kernel
theorem d_K_joinReader_15 : decode c_K_joinReader 15 = .ok (.ifnull 11, 3) := by decide +kernel
theorem d_K_joinReader_18 : decode c_K_joinReader 18 = .ok (.aload_n 0, 1) := by decide +kernel
theorem d_K_joinReader_19 : decode c_K_joinReader 19 = .ok (.getfield 34, 3) := by decide +kernel
theorem d_K_joinReader_22 : decode c_K_joinReader 22 = .ok (.aload_n 0, 1) := by decide +kernel
theorem d_K_joinReader_23 : decode c_K_joinReader 23 = .ok (.putfield 37, 3) := by decide +kernel
theorem d_K_joinReader_26 : decode c_K_joinReader 26 = .ok (.aload_n 0, 1) := by decide +kernel
theorem d_K_joinReader_27 : decode c_K_joinReader 27 = .ok (.getfield 7, 3) := by decide +kernel
theorem d_K_joinReader_30 : decode c_K_joinReader 30 = .ok (.aload_n 0, 1) := by decide +kernel
theorem d_K_joinReader_31 : decode c_K_joinReader 31 = .ok (.putfield 28, 3) := by decide +kernel
theorem d_K_joinReader_34 : decode c_K_joinReader 34 = .ok (.aload_n 0, 1) := by decide +kernel
theorem d_K_joinReader_35 : decode c_K_joinReader 35 = .ok (.getfield 7, 3) := by decide +kernel
theorem d_K_joinReader_38 : decode c_K_joinReader 38 = .ok (.dup, 1) := by decide +kernel
theorem d_K_joinReader_39 : decode c_K_joinReader 39 = .ok (.getfield 40, 3) := by decide +kernel
theorem d_K_joinReader_42 : decode c_K_joinReader 42 = .ok (.iconst 1, 1) := by decide +kernel
theorem d_K_joinReader_43 : decode c_K_joinReader 43 = .ok (.iadd, 1) := by decide +kernel
theorem d_K_joinReader_44 : decode c_K_joinReader 44 = .ok (.putfield 40, 3) := by decide +kernel
theorem d_K_joinReader_47 : decode c_K_joinReader 47 = .ok (.return_, 1) := by decide +kernel
theorem d_K_joinSource_0 : decode c_K_joinSource 0 = .ok (.aload_n 0, 1) := by decide +kernel
theorem d_K_joinSource_1 : decode c_K_joinSource 1 = .ok (.aload_n 0, 1) := by decide +kernel
theorem d_K_joinSource_2 : decode c_K_joinSource 2 = .ok (.getfield 13, 3) := by decide +kernel
theorem d_K_joinSource_5 : decode c_K_joinSource 5 = .ok (.getfield 44, 3) := by decide +kernel
theorem d_K_joinSource_8 : decode c_K_joinSource 8 = .ok (.putfield 47, 3) := by decide +kernel
theorem d_K_joinSource_11 : decode c_K_joinSource 11 = .ok (.aload_n 0, 1) := by decide +kernel
theorem d_K_joinSource_12 : decode c_K_joinSource 12 = .ok (.getfield 47, 3) := by decide +kernel
theorem d_K_joinSource_15 : decode c_K_joinSource 15 = .ok (.ifnull 11, 3) := by decide +kernel
theorem d_K_joinSource_18 : decode c_K_joinSource 18 = .ok (.aload_n 0, 1) := by decide +kernel
theorem d_K_joinSource_19 : decode c_K_joinSource 19 = .ok (.getfield 47, 3) := by decide +kernel
theorem d_K_joinSource_22 : decode c_K_joinSource 22 = .ok (.aload_n 0, 1) := by decide +kernel
theorem d_K_joinSource_23 : decode c_K_joinSource 23 = .ok (.putfield 50, 3) := by decide +kernel
theorem d_K_joinSource_26 : decode c_K_joinSource 26 = .ok (.aload_n 0, 1) := by decide +kernel
theorem d_K_joinSource_27 : decode c_K_joinSource 27 = .ok (.getfield 13, 3) := by decide +kernel
theorem d_K_joinSource_30 : decode c_K_joinSource 30 = .ok (.aload_n 0, 1) := by decide +kernel
theorem d_K_joinSource_31 : decode c_K_joinSource 31 = .ok (.putfield 44, 3) := by decide +kernel
theorem d_K_joinSource_34 : decode c_K_joinSource 34 = .ok (.aload_n 0, 1) := by decide +kernel
theorem d_K_joinSource_35 : decode c_K_joinSource 35 = .ok (.getfield 13, 3) := by decide +kernel
theorem d_K_joinSource_38 : decode c_K_joinSource 38 = .ok (.dup, 1) := by decide +kernel
theorem d_K_joinSource_39 : decode c_K_joinSource 39 = .ok (.getfield 53, 3) := by decide +kernel
theorem d_K_joinSource_42 : decode c_K_joinSource 42 = .ok (.iconst 1, 1) := by decide +kernel
theorem d_K_joinSource_43 : decode c_K_joinSource 43 = .ok (.iadd, 1) := by decide +kernel
theorem d_K_joinSource_44 : decode c_K_joinSource 44 = .ok (.putfield 53, 3) := by decide +kernel
theorem d_K_joinSource_47 : decode c_K_joinSource 47 = .ok (.return_, 1) := by decide +kernel
theorem d_K_leaveReader_0 : decode c_K_leaveReader 0 = .ok (.aload_n 0, 1) := by decide +kernel
theorem d_K_leaveReader_1 : decode c_K_leaveReader 1 = .ok (.getfield 37, 3) := by decide +kernel
theorem d_K_leaveReader_4 : decode c_K_leaveReader 4 = .ok (.ifnonnull 17, 3) := by decide +kernel
theorem d_K_leaveReader_7 : decode c_K_leaveReader 7 = .ok (.aload_n 0, 1) := by decide +kernel
theorem d_K_leaveReader_8 : decode c_K_leaveReader 8 = .ok (.getfield 7, 3) := by decide +kernel
theorem d_K_leaveReader_11 : decode c_K_leaveReader 11 = .ok (.aload_n 0, 1) := by decide +kernel
theorem d_K_leaveReader_12 : decode c_K_leaveReader 12 = .ok (.getfield 34, 3) := by decide +kernel
theorem d_K_leaveReader_15 : decode c_K_leaveReader 15 = .ok (.putfield 28, 3) := by decide +kernel
theorem d_K_leaveReader_18 : decode c_K_leaveReader 18 = .ok (.goto 14, 3) := by decide +kernel
theorem d_K_leaveReader_21 : decode c_K_leaveReader 21 = .ok (.aload_n 0, 1) := by decide +kernel
theorem d_K_leaveReader_22 : decode c_K_leaveReader 22 = .ok (.getfield 37, 3) := by decide +kernel
theorem d_K_leaveReader_25 : decode c_K_leaveReader 25 = .ok (.aload_n 0, 1) := by decide +kernel
theorem d_K_leaveReader_26 : decode c_K_leaveReader 26 = .ok (.getfield 34, 3) := by decide +kernel
theorem d_K_leaveReader_29 : decode c_K_leaveReader 29 = .ok (.putfield 34, 3) := by decide +kernel
theorem d_K_leaveReader_32 : decode c_K_leaveReader 32 = .ok (.aload_n 0, 1) := by decide +kernel
theorem d_K_leaveReader_33 : decode c_K_leaveReader 33 = .ok (.getfield 34, 3) := by decide +kernel
theorem d_K_leaveReader_36 : decode c_K_leaveReader 36 = .ok (.ifnull 14, 3) := by decide +kernel
theorem d_K_leaveReader_39 : decode c_K_leaveReader 39 = .ok (.aload_n 0, 1) := by decide +kernel
theorem d_K_leaveReader_40 : decode c_K_leaveReader 40 = .ok (.getfield 34, 3) := by decide +kernel
theorem d_K_leaveReader_43 : decode c_K_leaveReader 43 = .ok (.aload_n 0, 1) := by decide +kernel
theorem d_K_leaveReader_44 : decode c_K_leaveReader 44 = .ok (.getfield 37, 3) := by decide +kernel
theorem d_K_leaveReader_47 : decode c_K_leaveReader 47 = .ok (.putfield 37, 3) := by decide +kernel
theorem d_K_leaveReader_50 : decode c_K_leaveReader 50 = .ok (.aload_n 0, 1) := by decide +kernel
theorem d_K_leaveReader_51 : decode c_K_leaveReader 51 = .ok (.getfield 7, 3) := by decide +kernel
theorem d_K_leaveReader_54 : decode c_K_leaveReader 54 = .ok (.dup, 1) := by decide +kernel
theorem d_K_leaveReader_55 : decode c_K_leaveReader 55 = .ok (.getfield 40, 3) := by decide +kernel
theorem d_K_leaveReader_58 : decode c_K_leaveReader 58 = .ok (.iconst 1, 1) := by decide +kernel
theorem d_K_leaveReader_59 : decode c_K_leaveReader 59 = .ok (.isub, 1) := by decide +kernel
theorem d_K_leaveReader_60 : decode c_K_leaveReader 60 = .ok (.putfield 40, 3) := by decide +kernel
theorem d_K_leaveReader_63 : decode c_K_leaveReader 63 = .ok (.return_, 1) := by decide +kernel
