theorem d_M_cut_0 : decode c_M_cut 0 = .ok (.iload_n 1, 1) := by decide +kernel
theorem d_M_cut_1 : decode c_M_cut 1 = .ok (.istore_n 2, 1) := by decide +kernel
theorem d_M_cut_2 : decode c_M_cut 2 = .ok (.iload_n 2, 1) := by decide +kernel
theorem d_M_cut_3 : decode c_M_cut 3 = .ok (.iconst 1, 1) := by decide +kernel
theorem d_M_cut_4 : decode c_M_cut 4 = .ok (.iadd, 1) := by decide +kernel
theorem d_M_cut_5 : decode c_M_cut 5 = .ok (.aload_n 0, 1) := by decide +kernel
theorem d_M_cut_6 : decode c_M_cut 6 = .ok (.getfield 46, 3) := by decide +kernel
theorem d_M_cut_9 : decode c_M_cut 9 = .ok (.if_icmp .ge 37, 3) := by decide +kernel
theorem d_M_cut_12 : decode c_M_cut 12 = .ok (.aload_n 0, 1) := by decide +kernel
theorem d_M_cut_13 : decode c_M_cut 13 = .ok (.getfield 7, 3) := by decide +kernel
theorem d_M_cut_16 : decode c_M_cut 16 = .ok (.iload_n 2, 1) := by decide +kernel
theorem d_M_cut_17 : decode c_M_cut 17 = .ok (.aload_n 0, 1) := by decide +kernel
theorem d_M_cut_18 : decode c_M_cut 18 = .ok (.getfield 7, 3) := by decide +kernel
theorem d_M_cut_21 : decode c_M_cut 21 = .ok (.iload_n 2, 1) := by decide +kernel
theorem d_M_cut_22 : decode c_M_cut 22 = .ok (.iconst 1, 1) := by decide +kernel
theorem d_M_cut_23 : decode c_M_cut 23 = .ok (.iadd, 1) := by decide +kernel
theorem d_M_cut_24 : decode c_M_cut 24 = .ok (.iaload, 1) := by decide +kernel
theorem d_M_cut_25 : decode c_M_cut 25 = .ok (.iastore, 1) := by decide +kernel
theorem d_M_cut_26 : decode c_M_cut 26 = .ok (.aload_n 0, 1) := by decide +kernel
theorem d_M_cut_27 : decode c_M_cut 27 = .ok (.getfield 13, 3) := by decide +kernel
theorem d_M_cut_30 : decode c_M_cut 30 = .ok (.iload_n 2, 1) := by decide +kernel
theorem d_M_cut_31 : decode c_M_cut 31 = .ok (.aload_n 0, 1) := by decide +kernel
theorem d_M_cut_32 : decode c_M_cut 32 = .ok (.getfield 13, 3) := by decide +kernel
theorem d_M_cut_35 : decode c_M_cut 35 = .ok (.iload_n 2, 1) := by decide +kernel
theorem d_M_cut_36 : decode c_M_cut 36 = .ok (.iconst 1, 1) := by decide +kernel
theorem d_M_cut_37 : decode c_M_cut 37 = .ok (.iadd, 1) := by decide +kernel
theorem d_M_cut_38 : decode c_M_cut 38 = .ok (.iaload, 1) := by decide +kernel
theorem d_M_cut_39 : decode c_M_cut 39 = .ok (.iastore, 1) := by decide +kernel
theorem d_M_cut_40 : decode c_M_cut 40 = .ok (.iinc 2 1, 3) := by decide +kernel
theorem d_M_cut_43 : decode c_M_cut 43 = .ok (.goto (-41), 3) := by decide +kernel
theorem d_M_cut_46 : decode c_M_cut 46 = .ok (.aload_n 0, 1) := by decide +kernel
theorem d_M_cut_47 : decode c_M_cut 47 = .ok (.dup, 1) := by decide +kernel
theorem d_M_cut_48 : decode c_M_cut 48 = .ok (.getfield 46, 3) := by decide +kernel
theorem d_M_cut_51 : decode c_M_cut 51 = .ok (.iconst 1, 1) := by decide +kernel
theorem d_M_cut_52 : decode c_M_cut 52 = .ok (.isub, 1) := by decide +kernel
theorem d_M_cut_53 : decode c_M_cut 53 = .ok (.putfield 46, 3) := by decide +kernel
theorem d_M_cut_56 : decode c_M_cut 56 = .ok (.return_, 1) := by decide +kernel
theorem d_M_link_0 : decode c_M_link 0 = .ok (.aload_n 0, 1) := by decide +kernel
theorem d_M_link_1 : decode c_M_link 1 = .ok (.iload_n 1, 1) := by decide +kernel
theorem d_M_link_2 : decode c_M_link 2 = .ok (.invokestatic 49, 3) := by decide +kernel
theorem d_M_link_5 : decode c_M_link 5 = .ok (.ifCond .eq 14, 3) := by decide +kernel
theorem d_M_link_8 : decode c_M_link 8 = .ok (.iload_n 2, 1) := by decide +kernel
theorem d_M_link_9 : decode c_M_link 9 = .ok (.invokestatic 49, 3) := by decide +kernel
theorem d_M_link_12 : decode c_M_link 12 = .ok (.ifCond .eq 7, 3) := by decide +kernel
theorem d_M_link_15 : decode c_M_link 15 = .ok (.iconst 0, 1) := by decide +kernel
theorem d_M_link_16 : decode c_M_link 16 = .ok (.goto 4, 3) := by decide +kernel
theorem d_M_link_19 : decode c_M_link 19 = .ok (.iconst 1, 1) := by decide +kernel
theorem d_M_link_20 : decode c_M_link 20 = .ok (.putfield 35, 3) := by decide +kernel
theorem d_M_link_23 : decode c_M_link 23 = .ok (.aload_n 0, 1) := by decide +kernel
theorem d_M_link_24 : decode c_M_link 24 = .ok (.getfield 35, 3) := by decide +kernel
theorem d_M_link_27 : decode c_M_link 27 = .ok (.ifCond .eq 5, 3) := by decide +kernel
theorem d_M_link_30 : decode c_M_link 30 = .ok (.iconst 0, 1) := by decide +kernel
theorem d_M_link_31 : decode c_M_link 31 = .ok (.ireturn, 1) := by decide +kernel
theorem d_M_link_32 : decode c_M_link 32 = .ok (.aload_n 0, 1) := by decide +kernel
theorem d_M_link_33 : decode c_M_link 33 = .ok (.iload_n 1, 1) := by decide +kernel
theorem d_M_link_34 : decode c_M_link 34 = .ok (.invokevirtual 53, 3) := by decide +kernel
theorem d_M_link_37 : decode c_M_link 37 = .ok (.istore_n 3, 1) := by decide +kernel
theorem d_M_link_38 : decode c_M_link 38 = .ok (.aload_n 0, 1) := by decide +kernel
theorem d_M_link_39 : decode c_M_link 39 = .ok (.iload_n 2, 1) := by decide +kernel
theorem d_M_link_40 : decode c_M_link 40 = .ok (.invokevirtual 53, 3) := by decide +kernel
theorem d_M_link_43 : decode c_M_link 43 = .ok (.istore 4, 2) := by decide +kernel
theorem d_M_link_45 : decode c_M_link 45 = .ok (.aload_n 0, 1) := by decide +kernel
theorem d_M_link_46 : decode c_M_link 46 = .ok (.iload_n 3, 1) := by decide +kernel
theorem d_M_link_47 : decode c_M_link 47 = .ok (.iload 4, 2) := by decide +kernel
theorem d_M_link_49 : decode c_M_link 49 = .ok (.invokevirtual 56, 3) := by decide +kernel
theorem d_M_link_52 : decode c_M_link 52 = .ok (.ifCond .lt 5, 3) := by decide +kernel
theorem d_M_link_55 : decode c_M_link 55 = .ok (.iconst 0, 1) := by decide +kernel
theorem d_M_link_56 : decode c_M_link 56 = .ok (.ireturn, 1) := by decide +kernel
theorem d_M_link_57 : decode c_M_link 57 = .ok (.aload_n 0, 1) := by decide +kernel
theorem d_M_link_58 : decode c_M_link 58 = .ok (.getfield 7, 3) := by decide +kernel
theorem d_M_link_61 : decode c_M_link 61 = .ok (.aload_n 0, 1) := by decide +kernel
theorem d_M_link_62 : decode c_M_link 62 = .ok (.getfield 46, 3) := by decide +kernel
theorem d_M_link_65 : decode c_M_link 65 = .ok (.iload_n 3, 1) := by decide +kernel
theorem d_M_link_66 : decode c_M_link 66 = .ok (.iastore, 1) := by decide +kernel
theorem d_M_link_67 : decode c_M_link 67 = .ok (.aload_n 0, 1) := by decide +kernel
theorem d_M_link_68 : decode c_M_link 68 = .ok (.getfield 13, 3) := by decide +kernel
theorem d_M_link_71 : decode c_M_link 71 = .ok (.aload_n 0, 1) := by decide +kernel
theorem d_M_link_72 : decode c_M_link 72 = .ok (.getfield 46, 3) := by decide +kernel
theorem d_M_link_75 : decode c_M_link 75 = .ok (.iload 4, 2) := by decide +kernel
theorem d_M_link_77 : decode c_M_link 77 = .ok (.iastore, 1) := by decide +kernel
theorem d_M_link_78 : decode c_M_link 78 = .ok (.aload_n 0, 1) := by decide +kernel
theorem d_M_link_79 : decode c_M_link 79 = .ok (.dup, 1) := by decide +kernel
theorem d_M_link_80 : decode c_M_link 80 = .ok (.getfield 46, 3) := by decide +kernel
theorem d_M_link_83 : decode c_M_link 83 = .ok (.iconst 1, 1) := by decide +kernel
theorem d_M_link_84 : decode c_M_link 84 = .ok (.iadd, 1) := by decide +kernel
theorem d_M_link_85 : decode c_M_link 85 = .ok (.putfield 46, 3) := by decide +kernel
theorem d_M_link_88 : decode c_M_link 88 = .ok (.aload_n 0, 1) := by decide +kernel
theorem d_M_link_89 : decode c_M_link 89 = .ok (.getfield 19, 3) := by decide +kernel
theorem d_M_link_92 : decode c_M_link 92 = .ok (.iload_n 3, 1) := by decide +kernel
theorem d_M_link_93 : decode c_M_link 93 = .ok (.iconst 1, 1) := by decide +kernel
theorem d_M_link_94 : decode c_M_link 94 = .ok (.bastore, 1) := by decide +kernel
theorem d_M_link_95 : decode c_M_link 95 = .ok (.iconst 1, 1) := by decide +kernel
theorem d_M_link_96 : decode c_M_link 96 = .ok (.ireturn, 1) := by decide +kernel
theorem d_M_unlink_0 : decode c_M_unlink 0 = .ok (.aload_n 0, 1) := by decide +kernel
theorem d_M_unlink_1 : decode c_M_unlink 1 = .ok (.iload_n 1, 1) := by decide +kernel
theorem d_M_unlink_2 : decode c_M_unlink 2 = .ok (.invokestatic 49, 3) := by decide +kernel
theorem d_M_unlink_5 : decode c_M_unlink 5 = .ok (.ifCond .eq 14, 3) := by decide +kernel
theorem d_M_unlink_8 : decode c_M_unlink 8 = .ok (.iload_n 2, 1) := by decide +kernel
theorem d_M_unlink_9 : decode c_M_unlink 9 = .ok (.invokestatic 49, 3) := by decide +kernel
theorem d_M_unlink_12 : decode c_M_unlink 12 = .ok (.ifCond .eq 7, 3) := by decide +kernel
theorem d_M_unlink_15 : decode c_M_unlink 15 = .ok (.iconst 0, 1) := by decide +kernel
theorem d_M_unlink_16 : decode c_M_unlink 16 = .ok (.goto 4, 3) := by decide +kernel
theorem d_M_unlink_19 : decode c_M_unlink 19 = .ok (.iconst 1, 1) := by decide +kernel
theorem d_M_unlink_20 : decode c_M_unlink 20 = .ok (.putfield 35, 3) := by decide +kernel
theorem d_M_unlink_23 : decode c_M_unlink 23 = .ok (.aload_n 0, 1) := by decide +kernel
theorem d_M_unlink_24 : decode c_M_unlink 24 = .ok (.getfield 35, 3) := by decide +kernel
theorem d_M_unlink_27 : decode c_M_unlink 27 = .ok (.ifCond .ne 19, 3) := by decide +kernel
theorem d_M_unlink_30 : decode c_M_unlink 30 = .ok (.aload_n 0, 1) := by decide +kernel
theorem d_M_unlink_31 : decode c_M_unlink 31 = .ok (.iload_n 1, 1) := by decide +kernel
theorem d_M_unlink_32 : decode c_M_unlink 32 = .ok (.invokevirtual 42, 3) := by decide +kernel
theorem d_M_unlink_35 : decode c_M_unlink 35 = .ok (.ifCond .lt 11, 3) := by decide +kernel
theorem d_M_unlink_38 : decode c_M_unlink 38 = .ok (.aload_n 0, 1) := by decide +kernel
theorem d_M_unlink_39 : decode c_M_unlink 39 = .ok (.iload_n 2, 1) := by decide +kernel
theorem d_M_unlink_40 : decode c_M_unlink 40 = .ok (.invokevirtual 42, 3) := by decide +kernel
theorem d_M_unlink_43 : decode c_M_unlink 43 = .ok (.ifCond .ge 5, 3) := by decide +kernel
theorem d_M_unlink_46 : decode c_M_unlink 46 = .ok (.iconst 0, 1) := by decide +kernel
theorem d_M_unlink_47 : decode c_M_unlink 47 = .ok (.ireturn, 1) := by decide +kernel
theorem d_M_unlink_48 : decode c_M_unlink 48 = .ok (.aload_n 0, 1) := by decide +kernel
theorem d_M_unlink_49 : decode c_M_unlink 49 = .ok (.aload_n 0, 1) := by decide +kernel
theorem d_M_unlink_50 : decode c_M_unlink 50 = .ok (.iload_n 1, 1) := by decide +kernel
theorem d_M_unlink_51 : decode c_M_unlink 51 = .ok (.invokevirtual 42, 3) := by decide +kernel
theorem d_M_unlink_54 : decode c_M_unlink 54 = .ok (.aload_n 0, 1) := by decide +kernel
theorem d_M_unlink_55 : decode c_M_unlink 55 = .ok (.iload_n 2, 1) := by decide +kernel
theorem d_M_unlink_56 : decode c_M_unlink 56 = .ok (.invokevirtual 42, 3) := by decide +kernel
theorem d_M_unlink_59 : decode c_M_unlink 59 = .ok (.invokevirtual 56, 3) := by decide +kernel
theorem d_M_unlink_62 : decode c_M_unlink 62 = .ok (.istore_n 3, 1) := by decide +kernel
theorem d_M_unlink_63 : decode c_M_unlink 63 = .ok (.iload_n 3, 1) := by decide +kernel
theorem d_M_unlink_64 : decode c_M_unlink 64 = .ok (.ifCond .ge 5, 3) := by decide +kernel
theorem d_M_unlink_67 : decode c_M_unlink 67 = .ok (.iconst 0, 1) := by decide +kernel
theorem d_M_unlink_68 : decode c_M_unlink 68 = .ok (.ireturn, 1) := by decide +kernel
theorem d_M_unlink_69 : decode c_M_unlink 69 = .ok (.aload_n 0, 1) := by decide +kernel
theorem d_M_unlink_70 : decode c_M_unlink 70 = .ok (.iload_n 3, 1) := by decide +kernel
theorem d_M_unlink_71 : decode c_M_unlink 71 = .ok (.invokevirtual 60, 3) := by decide +kernel
theorem d_M_unlink_74 : decode c_M_unlink 74 = .ok (.aload_n 0, 1) := by decide +kernel
theorem d_M_unlink_75 : decode c_M_unlink 75 = .ok (.getfield 19, 3) := by decide +kernel
theorem d_M_unlink_78 : decode c_M_unlink 78 = .ok (.aload_n 0, 1) := by decide +kernel
theorem d_M_unlink_79 : decode c_M_unlink 79 = .ok (.iload_n 1, 1) := by decide +kernel
theorem d_M_unlink_80 : decode c_M_unlink 80 = .ok (.invokevirtual 42, 3) := by decide +kernel
theorem d_M_unlink_83 : decode c_M_unlink 83 = .ok (.iconst 1, 1) := by decide +kernel
theorem d_M_unlink_84 : decode c_M_unlink 84 = .ok (.bastore, 1) := by decide +kernel
theorem d_M_unlink_85 : decode c_M_unlink 85 = .ok (.iconst 1, 1) := by decide +kernel
theorem d_M_unlink_86 : decode c_M_unlink 86 = .ok (.ireturn, 1) := by decide +kernel
theorem d_M_clear_0 : decode c_M_clear 0 = .ok (.aload_n 0, 1) := by decide +kernel
theorem d_M_clear_1 : decode c_M_clear 1 = .ok (.iload_n 1, 1) := by decide +kernel
theorem d_M_clear_2 : decode c_M_clear 2 = .ok (.invokestatic 49, 3) := by decide +kernel
theorem d_M_clear_5 : decode c_M_clear 5 = .ok (.ifCond .eq 7, 3) := by decide +kernel
theorem d_M_clear_8 : decode c_M_clear 8 = .ok (.iconst 0, 1) := by decide +kernel
theorem d_M_clear_9 : decode c_M_clear 9 = .ok (.goto 4, 3) := by decide +kernel
theorem d_M_clear_12 : decode c_M_clear 12 = .ok (.iconst 1, 1) := by decide +kernel
theorem d_M_clear_13 : decode c_M_clear 13 = .ok (.putfield 35, 3) := by decide +kernel
theorem d_M_clear_16 : decode c_M_clear 16 = .ok (.aload_n 0, 1) := by decide +kernel
theorem d_M_clear_17 : decode c_M_clear 17 = .ok (.getfield 35, 3) := by decide +kernel
theorem d_M_clear_20 : decode c_M_clear 20 = .ok (.ifCond .eq 5, 3) := by decide +kernel
theorem d_M_clear_23 : decode c_M_clear 23 = .ok (.iconst 0, 1) := by decide +kernel
theorem d_M_clear_24 : decode c_M_clear 24 = .ok (.ireturn, 1) := by decide +kernel
theorem d_M_clear_25 : decode c_M_clear 25 = .ok (.aload_n 0, 1) := by decide +kernel
theorem d_M_clear_26 : decode c_M_clear 26 = .ok (.iload_n 1, 1) := by decide +kernel
theorem d_M_clear_27 : decode c_M_clear 27 = .ok (.invokevirtual 53, 3) := by decide +kernel
theorem d_M_clear_30 : decode c_M_clear 30 = .ok (.istore_n 2, 1) := by decide +kernel
theorem d_M_clear_31 : decode c_M_clear 31 = .ok (.iconst 0, 1) := by decide +kernel
theorem d_M_clear_32 : decode c_M_clear 32 = .ok (.istore_n 3, 1) := by decide +kernel
theorem d_M_clear_33 : decode c_M_clear 33 = .ok (.aload_n 0, 1) := by decide +kernel
theorem d_M_clear_34 : decode c_M_clear 34 = .ok (.getfield 46, 3) := by decide +kernel
theorem d_M_clear_37 : decode c_M_clear 37 = .ok (.iconst 1, 1) := by decide +kernel
theorem d_M_clear_38 : decode c_M_clear 38 = .ok (.isub, 1) := by decide +kernel
theorem d_M_clear_39 : decode c_M_clear 39 = .ok (.istore 4, 2) := by decide +kernel
theorem d_M_clear_41 : decode c_M_clear 41 = .ok (.iload 4, 2) := by decide +kernel
theorem d_M_clear_43 : decode c_M_clear 43 = .ok (.ifCond .lt 32, 3) := by decide +kernel
theorem d_M_clear_46 : decode c_M_clear 46 = .ok (.aload_n 0, 1) := by decide +kernel
theorem d_M_clear_47 : decode c_M_clear 47 = .ok (.getfield 7, 3) := by decide +kernel
theorem d_M_clear_50 : decode c_M_clear 50 = .ok (.iload 4, 2) := by decide +kernel
theorem d_M_clear_52 : decode c_M_clear 52 = .ok (.iaload, 1) := by decide +kernel
theorem d_M_clear_53 : decode c_M_clear 53 = .ok (.iload_n 2, 1) := by decide +kernel
theorem d_M_clear_54 : decode c_M_clear 54 = .ok (.if_icmp .eq 6, 3) := by decide +kernel
theorem d_M_clear_57 : decode c_M_clear 57 = .ok (.goto 12, 3) := by decide +kernel
theorem d_M_clear_60 : decode c_M_clear 60 = .ok (.aload_n 0, 1) := by decide +kernel
theorem d_M_clear_61 : decode c_M_clear 61 = .ok (.iload 4, 2) := by decide +kernel
theorem d_M_clear_63 : decode c_M_clear 63 = .ok (.invokevirtual 60, 3) := by decide +kernel
theorem d_M_clear_66 : decode c_M_clear 66 = .ok (.iinc 3 1, 3) := by decide +kernel
theorem d_M_clear_69 : decode c_M_clear 69 = .ok (.iinc 4 (-1), 3) := by decide +kernel
theorem d_M_clear_72 : decode c_M_clear 72 = .ok (.goto (-31), 3) := by decide +kernel
theorem d_M_clear_75 : decode c_M_clear 75 = .ok (.aload_n 0, 1) := by decide +kernel
theorem d_M_clear_76 : decode c_M_clear 76 = .ok (.getfield 19, 3) := by decide +kernel
theorem d_M_clear_79 : decode c_M_clear 79 = .ok (.iload_n 2, 1) := by decide +kernel
theorem d_M_clear_80 : decode c_M_clear 80 = .ok (.iconst 1, 1) := by decide +kernel
theorem d_M_clear_81 : decode c_M_clear 81 = .ok (.bastore, 1) := by decide +kernel
theorem d_M_clear_82 : decode c_M_clear 82 = .ok (.iload_n 3, 1) := by decide +kernel
theorem d_M_clear_83 : decode c_M_clear 83 = .ok (.ireturn, 1) := by decide +kernel
theorem d_M_touch_0 : decode c_M_touch 0 = .ok (.aload_n 0, 1) := by decide +kernel
theorem d_M_touch_1 : decode c_M_touch 1 = .ok (.iload_n 1, 1) := by decide +kernel
theorem d_M_touch_2 : decode c_M_touch 2 = .ok (.invokestatic 49, 3) := by decide +kernel
theorem d_M_touch_5 : decode c_M_touch 5 = .ok (.ifCond .eq 7, 3) := by decide +kernel
theorem d_M_touch_8 : decode c_M_touch 8 = .ok (.iconst 0, 1) := by decide +kernel
theorem d_M_touch_9 : decode c_M_touch 9 = .ok (.goto 4, 3) := by decide +kernel
theorem d_M_touch_12 : decode c_M_touch 12 = .ok (.iconst 1, 1) := by decide +kernel
theorem d_M_touch_13 : decode c_M_touch 13 = .ok (.putfield 35, 3) := by decide +kernel
theorem d_M_touch_16 : decode c_M_touch 16 = .ok (.aload_n 0, 1) := by decide +kernel
theorem d_M_touch_17 : decode c_M_touch 17 = .ok (.getfield 35, 3) := by decide +kernel
theorem d_M_touch_20 : decode c_M_touch 20 = .ok (.ifCond .ne 14, 3) := by decide +kernel
theorem d_M_touch_23 : decode c_M_touch 23 = .ok (.aload_n 0, 1) := by decide +kernel
theorem d_M_touch_24 : decode c_M_touch 24 = .ok (.getfield 19, 3) := by decide +kernel
theorem d_M_touch_27 : decode c_M_touch 27 = .ok (.aload_n 0, 1) := by decide +kernel
theorem d_M_touch_28 : decode c_M_touch 28 = .ok (.iload_n 1, 1) := by decide +kernel
theorem d_M_touch_29 : decode c_M_touch 29 = .ok (.invokevirtual 53, 3) := by decide +kernel
theorem d_M_touch_32 : decode c_M_touch 32 = .ok (.iconst 1, 1) := by decide +kernel
theorem d_M_touch_33 : decode c_M_touch 33 = .ok (.bastore, 1) := by decide +kernel
theorem d_M_touch_34 : decode c_M_touch 34 = .ok (.return_, 1) := by decide +kernel
theorem d_M_spread_0 : decode c_M_spread 0 = .ok (.iconst 0, 1) := by decide +kernel
theorem d_M_spread_1 : decode c_M_spread 1 = .ok (.istore_n 1, 1) := by decide +kernel
theorem d_M_spread_2 : decode c_M_spread 2 = .ok (.iload_n 1, 1) := by decide +kernel
theorem d_M_spread_3 : decode c_M_spread 3 = .ok (.aload_n 0, 1) := by decide +kernel
theorem d_M_spread_4 : decode c_M_spread 4 = .ok (.getfield 39, 3) := by decide +kernel
theorem d_M_spread_7 : decode c_M_spread 7 = .ok (.if_icmp .ge 21, 3) := by decide +kernel
theorem d_M_spread_10 : decode c_M_spread 10 = .ok (.aload_n 0, 1) := by decide +kernel
theorem d_M_spread_11 : decode c_M_spread 11 = .ok (.getfield 26, 3) := by decide +kernel
theorem d_M_spread_14 : decode c_M_spread 14 = .ok (.iload_n 1, 1) := by decide +kernel
theorem d_M_spread_15 : decode c_M_spread 15 = .ok (.aload_n 0, 1) := by decide +kernel
theorem d_M_spread_16 : decode c_M_spread 16 = .ok (.getfield 19, 3) := by decide +kernel
theorem d_M_spread_19 : decode c_M_spread 19 = .ok (.iload_n 1, 1) := by decide +kernel
theorem d_M_spread_20 : decode c_M_spread 20 = .ok (.baload, 1) := by decide +kernel
theorem d_M_spread_21 : decode c_M_spread 21 = .ok (.bastore, 1) := by decide +kernel
theorem d_M_spread_22 : decode c_M_spread 22 = .ok (.iinc 1 1, 3) := by decide +kernel
theorem d_M_spread_25 : decode c_M_spread 25 = .ok (.goto (-23), 3) := by decide +kernel
theorem d_M_spread_28 : decode c_M_spread 28 = .ok (.iconst 1, 1) := by decide +kernel
theorem d_M_spread_29 : decode c_M_spread 29 = .ok (.istore_n 1, 1) := by decide +kernel
theorem d_M_spread_30 : decode c_M_spread 30 = .ok (.iload_n 1, 1) := by decide +kernel
theorem d_M_spread_31 : decode c_M_spread 31 = .ok (.ifCond .eq 69, 3) := by decide +kernel
theorem d_M_spread_34 : decode c_M_spread 34 = .ok (.iconst 0, 1) := by decide +kernel
theorem d_M_spread_35 : decode c_M_spread 35 = .ok (.istore_n 1, 1) := by decide +kernel
theorem d_M_spread_36 : decode c_M_spread 36 = .ok (.iconst 0, 1) := by decide +kernel
theorem d_M_spread_37 : decode c_M_spread 37 = .ok (.istore_n 2, 1) := by decide +kernel
theorem d_M_spread_38 : decode c_M_spread 38 = .ok (.iload_n 2, 1) := by decide +kernel
theorem d_M_spread_39 : decode c_M_spread 39 = .ok (.aload_n 0, 1) := by decide +kernel
theorem d_M_spread_40 : decode c_M_spread 40 = .ok (.getfield 46, 3) := by decide +kernel
theorem d_M_spread_43 : decode c_M_spread 43 = .ok (.if_icmp .ge 54, 3) := by decide +kernel
theorem d_M_spread_46 : decode c_M_spread 46 = .ok (.aload_n 0, 1) := by decide +kernel
theorem d_M_spread_47 : decode c_M_spread 47 = .ok (.getfield 26, 3) := by decide +kernel
theorem d_M_spread_50 : decode c_M_spread 50 = .ok (.aload_n 0, 1) := by decide +kernel
theorem d_M_spread_51 : decode c_M_spread 51 = .ok (.getfield 13, 3) := by decide +kernel
theorem d_M_spread_54 : decode c_M_spread 54 = .ok (.iload_n 2, 1) := by decide +kernel
theorem d_M_spread_55 : decode c_M_spread 55 = .ok (.iaload, 1) := by decide +kernel
theorem d_M_spread_56 : decode c_M_spread 56 = .ok (.baload, 1) := by decide +kernel
theorem d_M_spread_57 : decode c_M_spread 57 = .ok (.ifCond .eq 34, 3) := by decide +kernel
theorem d_M_spread_60 : decode c_M_spread 60 = .ok (.aload_n 0, 1) := by decide +kernel
theorem d_M_spread_61 : decode c_M_spread 61 = .ok (.getfield 26, 3) := by decide +kernel
theorem d_M_spread_64 : decode c_M_spread 64 = .ok (.aload_n 0, 1) := by decide +kernel
theorem d_M_spread_65 : decode c_M_spread 65 = .ok (.getfield 7, 3) := by decide +kernel
theorem d_M_spread_68 : decode c_M_spread 68 = .ok (.iload_n 2, 1) := by decide +kernel
theorem d_M_spread_69 : decode c_M_spread 69 = .ok (.iaload, 1) := by decide +kernel
theorem d_M_spread_70 : decode c_M_spread 70 = .ok (.baload, 1) := by decide +kernel
theorem d_M_spread_71 : decode c_M_spread 71 = .ok (.ifCond .eq 6, 3) := by decide +kernel
theorem d_M_spread_74 : decode c_M_spread 74 = .ok (.goto 17, 3) := by decide +kernel
theorem d_M_spread_77 : decode c_M_spread 77 = .ok (.aload_n 0, 1) := by decide +kernel
theorem d_M_spread_78 : decode c_M_spread 78 = .ok (.getfield 26, 3) := by decide +kernel
theorem d_M_spread_81 : decode c_M_spread 81 = .ok (.aload_n 0, 1) := by decide +kernel
theorem d_M_spread_82 : decode c_M_spread 82 = .ok (.getfield 7, 3) := by decide +kernel
theorem d_M_spread_85 : decode c_M_spread 85 = .ok (.iload_n 2, 1) := by decide +kernel
theorem d_M_spread_86 : decode c_M_spread 86 = .ok (.iaload, 1) := by decide +kernel
theorem d_M_spread_87 : decode c_M_spread 87 = .ok (.iconst 1, 1) := by decide +kernel
theorem d_M_spread_88 : decode c_M_spread 88 = .ok (.bastore, 1) := by decide +kernel
theorem d_M_spread_89 : decode c_M_spread 89 = .ok (.iconst 1, 1) := by decide +kernel
theorem d_M_spread_90 : decode c_M_spread 90 = .ok (.istore_n 1, 1) := by decide +kernel
theorem d_M_spread_91 : decode c_M_spread 91 = .ok (.iinc 2 1, 3) := by decide +kernel
theorem d_M_spread_94 : decode c_M_spread 94 = .ok (.goto (-56), 3) := by decide +kernel
theorem d_M_spread_97 : decode c_M_spread 97 = .ok (.goto (-67), 3) := by decide +kernel
theorem d_M_spread_100 : decode c_M_spread 100 = .ok (.return_, 1) := by decide +kernel
