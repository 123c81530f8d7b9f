theorem d_H_init_0 : decode c_H_init 0 = .ok (.aload_n 0, 1) := by decide +kernel
theorem d_H_init_1 : decode c_H_init 1 = .ok (.invokespecial 1, 3) := by decide +kernel
theorem d_H_init_4 : decode c_H_init 4 = .ok (.aload_n 0, 1) := by decide +kernel
theorem d_H_init_5 : decode c_H_init 5 = .ok (.new 7, 3) := by decide +kernel
theorem d_H_init_8 : decode c_H_init 8 = .ok (.dup, 1) := by decide +kernel
theorem d_H_init_9 : decode c_H_init 9 = .ok (.invokespecial 9, 3) := by decide +kernel
theorem d_H_init_12 : decode c_H_init 12 = .ok (.putfield 10, 3) := by decide +kernel
theorem d_H_init_15 : decode c_H_init 15 = .ok (.aload_n 0, 1) := by decide +kernel
theorem d_H_init_16 : decode c_H_init 16 = .ok (.new 16, 3) := by decide +kernel
theorem d_H_init_19 : decode c_H_init 19 = .ok (.dup, 1) := by decide +kernel
theorem d_H_init_20 : decode c_H_init 20 = .ok (.invokespecial 18, 3) := by decide +kernel
theorem d_H_init_23 : decode c_H_init 23 = .ok (.putfield 19, 3) := by decide +kernel
theorem d_H_init_26 : decode c_H_init 26 = .ok (.aload_n 0, 1) := by decide +kernel
theorem d_H_init_27 : decode c_H_init 27 = .ok (.new 16, 3) := by decide +kernel
theorem d_H_init_30 : decode c_H_init 30 = .ok (.dup, 1) := by decide +kernel
theorem d_H_init_31 : decode c_H_init 31 = .ok (.invokespecial 18, 3) := by decide +kernel
theorem d_H_init_34 : decode c_H_init 34 = .ok (.putfield 23, 3) := by decide +kernel
theorem d_H_init_37 : decode c_H_init 37 = .ok (.aload_n 0, 1) := by decide +kernel
theorem d_H_init_38 : decode c_H_init 38 = .ok (.new 16, 3) := by decide +kernel
theorem d_H_init_41 : decode c_H_init 41 = .ok (.dup, 1) := by decide +kernel
theorem d_H_init_42 : decode c_H_init 42 = .ok (.invokespecial 18, 3) := by decide +kernel
theorem d_H_init_45 : decode c_H_init 45 = .ok (.putfield 26, 3) := by decide +kernel
theorem d_H_init_48 : decode c_H_init 48 = .ok (.aload_n 0, 1) := by decide +kernel
theorem d_H_init_49 : decode c_H_init 49 = .ok (.new 29, 3) := by decide +kernel
theorem d_H_init_52 : decode c_H_init 52 = .ok (.dup, 1) := by decide +kernel
theorem d_H_init_53 : decode c_H_init 53 = .ok (.invokespecial 31, 3) := by decide +kernel
theorem d_H_init_56 : decode c_H_init 56 = .ok (.putfield 32, 3) := by decide +kernel
theorem d_H_init_59 : decode c_H_init 59 = .ok (.return_, 1) := by decide +kernel
theorem d_H_link_0 : decode c_H_link 0 = .ok (.iload_n 1, 1) := by decide +kernel
theorem d_H_link_1 : decode c_H_link 1 = .ok (.invokestatic 36, 3) := by decide +kernel
theorem d_H_link_4 : decode c_H_link 4 = .ok (.iload_n 2, 1) := by decide +kernel
theorem d_H_link_5 : decode c_H_link 5 = .ok (.invokestatic 36, 3) := by decide +kernel
theorem d_H_link_8 : decode c_H_link 8 = .ok (.aload_n 0, 1) := by decide +kernel
theorem d_H_link_9 : decode c_H_link 9 = .ok (.iload_n 1, 1) := by decide +kernel
theorem d_H_link_10 : decode c_H_link 10 = .ok (.iload_n 2, 1) := by decide +kernel
theorem d_H_link_11 : decode c_H_link 11 = .ok (.invokevirtual 40, 3) := by decide +kernel
theorem d_H_link_14 : decode c_H_link 14 = .ok (.ifnull 5, 3) := by decide +kernel
theorem d_H_link_17 : decode c_H_link 17 = .ok (.iconst 0, 1) := by decide +kernel
theorem d_H_link_18 : decode c_H_link 18 = .ok (.ireturn, 1) := by decide +kernel
theorem d_H_link_19 : decode c_H_link 19 = .ok (.aload_n 0, 1) := by decide +kernel
theorem d_H_link_20 : decode c_H_link 20 = .ok (.getfield 44, 3) := by decide +kernel
theorem d_H_link_23 : decode c_H_link 23 = .ok (.ldc 48, 2) := by decide +kernel
theorem d_H_link_25 : decode c_H_link 25 = .ok (.if_icmp .lt 13, 3) := by decide +kernel
theorem d_H_link_28 : decode c_H_link 28 = .ok (.new 49, 3) := by decide +kernel
theorem d_H_link_31 : decode c_H_link 31 = .ok (.dup, 1) := by decide +kernel
theorem d_H_link_32 : decode c_H_link 32 = .ok (.ldc 51, 2) := by decide +kernel
theorem d_H_link_34 : decode c_H_link 34 = .ok (.invokespecial 53, 3) := by decide +kernel
theorem d_H_link_37 : decode c_H_link 37 = .ok (.athrow, 1) := by decide +kernel
theorem d_H_link_38 : decode c_H_link 38 = .ok (.aload_n 0, 1) := by decide +kernel
theorem d_H_link_39 : decode c_H_link 39 = .ok (.getfield 10, 3) := by decide +kernel
theorem d_H_link_42 : decode c_H_link 42 = .ok (.iload_n 1, 1) := by decide +kernel
theorem d_H_link_43 : decode c_H_link 43 = .ok (.invokevirtual 56, 3) := by decide +kernel
theorem d_H_link_46 : decode c_H_link 46 = .ok (.astore_n 3, 1) := by decide +kernel
theorem d_H_link_47 : decode c_H_link 47 = .ok (.new 60, 3) := by decide +kernel
theorem d_H_link_50 : decode c_H_link 50 = .ok (.dup, 1) := by decide +kernel
theorem d_H_link_51 : decode c_H_link 51 = .ok (.aload_n 3, 1) := by decide +kernel
theorem d_H_link_52 : decode c_H_link 52 = .ok (.aload_n 0, 1) := by decide +kernel
theorem d_H_link_53 : decode c_H_link 53 = .ok (.getfield 10, 3) := by decide +kernel
theorem d_H_link_56 : decode c_H_link 56 = .ok (.iload_n 2, 1) := by decide +kernel
theorem d_H_link_57 : decode c_H_link 57 = .ok (.invokevirtual 56, 3) := by decide +kernel
theorem d_H_link_60 : decode c_H_link 60 = .ok (.invokespecial 62, 3) := by decide +kernel
theorem d_H_link_63 : decode c_H_link 63 = .ok (.invokevirtual 65, 3) := by decide +kernel
theorem d_H_link_66 : decode c_H_link 66 = .ok (.aload_n 0, 1) := by decide +kernel
theorem d_H_link_67 : decode c_H_link 67 = .ok (.dup, 1) := by decide +kernel
theorem d_H_link_68 : decode c_H_link 68 = .ok (.getfield 44, 3) := by decide +kernel
theorem d_H_link_71 : decode c_H_link 71 = .ok (.iconst 1, 1) := by decide +kernel
theorem d_H_link_72 : decode c_H_link 72 = .ok (.iadd, 1) := by decide +kernel
theorem d_H_link_73 : decode c_H_link 73 = .ok (.putfield 44, 3) := by decide +kernel
theorem d_H_link_76 : decode c_H_link 76 = .ok (.aload_n 0, 1) := by decide +kernel
theorem d_H_link_77 : decode c_H_link 77 = .ok (.aload_n 3, 1) := by decide +kernel
theorem d_H_link_78 : decode c_H_link 78 = .ok (.invokevirtual 68, 3) := by decide +kernel
theorem d_H_link_81 : decode c_H_link 81 = .ok (.iconst 1, 1) := by decide +kernel
theorem d_H_link_82 : decode c_H_link 82 = .ok (.ireturn, 1) := by decide +kernel
theorem d_H_unlink_0 : decode c_H_unlink 0 = .ok (.iload_n 1, 1) := by decide +kernel
theorem d_H_unlink_1 : decode c_H_unlink 1 = .ok (.invokestatic 36, 3) := by decide +kernel
theorem d_H_unlink_4 : decode c_H_unlink 4 = .ok (.iload_n 2, 1) := by decide +kernel
theorem d_H_unlink_5 : decode c_H_unlink 5 = .ok (.invokestatic 36, 3) := by decide +kernel
theorem d_H_unlink_8 : decode c_H_unlink 8 = .ok (.aload_n 0, 1) := by decide +kernel
theorem d_H_unlink_9 : decode c_H_unlink 9 = .ok (.iload_n 1, 1) := by decide +kernel
theorem d_H_unlink_10 : decode c_H_unlink 10 = .ok (.iload_n 2, 1) := by decide +kernel
theorem d_H_unlink_11 : decode c_H_unlink 11 = .ok (.invokevirtual 40, 3) := by decide +kernel
theorem d_H_unlink_14 : decode c_H_unlink 14 = .ok (.astore_n 3, 1) := by decide +kernel
theorem d_H_unlink_15 : decode c_H_unlink 15 = .ok (.aload_n 3, 1) := by decide +kernel
theorem d_H_unlink_16 : decode c_H_unlink 16 = .ok (.ifnonnull 5, 3) := by decide +kernel
theorem d_H_unlink_19 : decode c_H_unlink 19 = .ok (.iconst 0, 1) := by decide +kernel
theorem d_H_unlink_20 : decode c_H_unlink 20 = .ok (.ireturn, 1) := by decide +kernel
theorem d_H_unlink_21 : decode c_H_unlink 21 = .ok (.aload_n 3, 1) := by decide +kernel
theorem d_H_unlink_22 : decode c_H_unlink 22 = .ok (.invokevirtual 72, 3) := by decide +kernel
theorem d_H_unlink_25 : decode c_H_unlink 25 = .ok (.aload_n 0, 1) := by decide +kernel
theorem d_H_unlink_26 : decode c_H_unlink 26 = .ok (.dup, 1) := by decide +kernel
theorem d_H_unlink_27 : decode c_H_unlink 27 = .ok (.getfield 44, 3) := by decide +kernel
theorem d_H_unlink_30 : decode c_H_unlink 30 = .ok (.iconst 1, 1) := by decide +kernel
theorem d_H_unlink_31 : decode c_H_unlink 31 = .ok (.isub, 1) := by decide +kernel
theorem d_H_unlink_32 : decode c_H_unlink 32 = .ok (.putfield 44, 3) := by decide +kernel
theorem d_H_unlink_35 : decode c_H_unlink 35 = .ok (.aload_n 0, 1) := by decide +kernel
theorem d_H_unlink_36 : decode c_H_unlink 36 = .ok (.aload_n 3, 1) := by decide +kernel
theorem d_H_unlink_37 : decode c_H_unlink 37 = .ok (.getfield 75, 3) := by decide +kernel
theorem d_H_unlink_40 : decode c_H_unlink 40 = .ok (.invokevirtual 68, 3) := by decide +kernel
theorem d_H_unlink_43 : decode c_H_unlink 43 = .ok (.iconst 1, 1) := by decide +kernel
theorem d_H_unlink_44 : decode c_H_unlink 44 = .ok (.ireturn, 1) := by decide +kernel
theorem d_H_clear_0 : decode c_H_clear 0 = .ok (.iload_n 1, 1) := by decide +kernel
theorem d_H_clear_1 : decode c_H_clear 1 = .ok (.invokestatic 36, 3) := by decide +kernel
theorem d_H_clear_4 : decode c_H_clear 4 = .ok (.aload_n 0, 1) := by decide +kernel
theorem d_H_clear_5 : decode c_H_clear 5 = .ok (.getfield 10, 3) := by decide +kernel
theorem d_H_clear_8 : decode c_H_clear 8 = .ok (.iload_n 1, 1) := by decide +kernel
theorem d_H_clear_9 : decode c_H_clear 9 = .ok (.invokevirtual 56, 3) := by decide +kernel
theorem d_H_clear_12 : decode c_H_clear 12 = .ok (.astore_n 2, 1) := by decide +kernel
theorem d_H_clear_13 : decode c_H_clear 13 = .ok (.aload_n 2, 1) := by decide +kernel
theorem d_H_clear_14 : decode c_H_clear 14 = .ok (.getfield 79, 3) := by decide +kernel
theorem d_H_clear_17 : decode c_H_clear 17 = .ok (.istore_n 3, 1) := by decide +kernel
theorem d_H_clear_18 : decode c_H_clear 18 = .ok (.aload_n 2, 1) := by decide +kernel
theorem d_H_clear_19 : decode c_H_clear 19 = .ok (.getfield 84, 3) := by decide +kernel
theorem d_H_clear_22 : decode c_H_clear 22 = .ok (.astore 4, 2) := by decide +kernel
theorem d_H_clear_24 : decode c_H_clear 24 = .ok (.aload 4, 2) := by decide +kernel
theorem d_H_clear_26 : decode c_H_clear 26 = .ok (.ifnull 22, 3) := by decide +kernel
theorem d_H_clear_29 : decode c_H_clear 29 = .ok (.aload 4, 2) := by decide +kernel
theorem d_H_clear_31 : decode c_H_clear 31 = .ok (.getfield 88, 3) := by decide +kernel
theorem d_H_clear_34 : decode c_H_clear 34 = .ok (.astore 5, 2) := by decide +kernel
theorem d_H_clear_36 : decode c_H_clear 36 = .ok (.aload 4, 2) := by decide +kernel
theorem d_H_clear_38 : decode c_H_clear 38 = .ok (.invokevirtual 72, 3) := by decide +kernel
theorem d_H_clear_41 : decode c_H_clear 41 = .ok (.aload 5, 2) := by decide +kernel
theorem d_H_clear_43 : decode c_H_clear 43 = .ok (.astore 4, 2) := by decide +kernel
theorem d_H_clear_45 : decode c_H_clear 45 = .ok (.goto (-21), 3) := by decide +kernel
theorem d_H_clear_48 : decode c_H_clear 48 = .ok (.aload_n 0, 1) := by decide +kernel
theorem d_H_clear_49 : decode c_H_clear 49 = .ok (.dup, 1) := by decide +kernel
theorem d_H_clear_50 : decode c_H_clear 50 = .ok (.getfield 44, 3) := by decide +kernel
theorem d_H_clear_53 : decode c_H_clear 53 = .ok (.iload_n 3, 1) := by decide +kernel
theorem d_H_clear_54 : decode c_H_clear 54 = .ok (.isub, 1) := by decide +kernel
theorem d_H_clear_55 : decode c_H_clear 55 = .ok (.putfield 44, 3) := by decide +kernel
theorem d_H_clear_58 : decode c_H_clear 58 = .ok (.aload_n 0, 1) := by decide +kernel
theorem d_H_clear_59 : decode c_H_clear 59 = .ok (.aload_n 2, 1) := by decide +kernel
theorem d_H_clear_60 : decode c_H_clear 60 = .ok (.invokevirtual 68, 3) := by decide +kernel
theorem d_H_clear_63 : decode c_H_clear 63 = .ok (.iload_n 3, 1) := by decide +kernel
theorem d_H_clear_64 : decode c_H_clear 64 = .ok (.ireturn, 1) := by decide +kernel
theorem d_H_touch_0 : decode c_H_touch 0 = .ok (.iload_n 1, 1) := by decide +kernel
theorem d_H_touch_1 : decode c_H_touch 1 = .ok (.invokestatic 36, 3) := by decide +kernel
theorem d_H_touch_4 : decode c_H_touch 4 = .ok (.aload_n 0, 1) := by decide +kernel
theorem d_H_touch_5 : decode c_H_touch 5 = .ok (.aload_n 0, 1) := by decide +kernel
theorem d_H_touch_6 : decode c_H_touch 6 = .ok (.getfield 10, 3) := by decide +kernel
theorem d_H_touch_9 : decode c_H_touch 9 = .ok (.iload_n 1, 1) := by decide +kernel
theorem d_H_touch_10 : decode c_H_touch 10 = .ok (.invokevirtual 56, 3) := by decide +kernel
theorem d_H_touch_13 : decode c_H_touch 13 = .ok (.invokevirtual 68, 3) := by decide +kernel
theorem d_H_touch_16 : decode c_H_touch 16 = .ok (.return_, 1) := by decide +kernel
theorem d_H_work_0 : decode c_H_work 0 = .ok (.aload_n 0, 1) := by decide +kernel
theorem d_H_work_1 : decode c_H_work 1 = .ok (.getfield 23, 3) := by decide +kernel
theorem d_H_work_4 : decode c_H_work 4 = .ok (.invokevirtual 91, 3) := by decide +kernel
theorem d_H_work_7 : decode c_H_work 7 = .ok (.aload_n 0, 1) := by decide +kernel
theorem d_H_work_8 : decode c_H_work 8 = .ok (.getfield 26, 3) := by decide +kernel
theorem d_H_work_11 : decode c_H_work 11 = .ok (.invokevirtual 91, 3) := by decide +kernel
theorem d_H_work_14 : decode c_H_work 14 = .ok (.aload_n 0, 1) := by decide +kernel
theorem d_H_work_15 : decode c_H_work 15 = .ok (.invokevirtual 94, 3) := by decide +kernel
theorem d_H_work_18 : decode c_H_work 18 = .ok (.aload_n 0, 1) := by decide +kernel
theorem d_H_work_19 : decode c_H_work 19 = .ok (.invokevirtual 97, 3) := by decide +kernel
theorem d_H_work_22 : decode c_H_work 22 = .ok (.aload_n 0, 1) := by decide +kernel
theorem d_H_work_23 : decode c_H_work 23 = .ok (.invokevirtual 100, 3) := by decide +kernel
theorem d_H_work_26 : decode c_H_work 26 = .ok (.aload_n 0, 1) := by decide +kernel
theorem d_H_work_27 : decode c_H_work 27 = .ok (.invokevirtual 103, 3) := by decide +kernel
theorem d_H_work_30 : decode c_H_work 30 = .ok (.aload_n 0, 1) := by decide +kernel
theorem d_H_work_31 : decode c_H_work 31 = .ok (.invokevirtual 106, 3) := by decide +kernel
theorem d_H_work_34 : decode c_H_work 34 = .ok (.aload_n 0, 1) := by decide +kernel
theorem d_H_work_35 : decode c_H_work 35 = .ok (.getfield 26, 3) := by decide +kernel
theorem d_H_work_38 : decode c_H_work 38 = .ok (.getfield 109, 3) := by decide +kernel
theorem d_H_work_41 : decode c_H_work 41 = .ok (.ireturn, 1) := by decide +kernel
theorem d_H_worked_0 : decode c_H_worked 0 = .ok (.aload_n 0, 1) := by decide +kernel
theorem d_H_worked_1 : decode c_H_worked 1 = .ok (.getfield 26, 3) := by decide +kernel
theorem d_H_worked_4 : decode c_H_worked 4 = .ok (.iload_n 1, 1) := by decide +kernel
theorem d_H_worked_5 : decode c_H_worked 5 = .ok (.invokevirtual 112, 3) := by decide +kernel
theorem d_H_worked_8 : decode c_H_worked 8 = .ok (.ireturn, 1) := by decide +kernel
theorem d_H_found_0 : decode c_H_found 0 = .ok (.aload_n 0, 1) := by decide +kernel
theorem d_H_found_1 : decode c_H_found 1 = .ok (.getfield 116, 3) := by decide +kernel
theorem d_H_found_4 : decode c_H_found 4 = .ok (.ireturn, 1) := by decide +kernel
theorem d_H_ringed_0 : decode c_H_ringed 0 = .ok (.aload_n 0, 1) := by decide +kernel
theorem d_H_ringed_1 : decode c_H_ringed 1 = .ok (.getfield 10, 3) := by decide +kernel
theorem d_H_ringed_4 : decode c_H_ringed 4 = .ok (.iload_n 1, 1) := by decide +kernel
theorem d_H_ringed_5 : decode c_H_ringed 5 = .ok (.invokevirtual 119, 3) := by decide +kernel
theorem d_H_ringed_8 : decode c_H_ringed 8 = .ok (.astore_n 2, 1) := by decide +kernel
theorem d_H_ringed_9 : decode c_H_ringed 9 = .ok (.aload_n 2, 1) := by decide +kernel
theorem d_H_ringed_10 : decode c_H_ringed 10 = .ok (.ifnull 14, 3) := by decide +kernel
theorem d_H_ringed_13 : decode c_H_ringed 13 = .ok (.aload_n 2, 1) := by decide +kernel
theorem d_H_ringed_14 : decode c_H_ringed 14 = .ok (.getfield 121, 3) := by decide +kernel
theorem d_H_ringed_17 : decode c_H_ringed 17 = .ok (.ifCond .eq 7, 3) := by decide +kernel
theorem d_H_ringed_20 : decode c_H_ringed 20 = .ok (.iconst 1, 1) := by decide +kernel
theorem d_H_ringed_21 : decode c_H_ringed 21 = .ok (.goto 4, 3) := by decide +kernel
theorem d_H_ringed_24 : decode c_H_ringed 24 = .ok (.iconst 0, 1) := by decide +kernel
theorem d_H_ringed_25 : decode c_H_ringed 25 = .ok (.ireturn, 1) := by decide +kernel
theorem d_H_links_0 : decode c_H_links 0 = .ok (.iload_n 1, 1) := by decide +kernel
theorem d_H_links_1 : decode c_H_links 1 = .ok (.invokestatic 125, 3) := by decide +kernel
theorem d_H_links_4 : decode c_H_links 4 = .ok (.ifCond .eq 12, 3) := by decide +kernel
theorem d_H_links_7 : decode c_H_links 7 = .ok (.iload_n 2, 1) := by decide +kernel
theorem d_H_links_8 : decode c_H_links 8 = .ok (.ifCond .eq 10, 3) := by decide +kernel
theorem d_H_links_11 : decode c_H_links 11 = .ok (.iload_n 2, 1) := by decide +kernel
theorem d_H_links_12 : decode c_H_links 12 = .ok (.iconst 1, 1) := by decide +kernel
theorem d_H_links_13 : decode c_H_links 13 = .ok (.if_icmp .eq 5, 3) := by decide +kernel
theorem d_H_links_16 : decode c_H_links 16 = .ok (.iconst (-1), 1) := by decide +kernel
theorem d_H_links_17 : decode c_H_links 17 = .ok (.ireturn, 1) := by decide +kernel
theorem d_H_links_18 : decode c_H_links 18 = .ok (.aload_n 0, 1) := by decide +kernel
theorem d_H_links_19 : decode c_H_links 19 = .ok (.getfield 10, 3) := by decide +kernel
theorem d_H_links_22 : decode c_H_links 22 = .ok (.iload_n 1, 1) := by decide +kernel
theorem d_H_links_23 : decode c_H_links 23 = .ok (.invokevirtual 119, 3) := by decide +kernel
theorem d_H_links_26 : decode c_H_links 26 = .ok (.astore_n 3, 1) := by decide +kernel
theorem d_H_links_27 : decode c_H_links 27 = .ok (.aload_n 3, 1) := by decide +kernel
theorem d_H_links_28 : decode c_H_links 28 = .ok (.ifnonnull 5, 3) := by decide +kernel
theorem d_H_links_31 : decode c_H_links 31 = .ok (.iconst 0, 1) := by decide +kernel
theorem d_H_links_32 : decode c_H_links 32 = .ok (.ireturn, 1) := by decide +kernel
theorem d_H_links_33 : decode c_H_links 33 = .ok (.iload_n 2, 1) := by decide +kernel
theorem d_H_links_34 : decode c_H_links 34 = .ok (.ifCond .ne 10, 3) := by decide +kernel
theorem d_H_links_37 : decode c_H_links 37 = .ok (.aload_n 3, 1) := by decide +kernel
theorem d_H_links_38 : decode c_H_links 38 = .ok (.getfield 129, 3) := by decide +kernel
theorem d_H_links_41 : decode c_H_links 41 = .ok (.goto 7, 3) := by decide +kernel
theorem d_H_links_44 : decode c_H_links 44 = .ok (.aload_n 3, 1) := by decide +kernel
theorem d_H_links_45 : decode c_H_links 45 = .ok (.getfield 79, 3) := by decide +kernel
theorem d_H_links_48 : decode c_H_links 48 = .ok (.ireturn, 1) := by decide +kernel
theorem d_H_touched_0 : decode c_H_touched 0 = .ok (.aload_n 0, 1) := by decide +kernel
theorem d_H_touched_1 : decode c_H_touched 1 = .ok (.getfield 10, 3) := by decide +kernel
theorem d_H_touched_4 : decode c_H_touched 4 = .ok (.iload_n 1, 1) := by decide +kernel
theorem d_H_touched_5 : decode c_H_touched 5 = .ok (.invokevirtual 119, 3) := by decide +kernel
theorem d_H_touched_8 : decode c_H_touched 8 = .ok (.astore_n 2, 1) := by decide +kernel
theorem d_H_touched_9 : decode c_H_touched 9 = .ok (.aload_n 2, 1) := by decide +kernel
theorem d_H_touched_10 : decode c_H_touched 10 = .ok (.ifnull 14, 3) := by decide +kernel
theorem d_H_touched_13 : decode c_H_touched 13 = .ok (.aload_n 2, 1) := by decide +kernel
theorem d_H_touched_14 : decode c_H_touched 14 = .ok (.getfield 132, 3) := by decide +kernel
theorem d_H_touched_17 : decode c_H_touched 17 = .ok (.ifCond .eq 7, 3) := by decide +kernel
theorem d_H_touched_20 : decode c_H_touched 20 = .ok (.iconst 1, 1) := by decide +kernel
theorem d_H_touched_21 : decode c_H_touched 21 = .ok (.goto 4, 3) := by decide +kernel
theorem d_H_touched_24 : decode c_H_touched 24 = .ok (.iconst 0, 1) := by decide +kernel
theorem d_H_touched_25 : decode c_H_touched 25 = .ok (.ireturn, 1) := by decide +kernel
theorem d_H_isNode_0 : decode c_H_isNode 0 = .ok (.iload_n 0, 1) := by decide +kernel
theorem d_H_isNode_1 : decode c_H_isNode 1 = .ok (.ifCond .lt 14, 3) := by decide +kernel
theorem d_H_isNode_4 : decode c_H_isNode 4 = .ok (.iload_n 0, 1) := by decide +kernel
theorem d_H_isNode_5 : decode c_H_isNode 5 = .ok (.sipush 16384, 3) := by decide +kernel
theorem d_H_isNode_8 : decode c_H_isNode 8 = .ok (.if_icmp .ge 7, 3) := by decide +kernel
theorem d_H_isNode_11 : decode c_H_isNode 11 = .ok (.iconst 1, 1) := by decide +kernel
theorem d_H_isNode_12 : decode c_H_isNode 12 = .ok (.goto 4, 3) := by decide +kernel
theorem d_H_isNode_15 : decode c_H_isNode 15 = .ok (.iconst 0, 1) := by decide +kernel
theorem d_H_isNode_16 : decode c_H_isNode 16 = .ok (.ireturn, 1) := by decide +kernel
theorem d_H_requireNode_0 : decode c_H_requireNode 0 = .ok (.iload_n 0, 1) := by decide +kernel
theorem d_H_requireNode_1 : decode c_H_requireNode 1 = .ok (.invokestatic 125, 3) := by decide +kernel
theorem d_H_requireNode_4 : decode c_H_requireNode 4 = .ok (.ifCond .ne 13, 3) := by decide +kernel
theorem d_H_requireNode_7 : decode c_H_requireNode 7 = .ok (.new 135, 3) := by decide +kernel
theorem d_H_requireNode_10 : decode c_H_requireNode 10 = .ok (.dup, 1) := by decide +kernel
theorem d_H_requireNode_11 : decode c_H_requireNode 11 = .ok (.ldc 137, 2) := by decide +kernel
theorem d_H_requireNode_13 : decode c_H_requireNode 13 = .ok (.invokespecial 139, 3) := by decide +kernel
theorem d_H_requireNode_16 : decode c_H_requireNode 16 = .ok (.athrow, 1) := by decide +kernel
theorem d_H_requireNode_17 : decode c_H_requireNode 17 = .ok (.return_, 1) := by decide +kernel
theorem d_H_linkBetween_0 : decode c_H_linkBetween 0 = .ok (.aload_n 0, 1) := by decide +kernel
theorem d_H_linkBetween_1 : decode c_H_linkBetween 1 = .ok (.getfield 10, 3) := by decide +kernel
theorem d_H_linkBetween_4 : decode c_H_linkBetween 4 = .ok (.iload_n 1, 1) := by decide +kernel
theorem d_H_linkBetween_5 : decode c_H_linkBetween 5 = .ok (.invokevirtual 119, 3) := by decide +kernel
theorem d_H_linkBetween_8 : decode c_H_linkBetween 8 = .ok (.astore_n 3, 1) := by decide +kernel
theorem d_H_linkBetween_9 : decode c_H_linkBetween 9 = .ok (.aload_n 3, 1) := by decide +kernel
theorem d_H_linkBetween_10 : decode c_H_linkBetween 10 = .ok (.ifnonnull 5, 3) := by decide +kernel
theorem d_H_linkBetween_13 : decode c_H_linkBetween 13 = .ok (.aconst_null, 1) := by decide +kernel
theorem d_H_linkBetween_14 : decode c_H_linkBetween 14 = .ok (.areturn, 1) := by decide +kernel
theorem d_H_linkBetween_15 : decode c_H_linkBetween 15 = .ok (.aload_n 3, 1) := by decide +kernel
theorem d_H_linkBetween_16 : decode c_H_linkBetween 16 = .ok (.getfield 84, 3) := by decide +kernel
theorem d_H_linkBetween_19 : decode c_H_linkBetween 19 = .ok (.astore 4, 2) := by decide +kernel
theorem d_H_linkBetween_21 : decode c_H_linkBetween 21 = .ok (.aload 4, 2) := by decide +kernel
theorem d_H_linkBetween_23 : decode c_H_linkBetween 23 = .ok (.ifnull 25, 3) := by decide +kernel
theorem d_H_linkBetween_26 : decode c_H_linkBetween 26 = .ok (.aload 4, 2) := by decide +kernel
theorem d_H_linkBetween_28 : decode c_H_linkBetween 28 = .ok (.getfield 140, 3) := by decide +kernel
theorem d_H_linkBetween_31 : decode c_H_linkBetween 31 = .ok (.getfield 143, 3) := by decide +kernel
theorem d_H_linkBetween_34 : decode c_H_linkBetween 34 = .ok (.iload_n 2, 1) := by decide +kernel
theorem d_H_linkBetween_35 : decode c_H_linkBetween 35 = .ok (.if_icmp .eq 13, 3) := by decide +kernel
theorem d_H_linkBetween_38 : decode c_H_linkBetween 38 = .ok (.aload 4, 2) := by decide +kernel
theorem d_H_linkBetween_40 : decode c_H_linkBetween 40 = .ok (.getfield 88, 3) := by decide +kernel
theorem d_H_linkBetween_43 : decode c_H_linkBetween 43 = .ok (.astore 4, 2) := by decide +kernel
theorem d_H_linkBetween_45 : decode c_H_linkBetween 45 = .ok (.goto (-24), 3) := by decide +kernel
theorem d_H_linkBetween_48 : decode c_H_linkBetween 48 = .ok (.aload 4, 2) := by decide +kernel
theorem d_H_linkBetween_50 : decode c_H_linkBetween 50 = .ok (.areturn, 1) := by decide +kernel
theorem d_H_markTouched_0 : decode c_H_markTouched 0 = .ok (.aload_n 1, 1) := by decide +kernel
theorem d_H_markTouched_1 : decode c_H_markTouched 1 = .ok (.getfield 132, 3) := by decide +kernel
theorem d_H_markTouched_4 : decode c_H_markTouched 4 = .ok (.ifCond .ne 19, 3) := by decide +kernel
theorem d_H_markTouched_7 : decode c_H_markTouched 7 = .ok (.aload_n 1, 1) := by decide +kernel
theorem d_H_markTouched_8 : decode c_H_markTouched 8 = .ok (.iconst 1, 1) := by decide +kernel
theorem d_H_markTouched_9 : decode c_H_markTouched 9 = .ok (.putfield 132, 3) := by decide +kernel
theorem d_H_markTouched_12 : decode c_H_markTouched 12 = .ok (.aload_n 0, 1) := by decide +kernel
theorem d_H_markTouched_13 : decode c_H_markTouched 13 = .ok (.getfield 19, 3) := by decide +kernel
theorem d_H_markTouched_16 : decode c_H_markTouched 16 = .ok (.aload_n 1, 1) := by decide +kernel
theorem d_H_markTouched_17 : decode c_H_markTouched 17 = .ok (.getfield 143, 3) := by decide +kernel
theorem d_H_markTouched_20 : decode c_H_markTouched 20 = .ok (.invokevirtual 146, 3) := by decide +kernel
theorem d_H_markTouched_23 : decode c_H_markTouched 23 = .ok (.return_, 1) := by decide +kernel
theorem d_H_markFound_0 : decode c_H_markFound 0 = .ok (.aload_n 1, 1) := by decide +kernel
theorem d_H_markFound_1 : decode c_H_markFound 1 = .ok (.getfield 149, 3) := by decide +kernel
theorem d_H_markFound_4 : decode c_H_markFound 4 = .ok (.ifCond .ne 19, 3) := by decide +kernel
theorem d_H_markFound_7 : decode c_H_markFound 7 = .ok (.aload_n 1, 1) := by decide +kernel
theorem d_H_markFound_8 : decode c_H_markFound 8 = .ok (.iconst 1, 1) := by decide +kernel
theorem d_H_markFound_9 : decode c_H_markFound 9 = .ok (.putfield 149, 3) := by decide +kernel
theorem d_H_markFound_12 : decode c_H_markFound 12 = .ok (.aload_n 0, 1) := by decide +kernel
theorem d_H_markFound_13 : decode c_H_markFound 13 = .ok (.getfield 23, 3) := by decide +kernel
theorem d_H_markFound_16 : decode c_H_markFound 16 = .ok (.aload_n 1, 1) := by decide +kernel
theorem d_H_markFound_17 : decode c_H_markFound 17 = .ok (.getfield 143, 3) := by decide +kernel
theorem d_H_markFound_20 : decode c_H_markFound 20 = .ok (.invokevirtual 146, 3) := by decide +kernel
theorem d_H_markFound_23 : decode c_H_markFound 23 = .ok (.return_, 1) := by decide +kernel
theorem d_H_findTouched_0 : decode c_H_findTouched 0 = .ok (.iconst 0, 1) := by decide +kernel
theorem d_H_findTouched_1 : decode c_H_findTouched 1 = .ok (.istore_n 1, 1) := by decide +kernel
theorem d_H_findTouched_2 : decode c_H_findTouched 2 = .ok (.iload_n 1, 1) := by decide +kernel
theorem d_H_findTouched_3 : decode c_H_findTouched 3 = .ok (.aload_n 0, 1) := by decide +kernel
theorem d_H_findTouched_4 : decode c_H_findTouched 4 = .ok (.getfield 19, 3) := by decide +kernel
theorem d_H_findTouched_7 : decode c_H_findTouched 7 = .ok (.getfield 109, 3) := by decide +kernel
theorem d_H_findTouched_10 : decode c_H_findTouched 10 = .ok (.if_icmp .ge 35, 3) := by decide +kernel
theorem d_H_findTouched_13 : decode c_H_findTouched 13 = .ok (.aload_n 0, 1) := by decide +kernel
theorem d_H_findTouched_14 : decode c_H_findTouched 14 = .ok (.getfield 10, 3) := by decide +kernel
theorem d_H_findTouched_17 : decode c_H_findTouched 17 = .ok (.aload_n 0, 1) := by decide +kernel
theorem d_H_findTouched_18 : decode c_H_findTouched 18 = .ok (.getfield 19, 3) := by decide +kernel
theorem d_H_findTouched_21 : decode c_H_findTouched 21 = .ok (.iload_n 1, 1) := by decide +kernel
theorem d_H_findTouched_22 : decode c_H_findTouched 22 = .ok (.invokevirtual 112, 3) := by decide +kernel
theorem d_H_findTouched_25 : decode c_H_findTouched 25 = .ok (.invokevirtual 56, 3) := by decide +kernel
theorem d_H_findTouched_28 : decode c_H_findTouched 28 = .ok (.astore_n 2, 1) := by decide +kernel
theorem d_H_findTouched_29 : decode c_H_findTouched 29 = .ok (.aload_n 2, 1) := by decide +kernel
theorem d_H_findTouched_30 : decode c_H_findTouched 30 = .ok (.iconst 0, 1) := by decide +kernel
theorem d_H_findTouched_31 : decode c_H_findTouched 31 = .ok (.putfield 132, 3) := by decide +kernel
theorem d_H_findTouched_34 : decode c_H_findTouched 34 = .ok (.aload_n 0, 1) := by decide +kernel
theorem d_H_findTouched_35 : decode c_H_findTouched 35 = .ok (.aload_n 2, 1) := by decide +kernel
theorem d_H_findTouched_36 : decode c_H_findTouched 36 = .ok (.invokevirtual 152, 3) := by decide +kernel
theorem d_H_findTouched_39 : decode c_H_findTouched 39 = .ok (.iinc 1 1, 3) := by decide +kernel
theorem d_H_findTouched_42 : decode c_H_findTouched 42 = .ok (.goto (-40), 3) := by decide +kernel
theorem d_H_findTouched_45 : decode c_H_findTouched 45 = .ok (.aload_n 0, 1) := by decide +kernel
theorem d_H_findTouched_46 : decode c_H_findTouched 46 = .ok (.getfield 19, 3) := by decide +kernel
theorem d_H_findTouched_49 : decode c_H_findTouched 49 = .ok (.invokevirtual 91, 3) := by decide +kernel
theorem d_H_findTouched_52 : decode c_H_findTouched 52 = .ok (.return_, 1) := by decide +kernel
