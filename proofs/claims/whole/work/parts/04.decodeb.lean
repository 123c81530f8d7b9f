theorem d_H_findHanging_0 : decode c_H_findHanging 0 = .ok (.iconst 0, 1) := by decide +kernel
theorem d_H_findHanging_1 : decode c_H_findHanging 1 = .ok (.istore_n 1, 1) := by decide +kernel
theorem d_H_findHanging_2 : decode c_H_findHanging 2 = .ok (.iload_n 1, 1) := by decide +kernel
theorem d_H_findHanging_3 : decode c_H_findHanging 3 = .ok (.sipush 16384, 3) := by decide +kernel
theorem d_H_findHanging_6 : decode c_H_findHanging 6 = .ok (.if_icmp .ge 61, 3) := by decide +kernel
theorem d_H_findHanging_9 : decode c_H_findHanging 9 = .ok (.iload_n 1, 1) := by decide +kernel
theorem d_H_findHanging_10 : decode c_H_findHanging 10 = .ok (.aload_n 0, 1) := by decide +kernel
theorem d_H_findHanging_11 : decode c_H_findHanging 11 = .ok (.getfield 23, 3) := by decide +kernel
theorem d_H_findHanging_14 : decode c_H_findHanging 14 = .ok (.getfield 109, 3) := by decide +kernel
theorem d_H_findHanging_17 : decode c_H_findHanging 17 = .ok (.if_icmp .ge 50, 3) := by decide +kernel
theorem d_H_findHanging_20 : decode c_H_findHanging 20 = .ok (.aload_n 0, 1) := by decide +kernel
theorem d_H_findHanging_21 : decode c_H_findHanging 21 = .ok (.getfield 10, 3) := by decide +kernel
theorem d_H_findHanging_24 : decode c_H_findHanging 24 = .ok (.aload_n 0, 1) := by decide +kernel
theorem d_H_findHanging_25 : decode c_H_findHanging 25 = .ok (.getfield 23, 3) := by decide +kernel
theorem d_H_findHanging_28 : decode c_H_findHanging 28 = .ok (.iload_n 1, 1) := by decide +kernel
theorem d_H_findHanging_29 : decode c_H_findHanging 29 = .ok (.invokevirtual 112, 3) := by decide +kernel
theorem d_H_findHanging_32 : decode c_H_findHanging 32 = .ok (.invokevirtual 56, 3) := by decide +kernel
theorem d_H_findHanging_35 : decode c_H_findHanging 35 = .ok (.astore_n 2, 1) := by decide +kernel
theorem d_H_findHanging_36 : decode c_H_findHanging 36 = .ok (.aload_n 2, 1) := by decide +kernel
theorem d_H_findHanging_37 : decode c_H_findHanging 37 = .ok (.getfield 155, 3) := by decide +kernel
theorem d_H_findHanging_40 : decode c_H_findHanging 40 = .ok (.astore_n 3, 1) := by decide +kernel
theorem d_H_findHanging_41 : decode c_H_findHanging 41 = .ok (.aload_n 3, 1) := by decide +kernel
theorem d_H_findHanging_42 : decode c_H_findHanging 42 = .ok (.ifnull 19, 3) := by decide +kernel
theorem d_H_findHanging_45 : decode c_H_findHanging 45 = .ok (.aload_n 0, 1) := by decide +kernel
theorem d_H_findHanging_46 : decode c_H_findHanging 46 = .ok (.aload_n 3, 1) := by decide +kernel
theorem d_H_findHanging_47 : decode c_H_findHanging 47 = .ok (.getfield 75, 3) := by decide +kernel
theorem d_H_findHanging_50 : decode c_H_findHanging 50 = .ok (.invokevirtual 152, 3) := by decide +kernel
theorem d_H_findHanging_53 : decode c_H_findHanging 53 = .ok (.aload_n 3, 1) := by decide +kernel
theorem d_H_findHanging_54 : decode c_H_findHanging 54 = .ok (.getfield 158, 3) := by decide +kernel
theorem d_H_findHanging_57 : decode c_H_findHanging 57 = .ok (.astore_n 3, 1) := by decide +kernel
theorem d_H_findHanging_58 : decode c_H_findHanging 58 = .ok (.goto (-17), 3) := by decide +kernel
theorem d_H_findHanging_61 : decode c_H_findHanging 61 = .ok (.iinc 1 1, 3) := by decide +kernel
theorem d_H_findHanging_64 : decode c_H_findHanging 64 = .ok (.goto (-62), 3) := by decide +kernel
theorem d_H_findHanging_67 : decode c_H_findHanging 67 = .ok (.return_, 1) := by decide +kernel
theorem d_H_countWaiting_0 : decode c_H_countWaiting 0 = .ok (.iconst 0, 1) := by decide +kernel
theorem d_H_countWaiting_1 : decode c_H_countWaiting 1 = .ok (.istore_n 1, 1) := by decide +kernel
theorem d_H_countWaiting_2 : decode c_H_countWaiting 2 = .ok (.iload_n 1, 1) := by decide +kernel
theorem d_H_countWaiting_3 : decode c_H_countWaiting 3 = .ok (.aload_n 0, 1) := by decide +kernel
theorem d_H_countWaiting_4 : decode c_H_countWaiting 4 = .ok (.getfield 23, 3) := by decide +kernel
theorem d_H_countWaiting_7 : decode c_H_countWaiting 7 = .ok (.getfield 109, 3) := by decide +kernel
theorem d_H_countWaiting_10 : decode c_H_countWaiting 10 = .ok (.if_icmp .ge 51, 3) := by decide +kernel
theorem d_H_countWaiting_13 : decode c_H_countWaiting 13 = .ok (.aload_n 0, 1) := by decide +kernel
theorem d_H_countWaiting_14 : decode c_H_countWaiting 14 = .ok (.getfield 10, 3) := by decide +kernel
theorem d_H_countWaiting_17 : decode c_H_countWaiting 17 = .ok (.aload_n 0, 1) := by decide +kernel
theorem d_H_countWaiting_18 : decode c_H_countWaiting 18 = .ok (.getfield 23, 3) := by decide +kernel
theorem d_H_countWaiting_21 : decode c_H_countWaiting 21 = .ok (.iload_n 1, 1) := by decide +kernel
theorem d_H_countWaiting_22 : decode c_H_countWaiting 22 = .ok (.invokevirtual 112, 3) := by decide +kernel
theorem d_H_countWaiting_25 : decode c_H_countWaiting 25 = .ok (.invokevirtual 56, 3) := by decide +kernel
theorem d_H_countWaiting_28 : decode c_H_countWaiting 28 = .ok (.astore_n 2, 1) := by decide +kernel
theorem d_H_countWaiting_29 : decode c_H_countWaiting 29 = .ok (.aload_n 2, 1) := by decide +kernel
theorem d_H_countWaiting_30 : decode c_H_countWaiting 30 = .ok (.aload_n 2, 1) := by decide +kernel
theorem d_H_countWaiting_31 : decode c_H_countWaiting 31 = .ok (.invokestatic 161, 3) := by decide +kernel
theorem d_H_countWaiting_34 : decode c_H_countWaiting 34 = .ok (.putfield 165, 3) := by decide +kernel
theorem d_H_countWaiting_37 : decode c_H_countWaiting 37 = .ok (.aload_n 2, 1) := by decide +kernel
theorem d_H_countWaiting_38 : decode c_H_countWaiting 38 = .ok (.getfield 165, 3) := by decide +kernel
theorem d_H_countWaiting_41 : decode c_H_countWaiting 41 = .ok (.ifCond .ne 14, 3) := by decide +kernel
theorem d_H_countWaiting_44 : decode c_H_countWaiting 44 = .ok (.aload_n 0, 1) := by decide +kernel
theorem d_H_countWaiting_45 : decode c_H_countWaiting 45 = .ok (.getfield 32, 3) := by decide +kernel
theorem d_H_countWaiting_48 : decode c_H_countWaiting 48 = .ok (.aload_n 2, 1) := by decide +kernel
theorem d_H_countWaiting_49 : decode c_H_countWaiting 49 = .ok (.getfield 143, 3) := by decide +kernel
theorem d_H_countWaiting_52 : decode c_H_countWaiting 52 = .ok (.invokevirtual 168, 3) := by decide +kernel
theorem d_H_countWaiting_55 : decode c_H_countWaiting 55 = .ok (.iinc 1 1, 3) := by decide +kernel
theorem d_H_countWaiting_58 : decode c_H_countWaiting 58 = .ok (.goto (-56), 3) := by decide +kernel
theorem d_H_countWaiting_61 : decode c_H_countWaiting 61 = .ok (.return_, 1) := by decide +kernel
theorem d_H_readsToWaitFor_0 : decode c_H_readsToWaitFor 0 = .ok (.iconst 0, 1) := by decide +kernel
theorem d_H_readsToWaitFor_1 : decode c_H_readsToWaitFor 1 = .ok (.istore_n 1, 1) := by decide +kernel
theorem d_H_readsToWaitFor_2 : decode c_H_readsToWaitFor 2 = .ok (.aload_n 0, 1) := by decide +kernel
theorem d_H_readsToWaitFor_3 : decode c_H_readsToWaitFor 3 = .ok (.getfield 84, 3) := by decide +kernel
theorem d_H_readsToWaitFor_6 : decode c_H_readsToWaitFor 6 = .ok (.astore_n 2, 1) := by decide +kernel
theorem d_H_readsToWaitFor_7 : decode c_H_readsToWaitFor 7 = .ok (.aload_n 2, 1) := by decide +kernel
theorem d_H_readsToWaitFor_8 : decode c_H_readsToWaitFor 8 = .ok (.ifnull 34, 3) := by decide +kernel
theorem d_H_readsToWaitFor_11 : decode c_H_readsToWaitFor 11 = .ok (.aload_n 2, 1) := by decide +kernel
theorem d_H_readsToWaitFor_12 : decode c_H_readsToWaitFor 12 = .ok (.getfield 140, 3) := by decide +kernel
theorem d_H_readsToWaitFor_15 : decode c_H_readsToWaitFor 15 = .ok (.getfield 149, 3) := by decide +kernel
theorem d_H_readsToWaitFor_18 : decode c_H_readsToWaitFor 18 = .ok (.ifCond .ne 13, 3) := by decide +kernel
theorem d_H_readsToWaitFor_21 : decode c_H_readsToWaitFor 21 = .ok (.aload_n 2, 1) := by decide +kernel
theorem d_H_readsToWaitFor_22 : decode c_H_readsToWaitFor 22 = .ok (.getfield 140, 3) := by decide +kernel
theorem d_H_readsToWaitFor_25 : decode c_H_readsToWaitFor 25 = .ok (.getfield 121, 3) := by decide +kernel
theorem d_H_readsToWaitFor_28 : decode c_H_readsToWaitFor 28 = .ok (.ifCond .eq 6, 3) := by decide +kernel
theorem d_H_readsToWaitFor_31 : decode c_H_readsToWaitFor 31 = .ok (.iinc 1 1, 3) := by decide +kernel
theorem d_H_readsToWaitFor_34 : decode c_H_readsToWaitFor 34 = .ok (.aload_n 2, 1) := by decide +kernel
theorem d_H_readsToWaitFor_35 : decode c_H_readsToWaitFor 35 = .ok (.getfield 88, 3) := by decide +kernel
theorem d_H_readsToWaitFor_38 : decode c_H_readsToWaitFor 38 = .ok (.astore_n 2, 1) := by decide +kernel
theorem d_H_readsToWaitFor_39 : decode c_H_readsToWaitFor 39 = .ok (.goto (-32), 3) := by decide +kernel
theorem d_H_readsToWaitFor_42 : decode c_H_readsToWaitFor 42 = .ok (.iload_n 1, 1) := by decide +kernel
theorem d_H_readsToWaitFor_43 : decode c_H_readsToWaitFor 43 = .ok (.ireturn, 1) := by decide +kernel
theorem d_H_workOutReady_0 : decode c_H_workOutReady 0 = .ok (.iconst 0, 1) := by decide +kernel
theorem d_H_workOutReady_1 : decode c_H_workOutReady 1 = .ok (.istore_n 1, 1) := by decide +kernel
theorem d_H_workOutReady_2 : decode c_H_workOutReady 2 = .ok (.iload_n 1, 1) := by decide +kernel
theorem d_H_workOutReady_3 : decode c_H_workOutReady 3 = .ok (.aload_n 0, 1) := by decide +kernel
theorem d_H_workOutReady_4 : decode c_H_workOutReady 4 = .ok (.getfield 23, 3) := by decide +kernel
theorem d_H_workOutReady_7 : decode c_H_workOutReady 7 = .ok (.getfield 109, 3) := by decide +kernel
theorem d_H_workOutReady_10 : decode c_H_workOutReady 10 = .ok (.if_icmp .ge 70, 3) := by decide +kernel
theorem d_H_workOutReady_13 : decode c_H_workOutReady 13 = .ok (.aload_n 0, 1) := by decide +kernel
theorem d_H_workOutReady_14 : decode c_H_workOutReady 14 = .ok (.getfield 32, 3) := by decide +kernel
theorem d_H_workOutReady_17 : decode c_H_workOutReady 17 = .ok (.invokevirtual 171, 3) := by decide +kernel
theorem d_H_workOutReady_20 : decode c_H_workOutReady 20 = .ok (.ifCond .ne 60, 3) := by decide +kernel
theorem d_H_workOutReady_23 : decode c_H_workOutReady 23 = .ok (.aload_n 0, 1) := by decide +kernel
theorem d_H_workOutReady_24 : decode c_H_workOutReady 24 = .ok (.getfield 10, 3) := by decide +kernel
theorem d_H_workOutReady_27 : decode c_H_workOutReady 27 = .ok (.aload_n 0, 1) := by decide +kernel
theorem d_H_workOutReady_28 : decode c_H_workOutReady 28 = .ok (.getfield 32, 3) := by decide +kernel
theorem d_H_workOutReady_31 : decode c_H_workOutReady 31 = .ok (.invokevirtual 175, 3) := by decide +kernel
theorem d_H_workOutReady_34 : decode c_H_workOutReady 34 = .ok (.invokevirtual 56, 3) := by decide +kernel
theorem d_H_workOutReady_37 : decode c_H_workOutReady 37 = .ok (.astore_n 2, 1) := by decide +kernel
theorem d_H_workOutReady_38 : decode c_H_workOutReady 38 = .ok (.aload_n 0, 1) := by decide +kernel
theorem d_H_workOutReady_39 : decode c_H_workOutReady 39 = .ok (.getfield 26, 3) := by decide +kernel
theorem d_H_workOutReady_42 : decode c_H_workOutReady 42 = .ok (.aload_n 2, 1) := by decide +kernel
theorem d_H_workOutReady_43 : decode c_H_workOutReady 43 = .ok (.getfield 143, 3) := by decide +kernel
theorem d_H_workOutReady_46 : decode c_H_workOutReady 46 = .ok (.invokevirtual 146, 3) := by decide +kernel
theorem d_H_workOutReady_49 : decode c_H_workOutReady 49 = .ok (.aload_n 2, 1) := by decide +kernel
theorem d_H_workOutReady_50 : decode c_H_workOutReady 50 = .ok (.getfield 155, 3) := by decide +kernel
theorem d_H_workOutReady_53 : decode c_H_workOutReady 53 = .ok (.astore_n 3, 1) := by decide +kernel
theorem d_H_workOutReady_54 : decode c_H_workOutReady 54 = .ok (.aload_n 3, 1) := by decide +kernel
theorem d_H_workOutReady_55 : decode c_H_workOutReady 55 = .ok (.ifnull 19, 3) := by decide +kernel
theorem d_H_workOutReady_58 : decode c_H_workOutReady 58 = .ok (.aload_n 0, 1) := by decide +kernel
theorem d_H_workOutReady_59 : decode c_H_workOutReady 59 = .ok (.aload_n 3, 1) := by decide +kernel
theorem d_H_workOutReady_60 : decode c_H_workOutReady 60 = .ok (.getfield 75, 3) := by decide +kernel
theorem d_H_workOutReady_63 : decode c_H_workOutReady 63 = .ok (.invokevirtual 179, 3) := by decide +kernel
theorem d_H_workOutReady_66 : decode c_H_workOutReady 66 = .ok (.aload_n 3, 1) := by decide +kernel
theorem d_H_workOutReady_67 : decode c_H_workOutReady 67 = .ok (.getfield 158, 3) := by decide +kernel
theorem d_H_workOutReady_70 : decode c_H_workOutReady 70 = .ok (.astore_n 3, 1) := by decide +kernel
theorem d_H_workOutReady_71 : decode c_H_workOutReady 71 = .ok (.goto (-17), 3) := by decide +kernel
theorem d_H_workOutReady_74 : decode c_H_workOutReady 74 = .ok (.iinc 1 1, 3) := by decide +kernel
theorem d_H_workOutReady_77 : decode c_H_workOutReady 77 = .ok (.goto (-75), 3) := by decide +kernel
theorem d_H_workOutReady_80 : decode c_H_workOutReady 80 = .ok (.return_, 1) := by decide +kernel
theorem d_H_releaseOnce_0 : decode c_H_releaseOnce 0 = .ok (.aload_n 1, 1) := by decide +kernel
theorem d_H_releaseOnce_1 : decode c_H_releaseOnce 1 = .ok (.dup, 1) := by decide +kernel
theorem d_H_releaseOnce_2 : decode c_H_releaseOnce 2 = .ok (.getfield 165, 3) := by decide +kernel
theorem d_H_releaseOnce_5 : decode c_H_releaseOnce 5 = .ok (.iconst 1, 1) := by decide +kernel
theorem d_H_releaseOnce_6 : decode c_H_releaseOnce 6 = .ok (.isub, 1) := by decide +kernel
theorem d_H_releaseOnce_7 : decode c_H_releaseOnce 7 = .ok (.putfield 165, 3) := by decide +kernel
theorem d_H_releaseOnce_10 : decode c_H_releaseOnce 10 = .ok (.aload_n 1, 1) := by decide +kernel
theorem d_H_releaseOnce_11 : decode c_H_releaseOnce 11 = .ok (.getfield 165, 3) := by decide +kernel
theorem d_H_releaseOnce_14 : decode c_H_releaseOnce 14 = .ok (.ifCond .ne 14, 3) := by decide +kernel
theorem d_H_releaseOnce_17 : decode c_H_releaseOnce 17 = .ok (.aload_n 0, 1) := by decide +kernel
theorem d_H_releaseOnce_18 : decode c_H_releaseOnce 18 = .ok (.getfield 32, 3) := by decide +kernel
theorem d_H_releaseOnce_21 : decode c_H_releaseOnce 21 = .ok (.aload_n 1, 1) := by decide +kernel
theorem d_H_releaseOnce_22 : decode c_H_releaseOnce 22 = .ok (.getfield 143, 3) := by decide +kernel
theorem d_H_releaseOnce_25 : decode c_H_releaseOnce 25 = .ok (.invokevirtual 168, 3) := by decide +kernel
theorem d_H_releaseOnce_28 : decode c_H_releaseOnce 28 = .ok (.return_, 1) := by decide +kernel
theorem d_H_settleRinged_0 : decode c_H_settleRinged 0 = .ok (.iconst 0, 1) := by decide +kernel
theorem d_H_settleRinged_1 : decode c_H_settleRinged 1 = .ok (.istore_n 1, 1) := by decide +kernel
theorem d_H_settleRinged_2 : decode c_H_settleRinged 2 = .ok (.iload_n 1, 1) := by decide +kernel
theorem d_H_settleRinged_3 : decode c_H_settleRinged 3 = .ok (.aload_n 0, 1) := by decide +kernel
theorem d_H_settleRinged_4 : decode c_H_settleRinged 4 = .ok (.getfield 23, 3) := by decide +kernel
theorem d_H_settleRinged_7 : decode c_H_settleRinged 7 = .ok (.getfield 109, 3) := by decide +kernel
theorem d_H_settleRinged_10 : decode c_H_settleRinged 10 = .ok (.if_icmp .ge 46, 3) := by decide +kernel
theorem d_H_settleRinged_13 : decode c_H_settleRinged 13 = .ok (.aload_n 0, 1) := by decide +kernel
theorem d_H_settleRinged_14 : decode c_H_settleRinged 14 = .ok (.getfield 10, 3) := by decide +kernel
theorem d_H_settleRinged_17 : decode c_H_settleRinged 17 = .ok (.aload_n 0, 1) := by decide +kernel
theorem d_H_settleRinged_18 : decode c_H_settleRinged 18 = .ok (.getfield 23, 3) := by decide +kernel
theorem d_H_settleRinged_21 : decode c_H_settleRinged 21 = .ok (.iload_n 1, 1) := by decide +kernel
theorem d_H_settleRinged_22 : decode c_H_settleRinged 22 = .ok (.invokevirtual 112, 3) := by decide +kernel
theorem d_H_settleRinged_25 : decode c_H_settleRinged 25 = .ok (.invokevirtual 56, 3) := by decide +kernel
theorem d_H_settleRinged_28 : decode c_H_settleRinged 28 = .ok (.astore_n 2, 1) := by decide +kernel
theorem d_H_settleRinged_29 : decode c_H_settleRinged 29 = .ok (.aload_n 2, 1) := by decide +kernel
theorem d_H_settleRinged_30 : decode c_H_settleRinged 30 = .ok (.iconst 0, 1) := by decide +kernel
theorem d_H_settleRinged_31 : decode c_H_settleRinged 31 = .ok (.putfield 149, 3) := by decide +kernel
theorem d_H_settleRinged_34 : decode c_H_settleRinged 34 = .ok (.aload_n 2, 1) := by decide +kernel
theorem d_H_settleRinged_35 : decode c_H_settleRinged 35 = .ok (.aload_n 2, 1) := by decide +kernel
theorem d_H_settleRinged_36 : decode c_H_settleRinged 36 = .ok (.getfield 165, 3) := by decide +kernel
theorem d_H_settleRinged_39 : decode c_H_settleRinged 39 = .ok (.ifCond .le 7, 3) := by decide +kernel
theorem d_H_settleRinged_42 : decode c_H_settleRinged 42 = .ok (.iconst 1, 1) := by decide +kernel
theorem d_H_settleRinged_43 : decode c_H_settleRinged 43 = .ok (.goto 4, 3) := by decide +kernel
theorem d_H_settleRinged_46 : decode c_H_settleRinged 46 = .ok (.iconst 0, 1) := by decide +kernel
theorem d_H_settleRinged_47 : decode c_H_settleRinged 47 = .ok (.putfield 121, 3) := by decide +kernel
theorem d_H_settleRinged_50 : decode c_H_settleRinged 50 = .ok (.iinc 1 1, 3) := by decide +kernel
theorem d_H_settleRinged_53 : decode c_H_settleRinged 53 = .ok (.goto (-51), 3) := by decide +kernel
theorem d_H_settleRinged_56 : decode c_H_settleRinged 56 = .ok (.aload_n 0, 1) := by decide +kernel
theorem d_H_settleRinged_57 : decode c_H_settleRinged 57 = .ok (.aload_n 0, 1) := by decide +kernel
theorem d_H_settleRinged_58 : decode c_H_settleRinged 58 = .ok (.getfield 23, 3) := by decide +kernel
theorem d_H_settleRinged_61 : decode c_H_settleRinged 61 = .ok (.getfield 109, 3) := by decide +kernel
theorem d_H_settleRinged_64 : decode c_H_settleRinged 64 = .ok (.aload_n 0, 1) := by decide +kernel
theorem d_H_settleRinged_65 : decode c_H_settleRinged 65 = .ok (.getfield 26, 3) := by decide +kernel
theorem d_H_settleRinged_68 : decode c_H_settleRinged 68 = .ok (.getfield 109, 3) := by decide +kernel
theorem d_H_settleRinged_71 : decode c_H_settleRinged 71 = .ok (.isub, 1) := by decide +kernel
theorem d_H_settleRinged_72 : decode c_H_settleRinged 72 = .ok (.putfield 116, 3) := by decide +kernel
theorem d_H_settleRinged_75 : decode c_H_settleRinged 75 = .ok (.return_, 1) := by decide +kernel
theorem d_M_init_0 : decode c_M_init 0 = .ok (.aload_n 0, 1) := by decide +kernel
theorem d_M_init_1 : decode c_M_init 1 = .ok (.invokespecial 1, 3) := by decide +kernel
theorem d_M_init_4 : decode c_M_init 4 = .ok (.aload_n 0, 1) := by decide +kernel
theorem d_M_init_5 : decode c_M_init 5 = .ok (.sipush 4096, 3) := by decide +kernel
theorem d_M_init_8 : decode c_M_init 8 = .ok (.newarray .int, 2) := by decide +kernel
theorem d_M_init_10 : decode c_M_init 10 = .ok (.putfield 7, 3) := by decide +kernel
theorem d_M_init_13 : decode c_M_init 13 = .ok (.aload_n 0, 1) := by decide +kernel
theorem d_M_init_14 : decode c_M_init 14 = .ok (.sipush 4096, 3) := by decide +kernel
theorem d_M_init_17 : decode c_M_init 17 = .ok (.newarray .int, 2) := by decide +kernel
theorem d_M_init_19 : decode c_M_init 19 = .ok (.putfield 13, 3) := by decide +kernel
theorem d_M_init_22 : decode c_M_init 22 = .ok (.aload_n 0, 1) := by decide +kernel
theorem d_M_init_23 : decode c_M_init 23 = .ok (.sipush 8192, 3) := by decide +kernel
theorem d_M_init_26 : decode c_M_init 26 = .ok (.newarray .int, 2) := by decide +kernel
theorem d_M_init_28 : decode c_M_init 28 = .ok (.putfield 16, 3) := by decide +kernel
theorem d_M_init_31 : decode c_M_init 31 = .ok (.aload_n 0, 1) := by decide +kernel
theorem d_M_init_32 : decode c_M_init 32 = .ok (.sipush 8192, 3) := by decide +kernel
theorem d_M_init_35 : decode c_M_init 35 = .ok (.newarray .boolean, 2) := by decide +kernel
theorem d_M_init_37 : decode c_M_init 37 = .ok (.putfield 19, 3) := by decide +kernel
theorem d_M_init_40 : decode c_M_init 40 = .ok (.aload_n 0, 1) := by decide +kernel
theorem d_M_init_41 : decode c_M_init 41 = .ok (.sipush 8192, 3) := by decide +kernel
theorem d_M_init_44 : decode c_M_init 44 = .ok (.newarray .boolean, 2) := by decide +kernel
theorem d_M_init_46 : decode c_M_init 46 = .ok (.putfield 23, 3) := by decide +kernel
theorem d_M_init_49 : decode c_M_init 49 = .ok (.aload_n 0, 1) := by decide +kernel
theorem d_M_init_50 : decode c_M_init 50 = .ok (.sipush 8192, 3) := by decide +kernel
theorem d_M_init_53 : decode c_M_init 53 = .ok (.newarray .boolean, 2) := by decide +kernel
theorem d_M_init_55 : decode c_M_init 55 = .ok (.putfield 26, 3) := by decide +kernel
theorem d_M_init_58 : decode c_M_init 58 = .ok (.aload_n 0, 1) := by decide +kernel
theorem d_M_init_59 : decode c_M_init 59 = .ok (.sipush 8192, 3) := by decide +kernel
theorem d_M_init_62 : decode c_M_init 62 = .ok (.newarray .boolean, 2) := by decide +kernel
theorem d_M_init_64 : decode c_M_init 64 = .ok (.putfield 29, 3) := by decide +kernel
theorem d_M_init_67 : decode c_M_init 67 = .ok (.aload_n 0, 1) := by decide +kernel
theorem d_M_init_68 : decode c_M_init 68 = .ok (.sipush 8192, 3) := by decide +kernel
theorem d_M_init_71 : decode c_M_init 71 = .ok (.newarray .int, 2) := by decide +kernel
theorem d_M_init_73 : decode c_M_init 73 = .ok (.putfield 32, 3) := by decide +kernel
theorem d_M_init_76 : decode c_M_init 76 = .ok (.return_, 1) := by decide +kernel
theorem d_M_thrown_0 : decode c_M_thrown 0 = .ok (.aload_n 0, 1) := by decide +kernel
theorem d_M_thrown_1 : decode c_M_thrown 1 = .ok (.getfield 35, 3) := by decide +kernel
theorem d_M_thrown_4 : decode c_M_thrown 4 = .ok (.ireturn, 1) := by decide +kernel
theorem d_M_isNode_0 : decode c_M_isNode 0 = .ok (.iload_n 0, 1) := by decide +kernel
theorem d_M_isNode_1 : decode c_M_isNode 1 = .ok (.ifCond .lt 14, 3) := by decide +kernel
theorem d_M_isNode_4 : decode c_M_isNode 4 = .ok (.iload_n 0, 1) := by decide +kernel
theorem d_M_isNode_5 : decode c_M_isNode 5 = .ok (.sipush 16384, 3) := by decide +kernel
theorem d_M_isNode_8 : decode c_M_isNode 8 = .ok (.if_icmp .ge 7, 3) := by decide +kernel
theorem d_M_isNode_11 : decode c_M_isNode 11 = .ok (.iconst 1, 1) := by decide +kernel
theorem d_M_isNode_12 : decode c_M_isNode 12 = .ok (.goto 4, 3) := by decide +kernel
theorem d_M_isNode_15 : decode c_M_isNode 15 = .ok (.iconst 0, 1) := by decide +kernel
theorem d_M_isNode_16 : decode c_M_isNode 16 = .ok (.ireturn, 1) := by decide +kernel
theorem d_M_find_0 : decode c_M_find 0 = .ok (.iconst 0, 1) := by decide +kernel
theorem d_M_find_1 : decode c_M_find 1 = .ok (.istore_n 2, 1) := by decide +kernel
theorem d_M_find_2 : decode c_M_find 2 = .ok (.iload_n 2, 1) := by decide +kernel
theorem d_M_find_3 : decode c_M_find 3 = .ok (.aload_n 0, 1) := by decide +kernel
theorem d_M_find_4 : decode c_M_find 4 = .ok (.getfield 39, 3) := by decide +kernel
theorem d_M_find_7 : decode c_M_find 7 = .ok (.if_icmp .ge 19, 3) := by decide +kernel
theorem d_M_find_10 : decode c_M_find 10 = .ok (.aload_n 0, 1) := by decide +kernel
theorem d_M_find_11 : decode c_M_find 11 = .ok (.getfield 16, 3) := by decide +kernel
theorem d_M_find_14 : decode c_M_find 14 = .ok (.iload_n 2, 1) := by decide +kernel
theorem d_M_find_15 : decode c_M_find 15 = .ok (.iaload, 1) := by decide +kernel
theorem d_M_find_16 : decode c_M_find 16 = .ok (.iload_n 1, 1) := by decide +kernel
theorem d_M_find_17 : decode c_M_find 17 = .ok (.if_icmp .eq 9, 3) := by decide +kernel
theorem d_M_find_20 : decode c_M_find 20 = .ok (.iinc 2 1, 3) := by decide +kernel
theorem d_M_find_23 : decode c_M_find 23 = .ok (.goto (-21), 3) := by decide +kernel
theorem d_M_find_26 : decode c_M_find 26 = .ok (.iload_n 2, 1) := by decide +kernel
theorem d_M_find_27 : decode c_M_find 27 = .ok (.aload_n 0, 1) := by decide +kernel
theorem d_M_find_28 : decode c_M_find 28 = .ok (.getfield 39, 3) := by decide +kernel
theorem d_M_find_31 : decode c_M_find 31 = .ok (.if_icmp .ge 7, 3) := by decide +kernel
theorem d_M_find_34 : decode c_M_find 34 = .ok (.iload_n 2, 1) := by decide +kernel
theorem d_M_find_35 : decode c_M_find 35 = .ok (.goto 4, 3) := by decide +kernel
theorem d_M_find_38 : decode c_M_find 38 = .ok (.iconst (-1), 1) := by decide +kernel
theorem d_M_find_39 : decode c_M_find 39 = .ok (.ireturn, 1) := by decide +kernel
theorem d_M_place_0 : decode c_M_place 0 = .ok (.aload_n 0, 1) := by decide +kernel
theorem d_M_place_1 : decode c_M_place 1 = .ok (.iload_n 1, 1) := by decide +kernel
theorem d_M_place_2 : decode c_M_place 2 = .ok (.invokevirtual 42, 3) := by decide +kernel
theorem d_M_place_5 : decode c_M_place 5 = .ok (.istore_n 2, 1) := by decide +kernel
theorem d_M_place_6 : decode c_M_place 6 = .ok (.iload_n 2, 1) := by decide +kernel
theorem d_M_place_7 : decode c_M_place 7 = .ok (.ifCond .lt 5, 3) := by decide +kernel
theorem d_M_place_10 : decode c_M_place 10 = .ok (.iload_n 2, 1) := by decide +kernel
theorem d_M_place_11 : decode c_M_place 11 = .ok (.ireturn, 1) := by decide +kernel
theorem d_M_place_12 : decode c_M_place 12 = .ok (.aload_n 0, 1) := by decide +kernel
theorem d_M_place_13 : decode c_M_place 13 = .ok (.getfield 16, 3) := by decide +kernel
theorem d_M_place_16 : decode c_M_place 16 = .ok (.aload_n 0, 1) := by decide +kernel
theorem d_M_place_17 : decode c_M_place 17 = .ok (.getfield 39, 3) := by decide +kernel
theorem d_M_place_20 : decode c_M_place 20 = .ok (.iload_n 1, 1) := by decide +kernel
theorem d_M_place_21 : decode c_M_place 21 = .ok (.iastore, 1) := by decide +kernel
theorem d_M_place_22 : decode c_M_place 22 = .ok (.aload_n 0, 1) := by decide +kernel
theorem d_M_place_23 : decode c_M_place 23 = .ok (.dup, 1) := by decide +kernel
theorem d_M_place_24 : decode c_M_place 24 = .ok (.getfield 39, 3) := by decide +kernel
theorem d_M_place_27 : decode c_M_place 27 = .ok (.iconst 1, 1) := by decide +kernel
theorem d_M_place_28 : decode c_M_place 28 = .ok (.iadd, 1) := by decide +kernel
theorem d_M_place_29 : decode c_M_place 29 = .ok (.putfield 39, 3) := by decide +kernel
theorem d_M_place_32 : decode c_M_place 32 = .ok (.aload_n 0, 1) := by decide +kernel
theorem d_M_place_33 : decode c_M_place 33 = .ok (.getfield 39, 3) := by decide +kernel
theorem d_M_place_36 : decode c_M_place 36 = .ok (.iconst 1, 1) := by decide +kernel
theorem d_M_place_37 : decode c_M_place 37 = .ok (.isub, 1) := by decide +kernel
theorem d_M_place_38 : decode c_M_place 38 = .ok (.ireturn, 1) := by decide +kernel
theorem d_M_linkOf_0 : decode c_M_linkOf 0 = .ok (.iconst 0, 1) := by decide +kernel
theorem d_M_linkOf_1 : decode c_M_linkOf 1 = .ok (.istore_n 3, 1) := by decide +kernel
theorem d_M_linkOf_2 : decode c_M_linkOf 2 = .ok (.iload_n 3, 1) := by decide +kernel
theorem d_M_linkOf_3 : decode c_M_linkOf 3 = .ok (.aload_n 0, 1) := by decide +kernel
theorem d_M_linkOf_4 : decode c_M_linkOf 4 = .ok (.getfield 46, 3) := by decide +kernel
theorem d_M_linkOf_7 : decode c_M_linkOf 7 = .ok (.if_icmp .ge 29, 3) := by decide +kernel
theorem d_M_linkOf_10 : decode c_M_linkOf 10 = .ok (.aload_n 0, 1) := by decide +kernel
theorem d_M_linkOf_11 : decode c_M_linkOf 11 = .ok (.getfield 7, 3) := by decide +kernel
theorem d_M_linkOf_14 : decode c_M_linkOf 14 = .ok (.iload_n 3, 1) := by decide +kernel
theorem d_M_linkOf_15 : decode c_M_linkOf 15 = .ok (.iaload, 1) := by decide +kernel
theorem d_M_linkOf_16 : decode c_M_linkOf 16 = .ok (.iload_n 1, 1) := by decide +kernel
theorem d_M_linkOf_17 : decode c_M_linkOf 17 = .ok (.if_icmp .ne 13, 3) := by decide +kernel
theorem d_M_linkOf_20 : decode c_M_linkOf 20 = .ok (.aload_n 0, 1) := by decide +kernel
theorem d_M_linkOf_21 : decode c_M_linkOf 21 = .ok (.getfield 13, 3) := by decide +kernel
theorem d_M_linkOf_24 : decode c_M_linkOf 24 = .ok (.iload_n 3, 1) := by decide +kernel
theorem d_M_linkOf_25 : decode c_M_linkOf 25 = .ok (.iaload, 1) := by decide +kernel
theorem d_M_linkOf_26 : decode c_M_linkOf 26 = .ok (.iload_n 2, 1) := by decide +kernel
theorem d_M_linkOf_27 : decode c_M_linkOf 27 = .ok (.if_icmp .eq 9, 3) := by decide +kernel
theorem d_M_linkOf_30 : decode c_M_linkOf 30 = .ok (.iinc 3 1, 3) := by decide +kernel
theorem d_M_linkOf_33 : decode c_M_linkOf 33 = .ok (.goto (-31), 3) := by decide +kernel
theorem d_M_linkOf_36 : decode c_M_linkOf 36 = .ok (.iload_n 3, 1) := by decide +kernel
theorem d_M_linkOf_37 : decode c_M_linkOf 37 = .ok (.aload_n 0, 1) := by decide +kernel
theorem d_M_linkOf_38 : decode c_M_linkOf 38 = .ok (.getfield 46, 3) := by decide +kernel
theorem d_M_linkOf_41 : decode c_M_linkOf 41 = .ok (.if_icmp .ge 7, 3) := by decide +kernel
theorem d_M_linkOf_44 : decode c_M_linkOf 44 = .ok (.iload_n 3, 1) := by decide +kernel
theorem d_M_linkOf_45 : decode c_M_linkOf 45 = .ok (.goto 4, 3) := by decide +kernel
theorem d_M_linkOf_48 : decode c_M_linkOf 48 = .ok (.iconst (-1), 1) := by decide +kernel
theorem d_M_linkOf_49 : decode c_M_linkOf 49 = .ok (.ireturn, 1) := by decide +kernel
