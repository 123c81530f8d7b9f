theorem d_M_findRings_0 : decode c_M_findRings 0 = .ok (.iconst 0, 1) := by decide +kernel
theorem d_M_findRings_1 : decode c_M_findRings 1 = .ok (.istore_n 1, 1) := by decide +kernel
theorem d_M_findRings_2 : decode c_M_findRings 2 = .ok (.iload_n 1, 1) := by decide +kernel
theorem d_M_findRings_3 : decode c_M_findRings 3 = .ok (.aload_n 0, 1) := by decide +kernel
theorem d_M_findRings_4 : decode c_M_findRings 4 = .ok (.getfield 39, 3) := by decide +kernel
theorem d_M_findRings_7 : decode c_M_findRings 7 = .ok (.if_icmp .ge 16, 3) := by decide +kernel
theorem d_M_findRings_10 : decode c_M_findRings 10 = .ok (.aload_n 0, 1) := by decide +kernel
theorem d_M_findRings_11 : decode c_M_findRings 11 = .ok (.getfield 23, 3) := by decide +kernel
theorem d_M_findRings_14 : decode c_M_findRings 14 = .ok (.iload_n 1, 1) := by decide +kernel
theorem d_M_findRings_15 : decode c_M_findRings 15 = .ok (.iconst 1, 1) := by decide +kernel
theorem d_M_findRings_16 : decode c_M_findRings 16 = .ok (.bastore, 1) := by decide +kernel
theorem d_M_findRings_17 : decode c_M_findRings 17 = .ok (.iinc 1 1, 3) := by decide +kernel
theorem d_M_findRings_20 : decode c_M_findRings 20 = .ok (.goto (-18), 3) := by decide +kernel
theorem d_M_findRings_23 : decode c_M_findRings 23 = .ok (.iconst 1, 1) := by decide +kernel
theorem d_M_findRings_24 : decode c_M_findRings 24 = .ok (.istore_n 1, 1) := by decide +kernel
theorem d_M_findRings_25 : decode c_M_findRings 25 = .ok (.iload_n 1, 1) := by decide +kernel
theorem d_M_findRings_26 : decode c_M_findRings 26 = .ok (.ifCond .eq 121, 3) := by decide +kernel
theorem d_M_findRings_29 : decode c_M_findRings 29 = .ok (.iconst 0, 1) := by decide +kernel
theorem d_M_findRings_30 : decode c_M_findRings 30 = .ok (.istore_n 1, 1) := by decide +kernel
theorem d_M_findRings_31 : decode c_M_findRings 31 = .ok (.iconst 0, 1) := by decide +kernel
theorem d_M_findRings_32 : decode c_M_findRings 32 = .ok (.istore_n 2, 1) := by decide +kernel
theorem d_M_findRings_33 : decode c_M_findRings 33 = .ok (.iload_n 2, 1) := by decide +kernel
theorem d_M_findRings_34 : decode c_M_findRings 34 = .ok (.aload_n 0, 1) := by decide +kernel
theorem d_M_findRings_35 : decode c_M_findRings 35 = .ok (.getfield 39, 3) := by decide +kernel
theorem d_M_findRings_38 : decode c_M_findRings 38 = .ok (.if_icmp .ge 106, 3) := by decide +kernel
theorem d_M_findRings_41 : decode c_M_findRings 41 = .ok (.aload_n 0, 1) := by decide +kernel
theorem d_M_findRings_42 : decode c_M_findRings 42 = .ok (.getfield 23, 3) := by decide +kernel
theorem d_M_findRings_45 : decode c_M_findRings 45 = .ok (.iload_n 2, 1) := by decide +kernel
theorem d_M_findRings_46 : decode c_M_findRings 46 = .ok (.baload, 1) := by decide +kernel
theorem d_M_findRings_47 : decode c_M_findRings 47 = .ok (.ifCond .ne 6, 3) := by decide +kernel
theorem d_M_findRings_50 : decode c_M_findRings 50 = .ok (.goto 88, 3) := by decide +kernel
theorem d_M_findRings_53 : decode c_M_findRings 53 = .ok (.iconst 1, 1) := by decide +kernel
theorem d_M_findRings_54 : decode c_M_findRings 54 = .ok (.istore_n 3, 1) := by decide +kernel
theorem d_M_findRings_55 : decode c_M_findRings 55 = .ok (.iconst 0, 1) := by decide +kernel
theorem d_M_findRings_56 : decode c_M_findRings 56 = .ok (.istore 4, 2) := by decide +kernel
theorem d_M_findRings_58 : decode c_M_findRings 58 = .ok (.iload 4, 2) := by decide +kernel
theorem d_M_findRings_60 : decode c_M_findRings 60 = .ok (.aload_n 0, 1) := by decide +kernel
theorem d_M_findRings_61 : decode c_M_findRings 61 = .ok (.getfield 46, 3) := by decide +kernel
theorem d_M_findRings_64 : decode c_M_findRings 64 = .ok (.if_icmp .ge 45, 3) := by decide +kernel
theorem d_M_findRings_67 : decode c_M_findRings 67 = .ok (.iload_n 3, 1) := by decide +kernel
theorem d_M_findRings_68 : decode c_M_findRings 68 = .ok (.ifCond .eq 41, 3) := by decide +kernel
theorem d_M_findRings_71 : decode c_M_findRings 71 = .ok (.aload_n 0, 1) := by decide +kernel
theorem d_M_findRings_72 : decode c_M_findRings 72 = .ok (.getfield 7, 3) := by decide +kernel
theorem d_M_findRings_75 : decode c_M_findRings 75 = .ok (.iload 4, 2) := by decide +kernel
theorem d_M_findRings_77 : decode c_M_findRings 77 = .ok (.iaload, 1) := by decide +kernel
theorem d_M_findRings_78 : decode c_M_findRings 78 = .ok (.iload_n 2, 1) := by decide +kernel
theorem d_M_findRings_79 : decode c_M_findRings 79 = .ok (.if_icmp .ne 18, 3) := by decide +kernel
theorem d_M_findRings_82 : decode c_M_findRings 82 = .ok (.aload_n 0, 1) := by decide +kernel
theorem d_M_findRings_83 : decode c_M_findRings 83 = .ok (.getfield 23, 3) := by decide +kernel
theorem d_M_findRings_86 : decode c_M_findRings 86 = .ok (.aload_n 0, 1) := by decide +kernel
theorem d_M_findRings_87 : decode c_M_findRings 87 = .ok (.getfield 13, 3) := by decide +kernel
theorem d_M_findRings_90 : decode c_M_findRings 90 = .ok (.iload 4, 2) := by decide +kernel
theorem d_M_findRings_92 : decode c_M_findRings 92 = .ok (.iaload, 1) := by decide +kernel
theorem d_M_findRings_93 : decode c_M_findRings 93 = .ok (.baload, 1) := by decide +kernel
theorem d_M_findRings_94 : decode c_M_findRings 94 = .ok (.ifCond .ne 7, 3) := by decide +kernel
theorem d_M_findRings_97 : decode c_M_findRings 97 = .ok (.iconst 1, 1) := by decide +kernel
theorem d_M_findRings_98 : decode c_M_findRings 98 = .ok (.goto 4, 3) := by decide +kernel
theorem d_M_findRings_101 : decode c_M_findRings 101 = .ok (.iconst 0, 1) := by decide +kernel
theorem d_M_findRings_102 : decode c_M_findRings 102 = .ok (.istore_n 3, 1) := by decide +kernel
theorem d_M_findRings_103 : decode c_M_findRings 103 = .ok (.iinc 4 1, 3) := by decide +kernel
theorem d_M_findRings_106 : decode c_M_findRings 106 = .ok (.goto (-48), 3) := by decide +kernel
theorem d_M_findRings_109 : decode c_M_findRings 109 = .ok (.aload_n 0, 1) := by decide +kernel
theorem d_M_findRings_110 : decode c_M_findRings 110 = .ok (.getfield 23, 3) := by decide +kernel
theorem d_M_findRings_113 : decode c_M_findRings 113 = .ok (.iload_n 2, 1) := by decide +kernel
theorem d_M_findRings_114 : decode c_M_findRings 114 = .ok (.iload_n 3, 1) := by decide +kernel
theorem d_M_findRings_115 : decode c_M_findRings 115 = .ok (.ifCond .ne 7, 3) := by decide +kernel
theorem d_M_findRings_118 : decode c_M_findRings 118 = .ok (.iconst 1, 1) := by decide +kernel
theorem d_M_findRings_119 : decode c_M_findRings 119 = .ok (.goto 4, 3) := by decide +kernel
theorem d_M_findRings_122 : decode c_M_findRings 122 = .ok (.iconst 0, 1) := by decide +kernel
theorem d_M_findRings_123 : decode c_M_findRings 123 = .ok (.bastore, 1) := by decide +kernel
theorem d_M_findRings_124 : decode c_M_findRings 124 = .ok (.iload_n 1, 1) := by decide +kernel
theorem d_M_findRings_125 : decode c_M_findRings 125 = .ok (.ifCond .ne 7, 3) := by decide +kernel
theorem d_M_findRings_128 : decode c_M_findRings 128 = .ok (.iload_n 3, 1) := by decide +kernel
theorem d_M_findRings_129 : decode c_M_findRings 129 = .ok (.ifCond .eq 7, 3) := by decide +kernel
theorem d_M_findRings_132 : decode c_M_findRings 132 = .ok (.iconst 1, 1) := by decide +kernel
theorem d_M_findRings_133 : decode c_M_findRings 133 = .ok (.goto 4, 3) := by decide +kernel
theorem d_M_findRings_136 : decode c_M_findRings 136 = .ok (.iconst 0, 1) := by decide +kernel
theorem d_M_findRings_137 : decode c_M_findRings 137 = .ok (.istore_n 1, 1) := by decide +kernel
theorem d_M_findRings_138 : decode c_M_findRings 138 = .ok (.iinc 2 1, 3) := by decide +kernel
theorem d_M_findRings_141 : decode c_M_findRings 141 = .ok (.goto (-108), 3) := by decide +kernel
theorem d_M_findRings_144 : decode c_M_findRings 144 = .ok (.goto (-119), 3) := by decide +kernel
theorem d_M_findRings_147 : decode c_M_findRings 147 = .ok (.return_, 1) := by decide +kernel
theorem d_M_isReady_0 : decode c_M_isReady 0 = .ok (.aload_n 0, 1) := by decide +kernel
theorem d_M_isReady_1 : decode c_M_isReady 1 = .ok (.getfield 26, 3) := by decide +kernel
theorem d_M_isReady_4 : decode c_M_isReady 4 = .ok (.iload_n 1, 1) := by decide +kernel
theorem d_M_isReady_5 : decode c_M_isReady 5 = .ok (.baload, 1) := by decide +kernel
theorem d_M_isReady_6 : decode c_M_isReady 6 = .ok (.ifCond .eq 25, 3) := by decide +kernel
theorem d_M_isReady_9 : decode c_M_isReady 9 = .ok (.aload_n 0, 1) := by decide +kernel
theorem d_M_isReady_10 : decode c_M_isReady 10 = .ok (.getfield 23, 3) := by decide +kernel
theorem d_M_isReady_13 : decode c_M_isReady 13 = .ok (.iload_n 1, 1) := by decide +kernel
theorem d_M_isReady_14 : decode c_M_isReady 14 = .ok (.baload, 1) := by decide +kernel
theorem d_M_isReady_15 : decode c_M_isReady 15 = .ok (.ifCond .ne 16, 3) := by decide +kernel
theorem d_M_isReady_18 : decode c_M_isReady 18 = .ok (.aload_n 0, 1) := by decide +kernel
theorem d_M_isReady_19 : decode c_M_isReady 19 = .ok (.getfield 29, 3) := by decide +kernel
theorem d_M_isReady_22 : decode c_M_isReady 22 = .ok (.iload_n 1, 1) := by decide +kernel
theorem d_M_isReady_23 : decode c_M_isReady 23 = .ok (.baload, 1) := by decide +kernel
theorem d_M_isReady_24 : decode c_M_isReady 24 = .ok (.ifCond .ne 7, 3) := by decide +kernel
theorem d_M_isReady_27 : decode c_M_isReady 27 = .ok (.iconst 1, 1) := by decide +kernel
theorem d_M_isReady_28 : decode c_M_isReady 28 = .ok (.goto 4, 3) := by decide +kernel
theorem d_M_isReady_31 : decode c_M_isReady 31 = .ok (.iconst 0, 1) := by decide +kernel
theorem d_M_isReady_32 : decode c_M_isReady 32 = .ok (.istore_n 2, 1) := by decide +kernel
theorem d_M_isReady_33 : decode c_M_isReady 33 = .ok (.iconst 0, 1) := by decide +kernel
theorem d_M_isReady_34 : decode c_M_isReady 34 = .ok (.istore_n 3, 1) := by decide +kernel
theorem d_M_isReady_35 : decode c_M_isReady 35 = .ok (.iload_n 3, 1) := by decide +kernel
theorem d_M_isReady_36 : decode c_M_isReady 36 = .ok (.aload_n 0, 1) := by decide +kernel
theorem d_M_isReady_37 : decode c_M_isReady 37 = .ok (.getfield 46, 3) := by decide +kernel
theorem d_M_isReady_40 : decode c_M_isReady 40 = .ok (.if_icmp .ge 57, 3) := by decide +kernel
theorem d_M_isReady_43 : decode c_M_isReady 43 = .ok (.iload_n 2, 1) := by decide +kernel
theorem d_M_isReady_44 : decode c_M_isReady 44 = .ok (.ifCond .eq 53, 3) := by decide +kernel
theorem d_M_isReady_47 : decode c_M_isReady 47 = .ok (.aload_n 0, 1) := by decide +kernel
theorem d_M_isReady_48 : decode c_M_isReady 48 = .ok (.getfield 7, 3) := by decide +kernel
theorem d_M_isReady_51 : decode c_M_isReady 51 = .ok (.iload_n 3, 1) := by decide +kernel
theorem d_M_isReady_52 : decode c_M_isReady 52 = .ok (.iaload, 1) := by decide +kernel
theorem d_M_isReady_53 : decode c_M_isReady 53 = .ok (.iload_n 1, 1) := by decide +kernel
theorem d_M_isReady_54 : decode c_M_isReady 54 = .ok (.if_icmp .ne 31, 3) := by decide +kernel
theorem d_M_isReady_57 : decode c_M_isReady 57 = .ok (.aload_n 0, 1) := by decide +kernel
theorem d_M_isReady_58 : decode c_M_isReady 58 = .ok (.getfield 26, 3) := by decide +kernel
theorem d_M_isReady_61 : decode c_M_isReady 61 = .ok (.aload_n 0, 1) := by decide +kernel
theorem d_M_isReady_62 : decode c_M_isReady 62 = .ok (.getfield 13, 3) := by decide +kernel
theorem d_M_isReady_65 : decode c_M_isReady 65 = .ok (.iload_n 3, 1) := by decide +kernel
theorem d_M_isReady_66 : decode c_M_isReady 66 = .ok (.iaload, 1) := by decide +kernel
theorem d_M_isReady_67 : decode c_M_isReady 67 = .ok (.baload, 1) := by decide +kernel
theorem d_M_isReady_68 : decode c_M_isReady 68 = .ok (.ifCond .eq 17, 3) := by decide +kernel
theorem d_M_isReady_71 : decode c_M_isReady 71 = .ok (.aload_n 0, 1) := by decide +kernel
theorem d_M_isReady_72 : decode c_M_isReady 72 = .ok (.getfield 29, 3) := by decide +kernel
theorem d_M_isReady_75 : decode c_M_isReady 75 = .ok (.aload_n 0, 1) := by decide +kernel
theorem d_M_isReady_76 : decode c_M_isReady 76 = .ok (.getfield 13, 3) := by decide +kernel
theorem d_M_isReady_79 : decode c_M_isReady 79 = .ok (.iload_n 3, 1) := by decide +kernel
theorem d_M_isReady_80 : decode c_M_isReady 80 = .ok (.iaload, 1) := by decide +kernel
theorem d_M_isReady_81 : decode c_M_isReady 81 = .ok (.baload, 1) := by decide +kernel
theorem d_M_isReady_82 : decode c_M_isReady 82 = .ok (.ifCond .eq 7, 3) := by decide +kernel
theorem d_M_isReady_85 : decode c_M_isReady 85 = .ok (.iconst 1, 1) := by decide +kernel
theorem d_M_isReady_86 : decode c_M_isReady 86 = .ok (.goto 4, 3) := by decide +kernel
theorem d_M_isReady_89 : decode c_M_isReady 89 = .ok (.iconst 0, 1) := by decide +kernel
theorem d_M_isReady_90 : decode c_M_isReady 90 = .ok (.istore_n 2, 1) := by decide +kernel
theorem d_M_isReady_91 : decode c_M_isReady 91 = .ok (.iinc 3 1, 3) := by decide +kernel
theorem d_M_isReady_94 : decode c_M_isReady 94 = .ok (.goto (-59), 3) := by decide +kernel
theorem d_M_isReady_97 : decode c_M_isReady 97 = .ok (.iload_n 2, 1) := by decide +kernel
theorem d_M_isReady_98 : decode c_M_isReady 98 = .ok (.ireturn, 1) := by decide +kernel
theorem d_M_work_0 : decode c_M_work 0 = .ok (.aload_n 0, 1) := by decide +kernel
theorem d_M_work_1 : decode c_M_work 1 = .ok (.iconst 0, 1) := by decide +kernel
theorem d_M_work_2 : decode c_M_work 2 = .ok (.putfield 35, 3) := by decide +kernel
theorem d_M_work_5 : decode c_M_work 5 = .ok (.aload_n 0, 1) := by decide +kernel
theorem d_M_work_6 : decode c_M_work 6 = .ok (.invokevirtual 64, 3) := by decide +kernel
theorem d_M_work_9 : decode c_M_work 9 = .ok (.aload_n 0, 1) := by decide +kernel
theorem d_M_work_10 : decode c_M_work 10 = .ok (.invokevirtual 67, 3) := by decide +kernel
theorem d_M_work_13 : decode c_M_work 13 = .ok (.aload_n 0, 1) := by decide +kernel
theorem d_M_work_14 : decode c_M_work 14 = .ok (.iconst 0, 1) := by decide +kernel
theorem d_M_work_15 : decode c_M_work 15 = .ok (.putfield 70, 3) := by decide +kernel
theorem d_M_work_18 : decode c_M_work 18 = .ok (.aload_n 0, 1) := by decide +kernel
theorem d_M_work_19 : decode c_M_work 19 = .ok (.iconst 0, 1) := by decide +kernel
theorem d_M_work_20 : decode c_M_work 20 = .ok (.putfield 73, 3) := by decide +kernel
theorem d_M_work_23 : decode c_M_work 23 = .ok (.iconst 0, 1) := by decide +kernel
theorem d_M_work_24 : decode c_M_work 24 = .ok (.istore_n 1, 1) := by decide +kernel
theorem d_M_work_25 : decode c_M_work 25 = .ok (.iload_n 1, 1) := by decide +kernel
theorem d_M_work_26 : decode c_M_work 26 = .ok (.aload_n 0, 1) := by decide +kernel
theorem d_M_work_27 : decode c_M_work 27 = .ok (.getfield 39, 3) := by decide +kernel
theorem d_M_work_30 : decode c_M_work 30 = .ok (.if_icmp .ge 55, 3) := by decide +kernel
theorem d_M_work_33 : decode c_M_work 33 = .ok (.aload_n 0, 1) := by decide +kernel
theorem d_M_work_34 : decode c_M_work 34 = .ok (.getfield 29, 3) := by decide +kernel
theorem d_M_work_37 : decode c_M_work 37 = .ok (.iload_n 1, 1) := by decide +kernel
theorem d_M_work_38 : decode c_M_work 38 = .ok (.iconst 0, 1) := by decide +kernel
theorem d_M_work_39 : decode c_M_work 39 = .ok (.bastore, 1) := by decide +kernel
theorem d_M_work_40 : decode c_M_work 40 = .ok (.aload_n 0, 1) := by decide +kernel
theorem d_M_work_41 : decode c_M_work 41 = .ok (.getfield 19, 3) := by decide +kernel
theorem d_M_work_44 : decode c_M_work 44 = .ok (.iload_n 1, 1) := by decide +kernel
theorem d_M_work_45 : decode c_M_work 45 = .ok (.iconst 0, 1) := by decide +kernel
theorem d_M_work_46 : decode c_M_work 46 = .ok (.bastore, 1) := by decide +kernel
theorem d_M_work_47 : decode c_M_work 47 = .ok (.aload_n 0, 1) := by decide +kernel
theorem d_M_work_48 : decode c_M_work 48 = .ok (.dup, 1) := by decide +kernel
theorem d_M_work_49 : decode c_M_work 49 = .ok (.getfield 73, 3) := by decide +kernel
theorem d_M_work_52 : decode c_M_work 52 = .ok (.aload_n 0, 1) := by decide +kernel
theorem d_M_work_53 : decode c_M_work 53 = .ok (.getfield 26, 3) := by decide +kernel
theorem d_M_work_56 : decode c_M_work 56 = .ok (.iload_n 1, 1) := by decide +kernel
theorem d_M_work_57 : decode c_M_work 57 = .ok (.baload, 1) := by decide +kernel
theorem d_M_work_58 : decode c_M_work 58 = .ok (.ifCond .eq 16, 3) := by decide +kernel
theorem d_M_work_61 : decode c_M_work 61 = .ok (.aload_n 0, 1) := by decide +kernel
theorem d_M_work_62 : decode c_M_work 62 = .ok (.getfield 23, 3) := by decide +kernel
theorem d_M_work_65 : decode c_M_work 65 = .ok (.iload_n 1, 1) := by decide +kernel
theorem d_M_work_66 : decode c_M_work 66 = .ok (.baload, 1) := by decide +kernel
theorem d_M_work_67 : decode c_M_work 67 = .ok (.ifCond .eq 7, 3) := by decide +kernel
theorem d_M_work_70 : decode c_M_work 70 = .ok (.iconst 1, 1) := by decide +kernel
theorem d_M_work_71 : decode c_M_work 71 = .ok (.goto 4, 3) := by decide +kernel
theorem d_M_work_74 : decode c_M_work 74 = .ok (.iconst 0, 1) := by decide +kernel
theorem d_M_work_75 : decode c_M_work 75 = .ok (.iadd, 1) := by decide +kernel
theorem d_M_work_76 : decode c_M_work 76 = .ok (.putfield 73, 3) := by decide +kernel
theorem d_M_work_79 : decode c_M_work 79 = .ok (.iinc 1 1, 3) := by decide +kernel
theorem d_M_work_82 : decode c_M_work 82 = .ok (.goto (-57), 3) := by decide +kernel
theorem d_M_work_85 : decode c_M_work 85 = .ok (.iconst 0, 1) := by decide +kernel
theorem d_M_work_86 : decode c_M_work 86 = .ok (.istore_n 1, 1) := by decide +kernel
theorem d_M_work_87 : decode c_M_work 87 = .ok (.iload_n 1, 1) := by decide +kernel
theorem d_M_work_88 : decode c_M_work 88 = .ok (.ifCond .lt 92, 3) := by decide +kernel
theorem d_M_work_91 : decode c_M_work 91 = .ok (.iconst (-1), 1) := by decide +kernel
theorem d_M_work_92 : decode c_M_work 92 = .ok (.istore_n 1, 1) := by decide +kernel
theorem d_M_work_93 : decode c_M_work 93 = .ok (.iconst 0, 1) := by decide +kernel
theorem d_M_work_94 : decode c_M_work 94 = .ok (.istore_n 2, 1) := by decide +kernel
theorem d_M_work_95 : decode c_M_work 95 = .ok (.iload_n 2, 1) := by decide +kernel
theorem d_M_work_96 : decode c_M_work 96 = .ok (.aload_n 0, 1) := by decide +kernel
theorem d_M_work_97 : decode c_M_work 97 = .ok (.getfield 39, 3) := by decide +kernel
theorem d_M_work_100 : decode c_M_work 100 = .ok (.if_icmp .ge 38, 3) := by decide +kernel
theorem d_M_work_103 : decode c_M_work 103 = .ok (.iload_n 1, 1) := by decide +kernel
theorem d_M_work_104 : decode c_M_work 104 = .ok (.ifCond .lt 18, 3) := by decide +kernel
theorem d_M_work_107 : decode c_M_work 107 = .ok (.aload_n 0, 1) := by decide +kernel
theorem d_M_work_108 : decode c_M_work 108 = .ok (.getfield 16, 3) := by decide +kernel
theorem d_M_work_111 : decode c_M_work 111 = .ok (.iload_n 2, 1) := by decide +kernel
theorem d_M_work_112 : decode c_M_work 112 = .ok (.iaload, 1) := by decide +kernel
theorem d_M_work_113 : decode c_M_work 113 = .ok (.aload_n 0, 1) := by decide +kernel
theorem d_M_work_114 : decode c_M_work 114 = .ok (.getfield 16, 3) := by decide +kernel
theorem d_M_work_117 : decode c_M_work 117 = .ok (.iload_n 1, 1) := by decide +kernel
theorem d_M_work_118 : decode c_M_work 118 = .ok (.iaload, 1) := by decide +kernel
theorem d_M_work_119 : decode c_M_work 119 = .ok (.if_icmp .ge 13, 3) := by decide +kernel
theorem d_M_work_122 : decode c_M_work 122 = .ok (.aload_n 0, 1) := by decide +kernel
theorem d_M_work_123 : decode c_M_work 123 = .ok (.iload_n 2, 1) := by decide +kernel
theorem d_M_work_124 : decode c_M_work 124 = .ok (.invokevirtual 76, 3) := by decide +kernel
theorem d_M_work_127 : decode c_M_work 127 = .ok (.ifCond .eq 5, 3) := by decide +kernel
theorem d_M_work_130 : decode c_M_work 130 = .ok (.iload_n 2, 1) := by decide +kernel
theorem d_M_work_131 : decode c_M_work 131 = .ok (.istore_n 1, 1) := by decide +kernel
theorem d_M_work_132 : decode c_M_work 132 = .ok (.iinc 2 1, 3) := by decide +kernel
theorem d_M_work_135 : decode c_M_work 135 = .ok (.goto (-40), 3) := by decide +kernel
theorem d_M_work_138 : decode c_M_work 138 = .ok (.iload_n 1, 1) := by decide +kernel
theorem d_M_work_139 : decode c_M_work 139 = .ok (.ifCond .ge 6, 3) := by decide +kernel
theorem d_M_work_142 : decode c_M_work 142 = .ok (.goto (-55), 3) := by decide +kernel
theorem d_M_work_145 : decode c_M_work 145 = .ok (.aload_n 0, 1) := by decide +kernel
theorem d_M_work_146 : decode c_M_work 146 = .ok (.getfield 29, 3) := by decide +kernel
theorem d_M_work_149 : decode c_M_work 149 = .ok (.iload_n 1, 1) := by decide +kernel
theorem d_M_work_150 : decode c_M_work 150 = .ok (.iconst 1, 1) := by decide +kernel
theorem d_M_work_151 : decode c_M_work 151 = .ok (.bastore, 1) := by decide +kernel
theorem d_M_work_152 : decode c_M_work 152 = .ok (.aload_n 0, 1) := by decide +kernel
theorem d_M_work_153 : decode c_M_work 153 = .ok (.getfield 32, 3) := by decide +kernel
theorem d_M_work_156 : decode c_M_work 156 = .ok (.aload_n 0, 1) := by decide +kernel
theorem d_M_work_157 : decode c_M_work 157 = .ok (.getfield 70, 3) := by decide +kernel
theorem d_M_work_160 : decode c_M_work 160 = .ok (.aload_n 0, 1) := by decide +kernel
theorem d_M_work_161 : decode c_M_work 161 = .ok (.getfield 16, 3) := by decide +kernel
theorem d_M_work_164 : decode c_M_work 164 = .ok (.iload_n 1, 1) := by decide +kernel
theorem d_M_work_165 : decode c_M_work 165 = .ok (.iaload, 1) := by decide +kernel
theorem d_M_work_166 : decode c_M_work 166 = .ok (.iastore, 1) := by decide +kernel
theorem d_M_work_167 : decode c_M_work 167 = .ok (.aload_n 0, 1) := by decide +kernel
theorem d_M_work_168 : decode c_M_work 168 = .ok (.dup, 1) := by decide +kernel
theorem d_M_work_169 : decode c_M_work 169 = .ok (.getfield 70, 3) := by decide +kernel
theorem d_M_work_172 : decode c_M_work 172 = .ok (.iconst 1, 1) := by decide +kernel
theorem d_M_work_173 : decode c_M_work 173 = .ok (.iadd, 1) := by decide +kernel
theorem d_M_work_174 : decode c_M_work 174 = .ok (.putfield 70, 3) := by decide +kernel
theorem d_M_work_177 : decode c_M_work 177 = .ok (.goto (-90), 3) := by decide +kernel
theorem d_M_work_180 : decode c_M_work 180 = .ok (.aload_n 0, 1) := by decide +kernel
theorem d_M_work_181 : decode c_M_work 181 = .ok (.getfield 70, 3) := by decide +kernel
theorem d_M_work_184 : decode c_M_work 184 = .ok (.ireturn, 1) := by decide +kernel
theorem d_M_worked_0 : decode c_M_worked 0 = .ok (.aload_n 0, 1) := by decide +kernel
theorem d_M_worked_1 : decode c_M_worked 1 = .ok (.iconst 0, 1) := by decide +kernel
theorem d_M_worked_2 : decode c_M_worked 2 = .ok (.putfield 35, 3) := by decide +kernel
theorem d_M_worked_5 : decode c_M_worked 5 = .ok (.iload_n 1, 1) := by decide +kernel
theorem d_M_worked_6 : decode c_M_worked 6 = .ok (.ifCond .lt 20, 3) := by decide +kernel
theorem d_M_worked_9 : decode c_M_worked 9 = .ok (.iload_n 1, 1) := by decide +kernel
theorem d_M_worked_10 : decode c_M_worked 10 = .ok (.aload_n 0, 1) := by decide +kernel
theorem d_M_worked_11 : decode c_M_worked 11 = .ok (.getfield 70, 3) := by decide +kernel
theorem d_M_worked_14 : decode c_M_worked 14 = .ok (.if_icmp .ge 12, 3) := by decide +kernel
theorem d_M_worked_17 : decode c_M_worked 17 = .ok (.aload_n 0, 1) := by decide +kernel
theorem d_M_worked_18 : decode c_M_worked 18 = .ok (.getfield 32, 3) := by decide +kernel
theorem d_M_worked_21 : decode c_M_worked 21 = .ok (.iload_n 1, 1) := by decide +kernel
theorem d_M_worked_22 : decode c_M_worked 22 = .ok (.iaload, 1) := by decide +kernel
theorem d_M_worked_23 : decode c_M_worked 23 = .ok (.goto 4, 3) := by decide +kernel
theorem d_M_worked_26 : decode c_M_worked 26 = .ok (.iconst (-1), 1) := by decide +kernel
theorem d_M_worked_27 : decode c_M_worked 27 = .ok (.ireturn, 1) := by decide +kernel
theorem d_M_found_0 : decode c_M_found 0 = .ok (.aload_n 0, 1) := by decide +kernel
theorem d_M_found_1 : decode c_M_found 1 = .ok (.iconst 0, 1) := by decide +kernel
theorem d_M_found_2 : decode c_M_found 2 = .ok (.putfield 35, 3) := by decide +kernel
theorem d_M_found_5 : decode c_M_found 5 = .ok (.aload_n 0, 1) := by decide +kernel
theorem d_M_found_6 : decode c_M_found 6 = .ok (.getfield 73, 3) := by decide +kernel
theorem d_M_found_9 : decode c_M_found 9 = .ok (.ireturn, 1) := by decide +kernel
theorem d_M_ringed_0 : decode c_M_ringed 0 = .ok (.aload_n 0, 1) := by decide +kernel
theorem d_M_ringed_1 : decode c_M_ringed 1 = .ok (.iconst 0, 1) := by decide +kernel
theorem d_M_ringed_2 : decode c_M_ringed 2 = .ok (.putfield 35, 3) := by decide +kernel
theorem d_M_ringed_5 : decode c_M_ringed 5 = .ok (.iload_n 1, 1) := by decide +kernel
theorem d_M_ringed_6 : decode c_M_ringed 6 = .ok (.invokestatic 49, 3) := by decide +kernel
theorem d_M_ringed_9 : decode c_M_ringed 9 = .ok (.ifCond .eq 11, 3) := by decide +kernel
theorem d_M_ringed_12 : decode c_M_ringed 12 = .ok (.aload_n 0, 1) := by decide +kernel
theorem d_M_ringed_13 : decode c_M_ringed 13 = .ok (.iload_n 1, 1) := by decide +kernel
theorem d_M_ringed_14 : decode c_M_ringed 14 = .ok (.invokevirtual 42, 3) := by decide +kernel
theorem d_M_ringed_17 : decode c_M_ringed 17 = .ok (.goto 4, 3) := by decide +kernel
theorem d_M_ringed_20 : decode c_M_ringed 20 = .ok (.iconst (-1), 1) := by decide +kernel
theorem d_M_ringed_21 : decode c_M_ringed 21 = .ok (.istore_n 2, 1) := by decide +kernel
theorem d_M_ringed_22 : decode c_M_ringed 22 = .ok (.iload_n 2, 1) := by decide +kernel
theorem d_M_ringed_23 : decode c_M_ringed 23 = .ok (.ifCond .lt 16, 3) := by decide +kernel
theorem d_M_ringed_26 : decode c_M_ringed 26 = .ok (.aload_n 0, 1) := by decide +kernel
theorem d_M_ringed_27 : decode c_M_ringed 27 = .ok (.getfield 23, 3) := by decide +kernel
theorem d_M_ringed_30 : decode c_M_ringed 30 = .ok (.iload_n 2, 1) := by decide +kernel
theorem d_M_ringed_31 : decode c_M_ringed 31 = .ok (.baload, 1) := by decide +kernel
theorem d_M_ringed_32 : decode c_M_ringed 32 = .ok (.ifCond .eq 7, 3) := by decide +kernel
theorem d_M_ringed_35 : decode c_M_ringed 35 = .ok (.iconst 1, 1) := by decide +kernel
theorem d_M_ringed_36 : decode c_M_ringed 36 = .ok (.goto 4, 3) := by decide +kernel
theorem d_M_ringed_39 : decode c_M_ringed 39 = .ok (.iconst 0, 1) := by decide +kernel
theorem d_M_ringed_40 : decode c_M_ringed 40 = .ok (.ireturn, 1) := by decide +kernel
