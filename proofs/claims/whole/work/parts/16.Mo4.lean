theorem d_Mo_tick_0 : decode b_Mo_tick 0 = .ok (.aload_n 0, 1) := by decide +kernel
theorem d_Mo_tick_1 : decode b_Mo_tick 1 = .ok (.iload_n 1, 1) := by decide +kernel
theorem d_Mo_tick_2 : decode b_Mo_tick 2 = .ok (.iconst 1, 1) := by decide +kernel
theorem d_Mo_tick_3 : decode b_Mo_tick 3 = .ok (.sipush 1000, 3) := by decide +kernel
theorem d_Mo_tick_6 : decode b_Mo_tick 6 = .ok (.invokevirtual 80, 3) := by decide +kernel
theorem d_Mo_tick_9 : decode b_Mo_tick 9 = .ok (.ifCond .eq 5, 3) := by decide +kernel
theorem d_Mo_tick_12 : decode b_Mo_tick 12 = .ok (.iconst (-1), 1) := by decide +kernel
theorem d_Mo_tick_13 : decode b_Mo_tick 13 = .ok (.ireturn, 1) := by decide +kernel
theorem d_Mo_tick_14 : decode b_Mo_tick 14 = .ok (.iconst 0, 1) := by decide +kernel
theorem d_Mo_tick_15 : decode b_Mo_tick 15 = .ok (.istore_n 2, 1) := by decide +kernel
theorem d_Mo_tick_16 : decode b_Mo_tick 16 = .ok (.iload_n 2, 1) := by decide +kernel
theorem d_Mo_tick_17 : decode b_Mo_tick 17 = .ok (.iload_n 1, 1) := by decide +kernel
theorem d_Mo_tick_18 : decode b_Mo_tick 18 = .ok (.if_icmp .ge 78, 3) := by decide +kernel
theorem d_Mo_tick_21 : decode b_Mo_tick 21 = .ok (.aload_n 0, 1) := by decide +kernel
theorem d_Mo_tick_22 : decode b_Mo_tick 22 = .ok (.dup, 1) := by decide +kernel
theorem d_Mo_tick_23 : decode b_Mo_tick 23 = .ok (.getfield 7, 3) := by decide +kernel
theorem d_Mo_tick_26 : decode b_Mo_tick 26 = .ok (.iconst 1, 1) := by decide +kernel
theorem d_Mo_tick_27 : decode b_Mo_tick 27 = .ok (.iadd, 1) := by decide +kernel
theorem d_Mo_tick_28 : decode b_Mo_tick 28 = .ok (.putfield 7, 3) := by decide +kernel
theorem d_Mo_tick_31 : decode b_Mo_tick 31 = .ok (.iconst 0, 1) := by decide +kernel
theorem d_Mo_tick_32 : decode b_Mo_tick 32 = .ok (.istore_n 3, 1) := by decide +kernel
theorem d_Mo_tick_33 : decode b_Mo_tick 33 = .ok (.iload_n 3, 1) := by decide +kernel
theorem d_Mo_tick_34 : decode b_Mo_tick 34 = .ok (.iconst 4, 1) := by decide +kernel
theorem d_Mo_tick_35 : decode b_Mo_tick 35 = .ok (.if_icmp .ge 55, 3) := by decide +kernel
theorem d_Mo_tick_38 : decode b_Mo_tick 38 = .ok (.aload_n 0, 1) := by decide +kernel
theorem d_Mo_tick_39 : decode b_Mo_tick 39 = .ok (.getfield 7, 3) := by decide +kernel
theorem d_Mo_tick_42 : decode b_Mo_tick 42 = .ok (.aload_n 0, 1) := by decide +kernel
theorem d_Mo_tick_43 : decode b_Mo_tick 43 = .ok (.getfield 29, 3) := by decide +kernel
theorem d_Mo_tick_46 : decode b_Mo_tick 46 = .ok (.iload_n 3, 1) := by decide +kernel
theorem d_Mo_tick_47 : decode b_Mo_tick 47 = .ok (.iaload, 1) := by decide +kernel
theorem d_Mo_tick_48 : decode b_Mo_tick 48 = .ok (.isub, 1) := by decide +kernel
theorem d_Mo_tick_49 : decode b_Mo_tick 49 = .ok (.aload_n 0, 1) := by decide +kernel
theorem d_Mo_tick_50 : decode b_Mo_tick 50 = .ok (.getfield 26, 3) := by decide +kernel
theorem d_Mo_tick_53 : decode b_Mo_tick 53 = .ok (.iload_n 3, 1) := by decide +kernel
theorem d_Mo_tick_54 : decode b_Mo_tick 54 = .ok (.iaload, 1) := by decide +kernel
theorem d_Mo_tick_55 : decode b_Mo_tick 55 = .ok (.irem, 1) := by decide +kernel
theorem d_Mo_tick_56 : decode b_Mo_tick 56 = .ok (.ifCond .ne 28, 3) := by decide +kernel
theorem d_Mo_tick_59 : decode b_Mo_tick 59 = .ok (.aload_n 0, 1) := by decide +kernel
theorem d_Mo_tick_60 : decode b_Mo_tick 60 = .ok (.getfield 23, 3) := by decide +kernel
theorem d_Mo_tick_63 : decode b_Mo_tick 63 = .ok (.iload_n 3, 1) := by decide +kernel
theorem d_Mo_tick_64 : decode b_Mo_tick 64 = .ok (.iaload, 1) := by decide +kernel
theorem d_Mo_tick_65 : decode b_Mo_tick 65 = .ok (.aload_n 0, 1) := by decide +kernel
theorem d_Mo_tick_66 : decode b_Mo_tick 66 = .ok (.getfield 20, 3) := by decide +kernel
theorem d_Mo_tick_69 : decode b_Mo_tick 69 = .ok (.iload_n 3, 1) := by decide +kernel
theorem d_Mo_tick_70 : decode b_Mo_tick 70 = .ok (.iaload, 1) := by decide +kernel
theorem d_Mo_tick_71 : decode b_Mo_tick 71 = .ok (.if_icmp .ge 13, 3) := by decide +kernel
theorem d_Mo_tick_74 : decode b_Mo_tick 74 = .ok (.aload_n 0, 1) := by decide +kernel
theorem d_Mo_tick_75 : decode b_Mo_tick 75 = .ok (.getfield 23, 3) := by decide +kernel
theorem d_Mo_tick_78 : decode b_Mo_tick 78 = .ok (.iload_n 3, 1) := by decide +kernel
theorem d_Mo_tick_79 : decode b_Mo_tick 79 = .ok (.dup2, 1) := by decide +kernel
theorem d_Mo_tick_80 : decode b_Mo_tick 80 = .ok (.iaload, 1) := by decide +kernel
theorem d_Mo_tick_81 : decode b_Mo_tick 81 = .ok (.iconst 1, 1) := by decide +kernel
theorem d_Mo_tick_82 : decode b_Mo_tick 82 = .ok (.iadd, 1) := by decide +kernel
theorem d_Mo_tick_83 : decode b_Mo_tick 83 = .ok (.iastore, 1) := by decide +kernel
theorem d_Mo_tick_84 : decode b_Mo_tick 84 = .ok (.iinc 3 1, 3) := by decide +kernel
theorem d_Mo_tick_87 : decode b_Mo_tick 87 = .ok (.goto (-54), 3) := by decide +kernel
theorem d_Mo_tick_90 : decode b_Mo_tick 90 = .ok (.iinc 2 1, 3) := by decide +kernel
theorem d_Mo_tick_93 : decode b_Mo_tick 93 = .ok (.goto (-77), 3) := by decide +kernel
theorem d_Mo_tick_96 : decode b_Mo_tick 96 = .ok (.aload_n 0, 1) := by decide +kernel
theorem d_Mo_tick_97 : decode b_Mo_tick 97 = .ok (.iconst 0, 1) := by decide +kernel
theorem d_Mo_tick_98 : decode b_Mo_tick 98 = .ok (.invokevirtual 121, 3) := by decide +kernel
theorem d_Mo_tick_101 : decode b_Mo_tick 101 = .ok (.istore_n 2, 1) := by decide +kernel
theorem d_Mo_tick_102 : decode b_Mo_tick 102 = .ok (.iload_n 2, 1) := by decide +kernel
theorem d_Mo_tick_103 : decode b_Mo_tick 103 = .ok (.ifCond .le 7, 3) := by decide +kernel
theorem d_Mo_tick_106 : decode b_Mo_tick 106 = .ok (.aload_n 0, 1) := by decide +kernel
theorem d_Mo_tick_107 : decode b_Mo_tick 107 = .ok (.invokevirtual 94, 3) := by decide +kernel
theorem d_Mo_tick_110 : decode b_Mo_tick 110 = .ok (.iload_n 2, 1) := by decide +kernel
theorem d_Mo_tick_111 : decode b_Mo_tick 111 = .ok (.ireturn, 1) := by decide +kernel
theorem d_Mo_revive_0 : decode b_Mo_revive 0 = .ok (.aload_n 0, 1) := by decide +kernel
theorem d_Mo_revive_1 : decode b_Mo_revive 1 = .ok (.iload_n 1, 1) := by decide +kernel
theorem d_Mo_revive_2 : decode b_Mo_revive 2 = .ok (.invokevirtual 97, 3) := by decide +kernel
theorem d_Mo_revive_5 : decode b_Mo_revive 5 = .ok (.ifCond .ne 14, 3) := by decide +kernel
theorem d_Mo_revive_8 : decode b_Mo_revive 8 = .ok (.aload_n 0, 1) := by decide +kernel
theorem d_Mo_revive_9 : decode b_Mo_revive 9 = .ok (.iload_n 1, 1) := by decide +kernel
theorem d_Mo_revive_10 : decode b_Mo_revive 10 = .ok (.bipush 9, 2) := by decide +kernel
theorem d_Mo_revive_12 : decode b_Mo_revive 12 = .ok (.invokevirtual 65, 3) := by decide +kernel
theorem d_Mo_revive_15 : decode b_Mo_revive 15 = .ok (.iconst 5, 1) := by decide +kernel
theorem d_Mo_revive_16 : decode b_Mo_revive 16 = .ok (.if_icmp .eq 5, 3) := by decide +kernel
theorem d_Mo_revive_19 : decode b_Mo_revive 19 = .ok (.iconst (-1), 1) := by decide +kernel
theorem d_Mo_revive_20 : decode b_Mo_revive 20 = .ok (.ireturn, 1) := by decide +kernel
theorem d_Mo_revive_21 : decode b_Mo_revive 21 = .ok (.aload_n 0, 1) := by decide +kernel
theorem d_Mo_revive_22 : decode b_Mo_revive 22 = .ok (.aload_n 0, 1) := by decide +kernel
theorem d_Mo_revive_23 : decode b_Mo_revive 23 = .ok (.iload_n 1, 1) := by decide +kernel
theorem d_Mo_revive_24 : decode b_Mo_revive 24 = .ok (.iconst 5, 1) := by decide +kernel
theorem d_Mo_revive_25 : decode b_Mo_revive 25 = .ok (.invokevirtual 65, 3) := by decide +kernel
theorem d_Mo_revive_28 : decode b_Mo_revive 28 = .ok (.invokevirtual 84, 3) := by decide +kernel
theorem d_Mo_revive_31 : decode b_Mo_revive 31 = .ok (.ifCond .eq 6, 3) := by decide +kernel
theorem d_Mo_revive_34 : decode b_Mo_revive 34 = .ok (.bipush (-3), 2) := by decide +kernel
theorem d_Mo_revive_36 : decode b_Mo_revive 36 = .ok (.ireturn, 1) := by decide +kernel
theorem d_Mo_revive_37 : decode b_Mo_revive 37 = .ok (.aload_n 0, 1) := by decide +kernel
theorem d_Mo_revive_38 : decode b_Mo_revive 38 = .ok (.iload_n 1, 1) := by decide +kernel
theorem d_Mo_revive_39 : decode b_Mo_revive 39 = .ok (.iconst 4, 1) := by decide +kernel
theorem d_Mo_revive_40 : decode b_Mo_revive 40 = .ok (.iconst 0, 1) := by decide +kernel
theorem d_Mo_revive_41 : decode b_Mo_revive 41 = .ok (.invokevirtual 69, 3) := by decide +kernel
theorem d_Mo_revive_44 : decode b_Mo_revive 44 = .ok (.aload_n 0, 1) := by decide +kernel
theorem d_Mo_revive_45 : decode b_Mo_revive 45 = .ok (.iload_n 1, 1) := by decide +kernel
theorem d_Mo_revive_46 : decode b_Mo_revive 46 = .ok (.invokevirtual 91, 3) := by decide +kernel
theorem d_Mo_revive_49 : decode b_Mo_revive 49 = .ok (.aload_n 0, 1) := by decide +kernel
theorem d_Mo_revive_50 : decode b_Mo_revive 50 = .ok (.invokevirtual 94, 3) := by decide +kernel
theorem d_Mo_revive_53 : decode b_Mo_revive 53 = .ok (.iconst 0, 1) := by decide +kernel
theorem d_Mo_revive_54 : decode b_Mo_revive 54 = .ok (.ireturn, 1) := by decide +kernel
theorem d_Mo_kill_0 : decode b_Mo_kill 0 = .ok (.aload_n 0, 1) := by decide +kernel
theorem d_Mo_kill_1 : decode b_Mo_kill 1 = .ok (.iload_n 1, 1) := by decide +kernel
theorem d_Mo_kill_2 : decode b_Mo_kill 2 = .ok (.invokevirtual 97, 3) := by decide +kernel
theorem d_Mo_kill_5 : decode b_Mo_kill 5 = .ok (.ifCond .eq 5, 3) := by decide +kernel
theorem d_Mo_kill_8 : decode b_Mo_kill 8 = .ok (.iconst (-1), 1) := by decide +kernel
theorem d_Mo_kill_9 : decode b_Mo_kill 9 = .ok (.ireturn, 1) := by decide +kernel
theorem d_Mo_kill_10 : decode b_Mo_kill 10 = .ok (.aload_n 0, 1) := by decide +kernel
theorem d_Mo_kill_11 : decode b_Mo_kill 11 = .ok (.iload_n 1, 1) := by decide +kernel
theorem d_Mo_kill_12 : decode b_Mo_kill 12 = .ok (.bipush 9, 2) := by decide +kernel
theorem d_Mo_kill_14 : decode b_Mo_kill 14 = .ok (.invokevirtual 65, 3) := by decide +kernel
theorem d_Mo_kill_17 : decode b_Mo_kill 17 = .ok (.istore_n 2, 1) := by decide +kernel
theorem d_Mo_kill_18 : decode b_Mo_kill 18 = .ok (.iload_n 2, 1) := by decide +kernel
theorem d_Mo_kill_19 : decode b_Mo_kill 19 = .ok (.ifCond .eq 21, 3) := by decide +kernel
theorem d_Mo_kill_22 : decode b_Mo_kill 22 = .ok (.iload_n 2, 1) := by decide +kernel
theorem d_Mo_kill_23 : decode b_Mo_kill 23 = .ok (.iconst 1, 1) := by decide +kernel
theorem d_Mo_kill_24 : decode b_Mo_kill 24 = .ok (.if_icmp .eq 16, 3) := by decide +kernel
theorem d_Mo_kill_27 : decode b_Mo_kill 27 = .ok (.iload_n 2, 1) := by decide +kernel
theorem d_Mo_kill_28 : decode b_Mo_kill 28 = .ok (.iconst 3, 1) := by decide +kernel
theorem d_Mo_kill_29 : decode b_Mo_kill 29 = .ok (.if_icmp .eq 11, 3) := by decide +kernel
theorem d_Mo_kill_32 : decode b_Mo_kill 32 = .ok (.iload_n 2, 1) := by decide +kernel
theorem d_Mo_kill_33 : decode b_Mo_kill 33 = .ok (.bipush 6, 2) := by decide +kernel
theorem d_Mo_kill_35 : decode b_Mo_kill 35 = .ok (.if_icmp .eq 5, 3) := by decide +kernel
theorem d_Mo_kill_38 : decode b_Mo_kill 38 = .ok (.iconst (-1), 1) := by decide +kernel
theorem d_Mo_kill_39 : decode b_Mo_kill 39 = .ok (.ireturn, 1) := by decide +kernel
theorem d_Mo_kill_40 : decode b_Mo_kill 40 = .ok (.aload_n 0, 1) := by decide +kernel
theorem d_Mo_kill_41 : decode b_Mo_kill 41 = .ok (.iload_n 1, 1) := by decide +kernel
theorem d_Mo_kill_42 : decode b_Mo_kill 42 = .ok (.invokevirtual 73, 3) := by decide +kernel
theorem d_Mo_kill_45 : decode b_Mo_kill 45 = .ok (.aload_n 0, 1) := by decide +kernel
theorem d_Mo_kill_46 : decode b_Mo_kill 46 = .ok (.invokevirtual 94, 3) := by decide +kernel
theorem d_Mo_kill_49 : decode b_Mo_kill 49 = .ok (.iconst 0, 1) := by decide +kernel
theorem d_Mo_kill_50 : decode b_Mo_kill 50 = .ok (.ireturn, 1) := by decide +kernel
theorem d_Mo_crash_0 : decode b_Mo_crash 0 = .ok (.iload_n 1, 1) := by decide +kernel
theorem d_Mo_crash_1 : decode b_Mo_crash 1 = .ok (.ifCond .ge 7, 3) := by decide +kernel
theorem d_Mo_crash_4 : decode b_Mo_crash 4 = .ok (.iconst 0, 1) := by decide +kernel
theorem d_Mo_crash_5 : decode b_Mo_crash 5 = .ok (.goto 19, 3) := by decide +kernel
theorem d_Mo_crash_8 : decode b_Mo_crash 8 = .ok (.iload_n 1, 1) := by decide +kernel
theorem d_Mo_crash_9 : decode b_Mo_crash 9 = .ok (.aload_n 0, 1) := by decide +kernel
theorem d_Mo_crash_10 : decode b_Mo_crash 10 = .ok (.getfield 41, 3) := by decide +kernel
theorem d_Mo_crash_13 : decode b_Mo_crash 13 = .ok (.if_icmp .ge 7, 3) := by decide +kernel
theorem d_Mo_crash_16 : decode b_Mo_crash 16 = .ok (.iload_n 1, 1) := by decide +kernel
theorem d_Mo_crash_17 : decode b_Mo_crash 17 = .ok (.goto 7, 3) := by decide +kernel
theorem d_Mo_crash_20 : decode b_Mo_crash 20 = .ok (.aload_n 0, 1) := by decide +kernel
theorem d_Mo_crash_21 : decode b_Mo_crash 21 = .ok (.getfield 41, 3) := by decide +kernel
theorem d_Mo_crash_24 : decode b_Mo_crash 24 = .ok (.istore_n 2, 1) := by decide +kernel
theorem d_Mo_crash_25 : decode b_Mo_crash 25 = .ok (.aload_n 0, 1) := by decide +kernel
theorem d_Mo_crash_26 : decode b_Mo_crash 26 = .ok (.getfield 41, 3) := by decide +kernel
theorem d_Mo_crash_29 : decode b_Mo_crash 29 = .ok (.iload_n 2, 1) := by decide +kernel
theorem d_Mo_crash_30 : decode b_Mo_crash 30 = .ok (.isub, 1) := by decide +kernel
theorem d_Mo_crash_31 : decode b_Mo_crash 31 = .ok (.istore_n 3, 1) := by decide +kernel
theorem d_Mo_crash_32 : decode b_Mo_crash 32 = .ok (.iload_n 3, 1) := by decide +kernel
theorem d_Mo_crash_33 : decode b_Mo_crash 33 = .ok (.ifCond .le 50, 3) := by decide +kernel
theorem d_Mo_crash_36 : decode b_Mo_crash 36 = .ok (.iconst 0, 1) := by decide +kernel
theorem d_Mo_crash_37 : decode b_Mo_crash 37 = .ok (.istore 4, 2) := by decide +kernel
theorem d_Mo_crash_39 : decode b_Mo_crash 39 = .ok (.iload 4, 2) := by decide +kernel
theorem d_Mo_crash_41 : decode b_Mo_crash 41 = .ok (.sipush 520, 3) := by decide +kernel
theorem d_Mo_crash_44 : decode b_Mo_crash 44 = .ok (.if_icmp .ge 29, 3) := by decide +kernel
theorem d_Mo_crash_47 : decode b_Mo_crash 47 = .ok (.aload_n 0, 1) := by decide +kernel
theorem d_Mo_crash_48 : decode b_Mo_crash 48 = .ok (.getfield 44, 3) := by decide +kernel
theorem d_Mo_crash_51 : decode b_Mo_crash 51 = .ok (.iload 4, 2) := by decide +kernel
theorem d_Mo_crash_53 : decode b_Mo_crash 53 = .ok (.aload_n 0, 1) := by decide +kernel
theorem d_Mo_crash_54 : decode b_Mo_crash 54 = .ok (.getfield 47, 3) := by decide +kernel
theorem d_Mo_crash_57 : decode b_Mo_crash 57 = .ok (.iload_n 2, 1) := by decide +kernel
theorem d_Mo_crash_58 : decode b_Mo_crash 58 = .ok (.sipush 520, 3) := by decide +kernel
theorem d_Mo_crash_61 : decode b_Mo_crash 61 = .ok (.imul, 1) := by decide +kernel
theorem d_Mo_crash_62 : decode b_Mo_crash 62 = .ok (.iload 4, 2) := by decide +kernel
theorem d_Mo_crash_64 : decode b_Mo_crash 64 = .ok (.iadd, 1) := by decide +kernel
theorem d_Mo_crash_65 : decode b_Mo_crash 65 = .ok (.iaload, 1) := by decide +kernel
theorem d_Mo_crash_66 : decode b_Mo_crash 66 = .ok (.iastore, 1) := by decide +kernel
theorem d_Mo_crash_67 : decode b_Mo_crash 67 = .ok (.iinc 4 1, 3) := by decide +kernel
theorem d_Mo_crash_70 : decode b_Mo_crash 70 = .ok (.goto (-31), 3) := by decide +kernel
theorem d_Mo_crash_73 : decode b_Mo_crash 73 = .ok (.aload_n 0, 1) := by decide +kernel
theorem d_Mo_crash_74 : decode b_Mo_crash 74 = .ok (.aload_n 0, 1) := by decide +kernel
theorem d_Mo_crash_75 : decode b_Mo_crash 75 = .ok (.getfield 50, 3) := by decide +kernel
theorem d_Mo_crash_78 : decode b_Mo_crash 78 = .ok (.iload_n 2, 1) := by decide +kernel
theorem d_Mo_crash_79 : decode b_Mo_crash 79 = .ok (.iaload, 1) := by decide +kernel
theorem d_Mo_crash_80 : decode b_Mo_crash 80 = .ok (.putfield 35, 3) := by decide +kernel
theorem d_Mo_crash_83 : decode b_Mo_crash 83 = .ok (.iconst 0, 1) := by decide +kernel
theorem d_Mo_crash_84 : decode b_Mo_crash 84 = .ok (.istore 4, 2) := by decide +kernel
theorem d_Mo_crash_86 : decode b_Mo_crash 86 = .ok (.iload 4, 2) := by decide +kernel
theorem d_Mo_crash_88 : decode b_Mo_crash 88 = .ok (.aload_n 0, 1) := by decide +kernel
theorem d_Mo_crash_89 : decode b_Mo_crash 89 = .ok (.getfield 35, 3) := by decide +kernel
theorem d_Mo_crash_92 : decode b_Mo_crash 92 = .ok (.if_icmp .ge 36, 3) := by decide +kernel
theorem d_Mo_crash_95 : decode b_Mo_crash 95 = .ok (.aload_n 0, 1) := by decide +kernel
theorem d_Mo_crash_96 : decode b_Mo_crash 96 = .ok (.iload 4, 2) := by decide +kernel
theorem d_Mo_crash_98 : decode b_Mo_crash 98 = .ok (.bipush 11, 2) := by decide +kernel
theorem d_Mo_crash_100 : decode b_Mo_crash 100 = .ok (.iconst (-1), 1) := by decide +kernel
theorem d_Mo_crash_101 : decode b_Mo_crash 101 = .ok (.invokevirtual 69, 3) := by decide +kernel
theorem d_Mo_crash_104 : decode b_Mo_crash 104 = .ok (.aload_n 0, 1) := by decide +kernel
theorem d_Mo_crash_105 : decode b_Mo_crash 105 = .ok (.iload 4, 2) := by decide +kernel
theorem d_Mo_crash_107 : decode b_Mo_crash 107 = .ok (.bipush 9, 2) := by decide +kernel
theorem d_Mo_crash_109 : decode b_Mo_crash 109 = .ok (.invokevirtual 65, 3) := by decide +kernel
theorem d_Mo_crash_112 : decode b_Mo_crash 112 = .ok (.iconst 2, 1) := by decide +kernel
theorem d_Mo_crash_113 : decode b_Mo_crash 113 = .ok (.if_icmp .ne 9, 3) := by decide +kernel
theorem d_Mo_crash_116 : decode b_Mo_crash 116 = .ok (.aload_n 0, 1) := by decide +kernel
theorem d_Mo_crash_117 : decode b_Mo_crash 117 = .ok (.iload 4, 2) := by decide +kernel
theorem d_Mo_crash_119 : decode b_Mo_crash 119 = .ok (.invokevirtual 91, 3) := by decide +kernel
theorem d_Mo_crash_122 : decode b_Mo_crash 122 = .ok (.iinc 4 1, 3) := by decide +kernel
theorem d_Mo_crash_125 : decode b_Mo_crash 125 = .ok (.goto (-39), 3) := by decide +kernel
theorem d_Mo_crash_128 : decode b_Mo_crash 128 = .ok (.aload_n 0, 1) := by decide +kernel
theorem d_Mo_crash_129 : decode b_Mo_crash 129 = .ok (.iconst 1, 1) := by decide +kernel
theorem d_Mo_crash_130 : decode b_Mo_crash 130 = .ok (.invokevirtual 121, 3) := by decide +kernel
theorem d_Mo_crash_133 : decode b_Mo_crash 133 = .ok (.pop, 1) := by decide +kernel
theorem d_Mo_crash_134 : decode b_Mo_crash 134 = .ok (.iconst 0, 1) := by decide +kernel
theorem d_Mo_crash_135 : decode b_Mo_crash 135 = .ok (.istore 4, 2) := by decide +kernel
theorem d_Mo_crash_137 : decode b_Mo_crash 137 = .ok (.iload 4, 2) := by decide +kernel
theorem d_Mo_crash_139 : decode b_Mo_crash 139 = .ok (.iconst 4, 1) := by decide +kernel
theorem d_Mo_crash_140 : decode b_Mo_crash 140 = .ok (.if_icmp .ge 31, 3) := by decide +kernel
theorem d_Mo_crash_143 : decode b_Mo_crash 143 = .ok (.aload_n 0, 1) := by decide +kernel
theorem d_Mo_crash_144 : decode b_Mo_crash 144 = .ok (.getfield 17, 3) := by decide +kernel
theorem d_Mo_crash_147 : decode b_Mo_crash 147 = .ok (.iload 4, 2) := by decide +kernel
theorem d_Mo_crash_149 : decode b_Mo_crash 149 = .ok (.iconst 0, 1) := by decide +kernel
theorem d_Mo_crash_150 : decode b_Mo_crash 150 = .ok (.iastore, 1) := by decide +kernel
theorem d_Mo_crash_151 : decode b_Mo_crash 151 = .ok (.aload_n 0, 1) := by decide +kernel
theorem d_Mo_crash_152 : decode b_Mo_crash 152 = .ok (.getfield 23, 3) := by decide +kernel
theorem d_Mo_crash_155 : decode b_Mo_crash 155 = .ok (.iload 4, 2) := by decide +kernel
theorem d_Mo_crash_157 : decode b_Mo_crash 157 = .ok (.aload_n 0, 1) := by decide +kernel
theorem d_Mo_crash_158 : decode b_Mo_crash 158 = .ok (.getfield 20, 3) := by decide +kernel
theorem d_Mo_crash_161 : decode b_Mo_crash 161 = .ok (.iload 4, 2) := by decide +kernel
theorem d_Mo_crash_163 : decode b_Mo_crash 163 = .ok (.iaload, 1) := by decide +kernel
theorem d_Mo_crash_164 : decode b_Mo_crash 164 = .ok (.iastore, 1) := by decide +kernel
theorem d_Mo_crash_165 : decode b_Mo_crash 165 = .ok (.iinc 4 1, 3) := by decide +kernel
theorem d_Mo_crash_168 : decode b_Mo_crash 168 = .ok (.goto (-31), 3) := by decide +kernel
theorem d_Mo_crash_171 : decode b_Mo_crash 171 = .ok (.aload_n 0, 1) := by decide +kernel
theorem d_Mo_crash_172 : decode b_Mo_crash 172 = .ok (.iconst (-1), 1) := by decide +kernel
theorem d_Mo_crash_173 : decode b_Mo_crash 173 = .ok (.putfield 32, 3) := by decide +kernel
theorem d_Mo_crash_176 : decode b_Mo_crash 176 = .ok (.aload_n 0, 1) := by decide +kernel
theorem d_Mo_crash_177 : decode b_Mo_crash 177 = .ok (.iconst 0, 1) := by decide +kernel
theorem d_Mo_crash_178 : decode b_Mo_crash 178 = .ok (.putfield 41, 3) := by decide +kernel
theorem d_Mo_crash_181 : decode b_Mo_crash 181 = .ok (.aload_n 0, 1) := by decide +kernel
theorem d_Mo_crash_182 : decode b_Mo_crash 182 = .ok (.iconst 0, 1) := by decide +kernel
theorem d_Mo_crash_183 : decode b_Mo_crash 183 = .ok (.invokevirtual 61, 3) := by decide +kernel
theorem d_Mo_crash_186 : decode b_Mo_crash 186 = .ok (.iload_n 3, 1) := by decide +kernel
theorem d_Mo_crash_187 : decode b_Mo_crash 187 = .ok (.ireturn, 1) := by decide +kernel
theorem d_Mo_state_0 : decode b_Mo_state 0 = .ok (.aload_n 0, 1) := by decide +kernel
theorem d_Mo_state_1 : decode b_Mo_state 1 = .ok (.iload_n 1, 1) := by decide +kernel
theorem d_Mo_state_2 : decode b_Mo_state 2 = .ok (.invokevirtual 97, 3) := by decide +kernel
theorem d_Mo_state_5 : decode b_Mo_state 5 = .ok (.ifCond .eq 7, 3) := by decide +kernel
theorem d_Mo_state_8 : decode b_Mo_state 8 = .ok (.iconst (-1), 1) := by decide +kernel
theorem d_Mo_state_9 : decode b_Mo_state 9 = .ok (.goto 10, 3) := by decide +kernel
theorem d_Mo_state_12 : decode b_Mo_state 12 = .ok (.aload_n 0, 1) := by decide +kernel
theorem d_Mo_state_13 : decode b_Mo_state 13 = .ok (.iload_n 1, 1) := by decide +kernel
theorem d_Mo_state_14 : decode b_Mo_state 14 = .ok (.bipush 9, 2) := by decide +kernel
theorem d_Mo_state_16 : decode b_Mo_state 16 = .ok (.invokevirtual 65, 3) := by decide +kernel
theorem d_Mo_state_19 : decode b_Mo_state 19 = .ok (.ireturn, 1) := by decide +kernel
theorem d_Mo_failures_0 : decode b_Mo_failures 0 = .ok (.aload_n 0, 1) := by decide +kernel
theorem d_Mo_failures_1 : decode b_Mo_failures 1 = .ok (.iload_n 1, 1) := by decide +kernel
theorem d_Mo_failures_2 : decode b_Mo_failures 2 = .ok (.invokevirtual 97, 3) := by decide +kernel
theorem d_Mo_failures_5 : decode b_Mo_failures 5 = .ok (.ifCond .eq 7, 3) := by decide +kernel
theorem d_Mo_failures_8 : decode b_Mo_failures 8 = .ok (.iconst (-1), 1) := by decide +kernel
theorem d_Mo_failures_9 : decode b_Mo_failures 9 = .ok (.goto 9, 3) := by decide +kernel
theorem d_Mo_failures_12 : decode b_Mo_failures 12 = .ok (.aload_n 0, 1) := by decide +kernel
theorem d_Mo_failures_13 : decode b_Mo_failures 13 = .ok (.iload_n 1, 1) := by decide +kernel
theorem d_Mo_failures_14 : decode b_Mo_failures 14 = .ok (.iconst 4, 1) := by decide +kernel
theorem d_Mo_failures_15 : decode b_Mo_failures 15 = .ok (.invokevirtual 65, 3) := by decide +kernel
theorem d_Mo_failures_18 : decode b_Mo_failures 18 = .ok (.ireturn, 1) := by decide +kernel
theorem d_Mo_due_0 : decode b_Mo_due 0 = .ok (.aload_n 0, 1) := by decide +kernel
theorem d_Mo_due_1 : decode b_Mo_due 1 = .ok (.iload_n 1, 1) := by decide +kernel
theorem d_Mo_due_2 : decode b_Mo_due 2 = .ok (.invokevirtual 97, 3) := by decide +kernel
theorem d_Mo_due_5 : decode b_Mo_due 5 = .ok (.ifCond .eq 5, 3) := by decide +kernel
theorem d_Mo_due_8 : decode b_Mo_due 8 = .ok (.iconst (-1), 1) := by decide +kernel
theorem d_Mo_due_9 : decode b_Mo_due 9 = .ok (.ireturn, 1) := by decide +kernel
theorem d_Mo_due_10 : decode b_Mo_due 10 = .ok (.aload_n 0, 1) := by decide +kernel
theorem d_Mo_due_11 : decode b_Mo_due 11 = .ok (.iload_n 1, 1) := by decide +kernel
theorem d_Mo_due_12 : decode b_Mo_due 12 = .ok (.bipush 9, 2) := by decide +kernel
theorem d_Mo_due_14 : decode b_Mo_due 14 = .ok (.invokevirtual 65, 3) := by decide +kernel
theorem d_Mo_due_17 : decode b_Mo_due 17 = .ok (.istore_n 2, 1) := by decide +kernel
theorem d_Mo_due_18 : decode b_Mo_due 18 = .ok (.iload_n 2, 1) := by decide +kernel
theorem d_Mo_due_19 : decode b_Mo_due 19 = .ok (.ifCond .eq 13, 3) := by decide +kernel
theorem d_Mo_due_22 : decode b_Mo_due 22 = .ok (.iload_n 2, 1) := by decide +kernel
theorem d_Mo_due_23 : decode b_Mo_due 23 = .ok (.iconst 2, 1) := by decide +kernel
theorem d_Mo_due_24 : decode b_Mo_due 24 = .ok (.if_icmp .eq 8, 3) := by decide +kernel
theorem d_Mo_due_27 : decode b_Mo_due 27 = .ok (.iload_n 2, 1) := by decide +kernel
theorem d_Mo_due_28 : decode b_Mo_due 28 = .ok (.iconst 3, 1) := by decide +kernel
theorem d_Mo_due_29 : decode b_Mo_due 29 = .ok (.if_icmp .ne 13, 3) := by decide +kernel
theorem d_Mo_due_32 : decode b_Mo_due 32 = .ok (.aload_n 0, 1) := by decide +kernel
theorem d_Mo_due_33 : decode b_Mo_due 33 = .ok (.iload_n 1, 1) := by decide +kernel
theorem d_Mo_due_34 : decode b_Mo_due 34 = .ok (.bipush 10, 2) := by decide +kernel
theorem d_Mo_due_36 : decode b_Mo_due 36 = .ok (.invokevirtual 65, 3) := by decide +kernel
theorem d_Mo_due_39 : decode b_Mo_due 39 = .ok (.goto 21, 3) := by decide +kernel
theorem d_Mo_due_42 : decode b_Mo_due 42 = .ok (.iload_n 2, 1) := by decide +kernel
theorem d_Mo_due_43 : decode b_Mo_due 43 = .ok (.bipush 6, 2) := by decide +kernel
theorem d_Mo_due_45 : decode b_Mo_due 45 = .ok (.if_icmp .ne 13, 3) := by decide +kernel
theorem d_Mo_due_48 : decode b_Mo_due 48 = .ok (.aload_n 0, 1) := by decide +kernel
theorem d_Mo_due_49 : decode b_Mo_due 49 = .ok (.iload_n 1, 1) := by decide +kernel
theorem d_Mo_due_50 : decode b_Mo_due 50 = .ok (.bipush 7, 2) := by decide +kernel
theorem d_Mo_due_52 : decode b_Mo_due 52 = .ok (.invokevirtual 65, 3) := by decide +kernel
theorem d_Mo_due_55 : decode b_Mo_due 55 = .ok (.goto 5, 3) := by decide +kernel
theorem d_Mo_due_58 : decode b_Mo_due 58 = .ok (.bipush (-4), 2) := by decide +kernel
theorem d_Mo_due_60 : decode b_Mo_due 60 = .ok (.ireturn, 1) := by decide +kernel
theorem d_Mo_line_0 : decode b_Mo_line 0 = .ok (.aload_n 0, 1) := by decide +kernel
theorem d_Mo_line_1 : decode b_Mo_line 1 = .ok (.iload_n 1, 1) := by decide +kernel
theorem d_Mo_line_2 : decode b_Mo_line 2 = .ok (.iconst 0, 1) := by decide +kernel
theorem d_Mo_line_3 : decode b_Mo_line 3 = .ok (.iconst 3, 1) := by decide +kernel
theorem d_Mo_line_4 : decode b_Mo_line 4 = .ok (.invokevirtual 80, 3) := by decide +kernel
theorem d_Mo_line_7 : decode b_Mo_line 7 = .ok (.ifCond .eq 5, 3) := by decide +kernel
theorem d_Mo_line_10 : decode b_Mo_line 10 = .ok (.iconst (-1), 1) := by decide +kernel
theorem d_Mo_line_11 : decode b_Mo_line 11 = .ok (.ireturn, 1) := by decide +kernel
theorem d_Mo_line_12 : decode b_Mo_line 12 = .ok (.aload_n 0, 1) := by decide +kernel
theorem d_Mo_line_13 : decode b_Mo_line 13 = .ok (.iload_n 1, 1) := by decide +kernel
theorem d_Mo_line_14 : decode b_Mo_line 14 = .ok (.iload_n 2, 1) := by decide +kernel
theorem d_Mo_line_15 : decode b_Mo_line 15 = .ok (.invokevirtual 104, 3) := by decide +kernel
theorem d_Mo_line_18 : decode b_Mo_line 18 = .ok (.istore_n 3, 1) := by decide +kernel
theorem d_Mo_line_19 : decode b_Mo_line 19 = .ok (.iload_n 3, 1) := by decide +kernel
theorem d_Mo_line_20 : decode b_Mo_line 20 = .ok (.ifCond .ge 8, 3) := by decide +kernel
theorem d_Mo_line_23 : decode b_Mo_line 23 = .ok (.bipush (-4), 2) := by decide +kernel
theorem d_Mo_line_25 : decode b_Mo_line 25 = .ok (.goto 4, 3) := by decide +kernel
theorem d_Mo_line_28 : decode b_Mo_line 28 = .ok (.iload_n 3, 1) := by decide +kernel
theorem d_Mo_line_29 : decode b_Mo_line 29 = .ok (.ireturn, 1) := by decide +kernel
theorem d_Mo_count_0 : decode b_Mo_count 0 = .ok (.iload_n 1, 1) := by decide +kernel
theorem d_Mo_count_1 : decode b_Mo_count 1 = .ok (.bipush 8, 2) := by decide +kernel
theorem d_Mo_count_3 : decode b_Mo_count 3 = .ok (.if_icmp .ne 8, 3) := by decide +kernel
theorem d_Mo_count_6 : decode b_Mo_count 6 = .ok (.aload_n 0, 1) := by decide +kernel
theorem d_Mo_count_7 : decode b_Mo_count 7 = .ok (.getfield 35, 3) := by decide +kernel
theorem d_Mo_count_10 : decode b_Mo_count 10 = .ok (.ireturn, 1) := by decide +kernel
theorem d_Mo_count_11 : decode b_Mo_count 11 = .ok (.iload_n 1, 1) := by decide +kernel
theorem d_Mo_count_12 : decode b_Mo_count 12 = .ok (.bipush 9, 2) := by decide +kernel
theorem d_Mo_count_14 : decode b_Mo_count 14 = .ok (.if_icmp .ne 8, 3) := by decide +kernel
theorem d_Mo_count_17 : decode b_Mo_count 17 = .ok (.aload_n 0, 1) := by decide +kernel
theorem d_Mo_count_18 : decode b_Mo_count 18 = .ok (.getfield 41, 3) := by decide +kernel
theorem d_Mo_count_21 : decode b_Mo_count 21 = .ok (.ireturn, 1) := by decide +kernel
theorem d_Mo_count_22 : decode b_Mo_count 22 = .ok (.iload_n 1, 1) := by decide +kernel
theorem d_Mo_count_23 : decode b_Mo_count 23 = .ok (.bipush 10, 2) := by decide +kernel
theorem d_Mo_count_25 : decode b_Mo_count 25 = .ok (.if_icmp .ne 8, 3) := by decide +kernel
theorem d_Mo_count_28 : decode b_Mo_count 28 = .ok (.aload_n 0, 1) := by decide +kernel
theorem d_Mo_count_29 : decode b_Mo_count 29 = .ok (.getfield 7, 3) := by decide +kernel
theorem d_Mo_count_32 : decode b_Mo_count 32 = .ok (.ireturn, 1) := by decide +kernel
theorem d_Mo_count_33 : decode b_Mo_count 33 = .ok (.iload_n 1, 1) := by decide +kernel
theorem d_Mo_count_34 : decode b_Mo_count 34 = .ok (.bipush 10, 2) := by decide +kernel
theorem d_Mo_count_36 : decode b_Mo_count 36 = .ok (.if_icmp .le 19, 3) := by decide +kernel
theorem d_Mo_count_39 : decode b_Mo_count 39 = .ok (.iload_n 1, 1) := by decide +kernel
theorem d_Mo_count_40 : decode b_Mo_count 40 = .ok (.bipush 15, 2) := by decide +kernel
theorem d_Mo_count_42 : decode b_Mo_count 42 = .ok (.if_icmp .ge 13, 3) := by decide +kernel
theorem d_Mo_count_45 : decode b_Mo_count 45 = .ok (.aload_n 0, 1) := by decide +kernel
theorem d_Mo_count_46 : decode b_Mo_count 46 = .ok (.getfield 23, 3) := by decide +kernel
theorem d_Mo_count_49 : decode b_Mo_count 49 = .ok (.iload_n 1, 1) := by decide +kernel
theorem d_Mo_count_50 : decode b_Mo_count 50 = .ok (.bipush 11, 2) := by decide +kernel
theorem d_Mo_count_52 : decode b_Mo_count 52 = .ok (.isub, 1) := by decide +kernel
theorem d_Mo_count_53 : decode b_Mo_count 53 = .ok (.iaload, 1) := by decide +kernel
theorem d_Mo_count_54 : decode b_Mo_count 54 = .ok (.ireturn, 1) := by decide +kernel
theorem d_Mo_count_55 : decode b_Mo_count 55 = .ok (.aload_n 0, 1) := by decide +kernel
theorem d_Mo_count_56 : decode b_Mo_count 56 = .ok (.iload_n 1, 1) := by decide +kernel
theorem d_Mo_count_57 : decode b_Mo_count 57 = .ok (.iconst 0, 1) := by decide +kernel
theorem d_Mo_count_58 : decode b_Mo_count 58 = .ok (.bipush 7, 2) := by decide +kernel
theorem d_Mo_count_60 : decode b_Mo_count 60 = .ok (.invokevirtual 80, 3) := by decide +kernel
theorem d_Mo_count_63 : decode b_Mo_count 63 = .ok (.ifCond .eq 5, 3) := by decide +kernel
theorem d_Mo_count_66 : decode b_Mo_count 66 = .ok (.iconst (-1), 1) := by decide +kernel
theorem d_Mo_count_67 : decode b_Mo_count 67 = .ok (.ireturn, 1) := by decide +kernel
theorem d_Mo_count_68 : decode b_Mo_count 68 = .ok (.iconst 0, 1) := by decide +kernel
theorem d_Mo_count_69 : decode b_Mo_count 69 = .ok (.istore_n 2, 1) := by decide +kernel
theorem d_Mo_count_70 : decode b_Mo_count 70 = .ok (.iconst 0, 1) := by decide +kernel
theorem d_Mo_count_71 : decode b_Mo_count 71 = .ok (.istore_n 3, 1) := by decide +kernel
theorem d_Mo_count_72 : decode b_Mo_count 72 = .ok (.iload_n 3, 1) := by decide +kernel
theorem d_Mo_count_73 : decode b_Mo_count 73 = .ok (.aload_n 0, 1) := by decide +kernel
theorem d_Mo_count_74 : decode b_Mo_count 74 = .ok (.getfield 35, 3) := by decide +kernel
theorem d_Mo_count_77 : decode b_Mo_count 77 = .ok (.if_icmp .ge 23, 3) := by decide +kernel
theorem d_Mo_count_80 : decode b_Mo_count 80 = .ok (.aload_n 0, 1) := by decide +kernel
theorem d_Mo_count_81 : decode b_Mo_count 81 = .ok (.iload_n 3, 1) := by decide +kernel
theorem d_Mo_count_82 : decode b_Mo_count 82 = .ok (.bipush 9, 2) := by decide +kernel
theorem d_Mo_count_84 : decode b_Mo_count 84 = .ok (.invokevirtual 65, 3) := by decide +kernel
theorem d_Mo_count_87 : decode b_Mo_count 87 = .ok (.iload_n 1, 1) := by decide +kernel
theorem d_Mo_count_88 : decode b_Mo_count 88 = .ok (.if_icmp .ne 6, 3) := by decide +kernel
theorem d_Mo_count_91 : decode b_Mo_count 91 = .ok (.iinc 2 1, 3) := by decide +kernel
theorem d_Mo_count_94 : decode b_Mo_count 94 = .ok (.iinc 3 1, 3) := by decide +kernel
theorem d_Mo_count_97 : decode b_Mo_count 97 = .ok (.goto (-25), 3) := by decide +kernel
theorem d_Mo_count_100 : decode b_Mo_count 100 = .ok (.iload_n 2, 1) := by decide +kernel
theorem d_Mo_count_101 : decode b_Mo_count 101 = .ok (.ireturn, 1) := by decide +kernel
def fn_Mo_tick_L33 (N : Nat) (u2 : Int32) (u1 : Int32) (k16 : Int32 → gx_M → Option (Int32 × gx_M)) : Nat → Int32 → gx_M → Option (Int32 × gx_M)
  | 0, _, _ => none
  | n + 1, v3, σ => if ((4 : Int32)) ≤ v3 then (k16 (u2 + 1) σ) else (if 0 ≤ v3 ∧ v3 < 4 then (if 0 ≤ v3 ∧ v3 < 4 then (if ¬ (σ 727 v3.toNatClampNeg) = 0 then (if (((σ 722 1) - (σ 728 v3.toNatClampNeg)) - ((σ 722 1) - (σ 728 v3.toNatClampNeg)) / (σ 727 v3.toNatClampNeg) * (σ 727 v3.toNatClampNeg)) = 0 then (if 0 ≤ v3 ∧ v3 < 4 then (if 0 ≤ v3 ∧ v3 < 4 then (if (σ 725 v3.toNatClampNeg) ≤ (σ 726 v3.toNatClampNeg) then (fn_Mo_tick_L33 N u2 u1 k16 n (v3 + 1) σ) else (if 0 ≤ v3 ∧ v3 < 4 then (if 0 ≤ v3 ∧ v3 < 4 then (gx_lt (gx_up σ 726 v3.toNatClampNeg ((σ 726 v3.toNatClampNeg) + ((1 : Int32)))) (fun σ_23 => fn_Mo_tick_L33 N u2 u1 k16 n (v3 + 1) σ_23)) else none) else none)) else none) else none) else (fn_Mo_tick_L33 N u2 u1 k16 n (v3 + 1) σ)) else none) else none) else none)
def fn_Mo_tick_L16 (N : Nat) (u1 : Int32) : Nat → Int32 → gx_M → Option (Int32 × gx_M)
  | 0, _, _ => none
  | n + 1, v2, σ => if u1 ≤ v2 then (gx_bd (fn_Mo_wake N ((0 : Int32)) σ) (fun r_8 σ_6 => if r_8 ≤ 0 then (some (r_8, σ_6)) else (gx_bv (fn_Mo_note N σ_6) (fun σ_10 => some (r_8, σ_10))))) else (gx_lt (gx_up σ 722 1 ((σ 722 1) + ((1 : Int32)))) (fun σ_12 => fn_Mo_tick_L33 N v2 u1 (fn_Mo_tick_L16 N u1 n) N ((0 : Int32)) σ_12))
def fn_Mo_tick (N : Nat) (p0 : Int32) (σ : gx_M) : Option (Int32 × gx_M) := gx_bd (fn_Mo_out N p0 ((1 : Int32)) ((1000 : Int32)) σ) (fun r_3 σ_1 => if r_3 = 0 then (fn_Mo_tick_L16 N p0 N ((0 : Int32)) σ_1) else (some ((-1 : Int32), σ_1)))
set_option maxHeartbeats 4000000 in
set_option maxRecDepth 100000 in
theorem wl_Mo_tick_L33 {p : Program} {l : Launch} {e : Env} {s : State} {m : MethodId} {args : Array Value} {below : List Frame} {meth : Method} {c : Code} {D : va_G} {dA : Nat → ClassId} {adr : Nat → Nat} {A : Nat → Prop} (G : gx_G p m c b_Mo_tick 4 s args gx_tb R_Mo D dA) (hr : meth.sig.returnType = some .int) (hlocks : meth.locks = false) (hA : gx_A A adr) (N : Nat) (res : Int32 × gx_M) (u2 : Int32) (u1 : Int32) (k16 : Int32 → gx_M → Option (Int32 × gx_M)) (hk16 : ∀ (a0 : Int32) (σ : gx_M) (H : Heap) (locs : List Loc) (ls : Array Slot), k16 a0 σ = some res → gx_I D dA adr A s.heap σ H locs → lv_has ls 4 [(2, .int a0), (0, .ref (adr 722)), (1, .int u1)] → W p l e (headSpec w_Mo_tick rm_Mo_tick).room s m args below meth c H locs 0 0 (MQ below (gx_Q D dA adr A (some (.int res.1)) res.2) args s 0 0 A) (F0 m 16 ls [])) : ∀ (n : Nat) (v3 : Int32) (σ : gx_M) (H : Heap) (locs : List Loc) (ls : Array Slot), fn_Mo_tick_L33 N u2 u1 k16 n v3 σ = some res → gx_I D dA adr A s.heap σ H locs → lv_has ls 4 [(3, .int v3), (2, .int u2), (0, .ref (adr 722)), (1, .int u1)] → W p l e (headSpec w_Mo_tick rm_Mo_tick).room s m args below meth c H locs 0 0 (MQ below (gx_Q D dA adr A (some (.int res.1)) res.2) args s 0 0 A) (F0 m 33 ls []) := by
  obtain ⟨⟨hx, hb, hml, hown, ht⟩, hK⟩ := id G
  intro n
  induction n with
  | zero =>
    intro v3 σ H locs ls hf
    cases hf
  | succ n ih =>
    intro v3 σ H locs ls hf hI hl
    rw [fn_Mo_tick_L33] at hf
    refine lv_iload_n hx hb d_Mo_tick_33 rfl (lv_at hl 0 rfl) ?_
    refine lv_iconst (v := 4) hx hb d_Mo_tick_34 (by decide) ?_
    refine lv_icmp_ge (tgt := 90) hx hb d_Mo_tick_35 (by decide) (fun c_13 => ?_) (fun c_13 => ?_)
    · replace hf := (if_pos c_13).symm.trans hf
      refine lv_iinc (v := u2 + 1) (lv' := [(2, .int (u2 + 1)), (3, .int v3), (0, .ref (adr 722)), (1, .int u1)]) hx hb d_Mo_tick_90 hl (k := 1) rfl rfl (by decide) rfl (fun ls hl => ?_)
      refine lv_goto (tgt := 16) hx hb d_Mo_tick_93 (by decide) ?_
      exact hk16 (u2 + 1) σ H locs ls hf hI (lv_sub hl [0, 2, 3] rfl)
    · replace hf := (if_neg c_13).symm.trans hf
      refine lv_aload_n hx hb d_Mo_tick_38 rfl (lv_at hl 2 rfl) ?_
      refine gx_getI G hI cl_Mo (by decide) 1 (by decide) (by decide) fl_Mo_7 d_Mo_tick_39 ?_
      refine lv_aload_n hx hb d_Mo_tick_42 rfl (lv_at hl 2 rfl) ?_
      refine gx_getR (o' := 728) G hI cl_Mo (by decide) 7 (by decide) (by decide) fl_Mo_29 d_Mo_tick_43 ?_
      refine lv_iload_n hx hb d_Mo_tick_46 rfl (lv_at hl 0 rfl) ?_
      obtain ⟨hi_14, hf⟩ := gx_gd hf
      refine gx_ild G hI (by decide) (gx_in hi_14 (by decide)) d_Mo_tick_47 ?_
      refine lv_isub hx hb d_Mo_tick_48 ?_
      refine lv_aload_n hx hb d_Mo_tick_49 rfl (lv_at hl 2 rfl) ?_
      refine gx_getR (o' := 727) G hI cl_Mo (by decide) 6 (by decide) (by decide) fl_Mo_26 d_Mo_tick_50 ?_
      refine lv_iload_n hx hb d_Mo_tick_53 rfl (lv_at hl 0 rfl) ?_
      obtain ⟨hi_15, hf⟩ := gx_gd hf
      refine gx_ild G hI (by decide) (gx_in hi_15 (by decide)) d_Mo_tick_54 ?_
      obtain ⟨hz_16, hf⟩ := gx_gd hf
      refine lv_irem hx hb d_Mo_tick_55 hz_16 ?_
      refine lv_if_ne (tgt := 84) hx hb d_Mo_tick_56 (by decide) (fun c_17 => ?_) (fun c_17 => ?_)
      · replace hf := (if_neg c_17).symm.trans hf
        refine lv_iinc (v := v3 + 1) (lv' := [(3, .int (v3 + 1)), (2, .int u2), (0, .ref (adr 722)), (1, .int u1)]) hx hb d_Mo_tick_84 hl (k := 0) rfl rfl (by decide) rfl (fun ls hl => ?_)
        refine lv_goto (tgt := 33) hx hb d_Mo_tick_87 (by decide) ?_
        exact ih (v3 + 1) σ H locs ls hf hI (lv_sub hl [0, 1, 2, 3] rfl)
      · replace hf := (if_pos c_17).symm.trans hf
        refine lv_aload_n hx hb d_Mo_tick_59 rfl (lv_at hl 2 rfl) ?_
        refine gx_getR (o' := 726) G hI cl_Mo (by decide) 5 (by decide) (by decide) fl_Mo_23 d_Mo_tick_60 ?_
        refine lv_iload_n hx hb d_Mo_tick_63 rfl (lv_at hl 0 rfl) ?_
        obtain ⟨hi_18, hf⟩ := gx_gd hf
        refine gx_ild G hI (by decide) (gx_in hi_18 (by decide)) d_Mo_tick_64 ?_
        refine lv_aload_n hx hb d_Mo_tick_65 rfl (lv_at hl 2 rfl) ?_
        refine gx_getR (o' := 725) G hI cl_Mo (by decide) 4 (by decide) (by decide) fl_Mo_20 d_Mo_tick_66 ?_
        refine lv_iload_n hx hb d_Mo_tick_69 rfl (lv_at hl 0 rfl) ?_
        obtain ⟨hi_19, hf⟩ := gx_gd hf
        refine gx_ild G hI (by decide) (gx_in hi_19 (by decide)) d_Mo_tick_70 ?_
        refine lv_icmp_ge (tgt := 84) hx hb d_Mo_tick_71 (by decide) (fun c_20 => ?_) (fun c_20 => ?_)
        · replace hf := (if_pos c_20).symm.trans hf
          refine lv_iinc (v := v3 + 1) (lv' := [(3, .int (v3 + 1)), (2, .int u2), (0, .ref (adr 722)), (1, .int u1)]) hx hb d_Mo_tick_84 hl (k := 0) rfl rfl (by decide) rfl (fun ls hl => ?_)
          refine lv_goto (tgt := 33) hx hb d_Mo_tick_87 (by decide) ?_
          exact ih (v3 + 1) σ H locs ls hf hI (lv_sub hl [0, 1, 2, 3] rfl)
        · replace hf := (if_neg c_20).symm.trans hf
          refine lv_aload_n hx hb d_Mo_tick_74 rfl (lv_at hl 2 rfl) ?_
          refine gx_getR (o' := 726) G hI cl_Mo (by decide) 5 (by decide) (by decide) fl_Mo_23 d_Mo_tick_75 ?_
          refine lv_iload_n hx hb d_Mo_tick_78 rfl (lv_at hl 0 rfl) ?_
          refine lv_dup2_11 hx hb d_Mo_tick_79 rfl rfl ?_
          obtain ⟨hi_21, hf⟩ := gx_gd hf
          refine gx_ild G hI (by decide) (gx_in hi_21 (by decide)) d_Mo_tick_80 ?_
          refine lv_iconst (v := 1) hx hb d_Mo_tick_81 (by decide) ?_
          refine lv_iadd hx hb d_Mo_tick_82 ?_
          obtain ⟨hi_22, hf⟩ := gx_gd hf
          obtain ⟨σ_23, eσ_23, hf⟩ := gx_lte hf
          refine gx_ist G hI hA (by decide) (gx_in hi_22 (by decide)) eσ_23 d_Mo_tick_83 (fun H locs hI => ?_)
          refine lv_iinc (v := v3 + 1) (lv' := [(3, .int (v3 + 1)), (2, .int u2), (0, .ref (adr 722)), (1, .int u1)]) hx hb d_Mo_tick_84 hl (k := 0) rfl rfl (by decide) rfl (fun ls hl => ?_)
          refine lv_goto (tgt := 33) hx hb d_Mo_tick_87 (by decide) ?_
          exact ih (v3 + 1) σ_23 H locs ls hf hI (lv_sub hl [0, 1, 2, 3] rfl)
set_option maxHeartbeats 4000000 in
set_option maxRecDepth 100000 in
theorem wl_Mo_tick_L16 {p : Program} {l : Launch} {e : Env} {s : State} {m : MethodId} {args : Array Value} {below : List Frame} {meth : Method} {c : Code} {D : va_G} {dA : Nat → ClassId} {adr : Nat → Nat} {A : Nat → Prop} (G : gx_G p m c b_Mo_tick 4 s args gx_tb R_Mo D dA) (hr : meth.sig.returnType = some .int) (hlocks : meth.locks = false) (hA : gx_A A adr) (N : Nat) (res : Int32 × gx_M) (u1 : Int32) : ∀ (n : Nat) (v2 : Int32) (σ : gx_M) (H : Heap) (locs : List Loc) (ls : Array Slot), fn_Mo_tick_L16 N u1 n v2 σ = some res → gx_I D dA adr A s.heap σ H locs → lv_has ls 4 [(2, .int v2), (0, .ref (adr 722)), (1, .int u1)] → W p l e (headSpec w_Mo_tick rm_Mo_tick).room s m args below meth c H locs 0 0 (MQ below (gx_Q D dA adr A (some (.int res.1)) res.2) args s 0 0 A) (F0 m 16 ls []) := by
  obtain ⟨⟨hx, hb, hml, hown, ht⟩, hK⟩ := id G
  intro n
  induction n with
  | zero =>
    intro v2 σ H locs ls hf
    cases hf
  | succ n ih =>
    intro v2 σ H locs ls hf hI hl
    rw [fn_Mo_tick_L16] at hf
    refine lv_iload_n hx hb d_Mo_tick_16 rfl (lv_at hl 0 rfl) ?_
    refine lv_iload_n hx hb d_Mo_tick_17 rfl (lv_at hl 2 rfl) ?_
    refine lv_icmp_ge (tgt := 96) hx hb d_Mo_tick_18 (by decide) (fun c_5 => ?_) (fun c_5 => ?_)
    · replace hf := (if_pos c_5).symm.trans hf
      refine lv_aload_n hx hb d_Mo_tick_96 rfl (lv_at hl 1 rfl) ?_
      refine lv_iconst (v := 0) hx hb d_Mo_tick_97 (by decide) ?_
      obtain ⟨r_8, σ_6, hc_7, hf⟩ := gx_bde hf
      refine gx_go (va_runV (As := [.int ((0 : Int32))]) (rest := []) G.1 (ct_Mo_wake l D dA adr A hA N ((0 : Int32)) σ r_8 σ_6 hc_7) (cwV 1 ht gi_Mo_121 rfl rfl rfl (by decide +kernel) ⟨Nat.le_of_ble_eq_true rfl, Nat.le_of_ble_eq_true rfl⟩) (gx_preV G hI cl_Mo (by decide)) rfl rfl hl.1 rfl (lv_room (Nat.le_of_ble_eq_true rfl)) d_Mo_tick_98 ⟨Nat.zero_le _, Nat.zero_le _⟩) hI (st1 := [.int r_8]) rfl (fun H locs hI => ?_)
      refine lv_istore_n (i := 2) (lv' := [(2, .int r_8), (0, .ref (adr 722)), (1, .int u1)]) hx hb d_Mo_tick_101 rfl hl (by decide) rfl (fun ls hl => ?_)
      refine lv_iload_n hx hb d_Mo_tick_102 rfl (lv_at hl 0 rfl) ?_
      refine lv_if_le (tgt := 110) hx hb d_Mo_tick_103 (by decide) (fun c_9 => ?_) (fun c_9 => ?_)
      · replace hf := (if_pos c_9).symm.trans hf
        refine lv_iload_n hx hb d_Mo_tick_110 rfl (lv_at hl 0 rfl) ?_
        cases hf
        exact W.iret hx hb hr (gx_F hI) hI.2.2.2 d_Mo_tick_111
      · replace hf := (if_neg c_9).symm.trans hf
        refine lv_aload_n hx hb d_Mo_tick_106 rfl (lv_at hl 1 rfl) ?_
        obtain ⟨σ_10, hc_11, hf⟩ := gx_bve hf
        refine gx_go (va_runV (As := []) (rest := []) G.1 (ct_Mo_note l D dA adr A hA N σ_6 σ_10 hc_11) (cwV 0 ht gi_Mo_94 rfl rfl rfl (by decide +kernel) ⟨Nat.le_of_ble_eq_true rfl, Nat.le_of_ble_eq_true rfl⟩) (gx_preV G hI cl_Mo (by decide)) rfl rfl hl.1 rfl (lv_room (Nat.le_of_ble_eq_true rfl)) d_Mo_tick_107 ⟨Nat.zero_le _, Nat.zero_le _⟩) hI (st1 := []) rfl (fun H locs hI => ?_)
        refine lv_iload_n hx hb d_Mo_tick_110 rfl (lv_at hl 0 rfl) ?_
        cases hf
        exact W.iret hx hb hr (gx_F hI) hI.2.2.2 d_Mo_tick_111
    · replace hf := (if_neg c_5).symm.trans hf
      refine lv_aload_n hx hb d_Mo_tick_21 rfl (lv_at hl 1 rfl) ?_
      refine lv_dup hx hb d_Mo_tick_22 rfl ?_
      refine gx_getI G hI cl_Mo (by decide) 1 (by decide) (by decide) fl_Mo_7 d_Mo_tick_23 ?_
      refine lv_iconst (v := 1) hx hb d_Mo_tick_26 (by decide) ?_
      refine lv_iadd hx hb d_Mo_tick_27 ?_
      obtain ⟨σ_12, eσ_12, hf⟩ := gx_lte hf
      refine gx_put G hI hA cl_Mo (by decide) 1 (by decide) (by decide) fl_Mo_7 rfl rfl rfl eσ_12 d_Mo_tick_28 (fun H locs hI => ?_)
      refine lv_iconst (v := 0) hx hb d_Mo_tick_31 (by decide) ?_
      refine lv_istore_n (i := 3) (lv' := [(3, .int ((0 : Int32))), (2, .int v2), (0, .ref (adr 722)), (1, .int u1)]) hx hb d_Mo_tick_32 rfl hl (by decide) rfl (fun ls hl => ?_)
      exact wl_Mo_tick_L33 G hr hlocks hA N _ v2 u1 (fn_Mo_tick_L16 N u1 n) ih N ((0 : Int32)) σ_12 H locs ls hf hI (lv_sub hl [0, 1, 2, 3] rfl)
set_option maxHeartbeats 4000000 in
set_option maxRecDepth 100000 in
theorem ct_Mo_tick (l : Launch) (D : va_G) (dA : Nat → ClassId) (adr : Nat → Nat) (A : Nat → Prop) (hA : gx_A A adr) (N : Nat) (p0 : Int32) (σ : gx_M) (r : Int32) (σ' : gx_M) (hf : fn_Mo_tick N p0 σ = some (r, σ')) : Met l y_Mo_tick w_Mo_tick rm_Mo_tick (gx_Pc D dA adr σ [.ref (adr 722), .int p0]) (gx_Q D dA adr A (some (.int r)) σ') 0 0 A := by
  refine Met.ofW (cc := b_Mo_tick) (maxL := 4) (ret := some .int) (by decide) rfl ?_
  intro p e s m args below meth c s₁ B hml hv
  obtain ⟨rfl, hP, hK⟩ := hv
  have hx := B.exec
  have hb := B.bytes
  have hr := B.returns
  have hlocks := B.notSynchronized
  have ht : ∀ w ∈ gx_tb, w.before _ s = true := fun w h => atoms_spec (ws := w_Mo_tick) B.pre w (List.mem_cons_of_mem _ h)
  have hown : s.vm.findClass R_Mo = some m.cls := findClass_of_methodNamed B.named
  have G : gx_G p m c b_Mo_tick 4 s _ gx_tb R_Mo D dA := ⟨⟨hx, hb, hml, hown, ht⟩, hK⟩
  have hI : gx_I D dA adr A s.heap σ s.heap [] := ⟨hP, va_S.rf⟩
  have hl := lv_entry ([.ref (adr 722), .int p0]) (n := 4) (Nat.le_of_ble_eq_true rfl)
  rw [lg_entry_eq]
  generalize (lg_sl ([.ref (adr 722), .int p0]) ++ List.replicate (4 - (lg_sl ([.ref (adr 722), .int p0])).length) Slot.unset).toArray = ls at hl ⊢
  have hl : lv_has ls 4 [(0, .ref (adr 722)), (1, .int p0)] := hl
  rw [fn_Mo_tick] at hf
  refine lv_aload_n hx hb d_Mo_tick_0 rfl (lv_at hl 0 rfl) ?_
  refine lv_iload_n hx hb d_Mo_tick_1 rfl (lv_at hl 1 rfl) ?_
  refine lv_iconst (v := 1) hx hb d_Mo_tick_2 (by decide) ?_
  refine lv_sipush (v := 1000) hx hb d_Mo_tick_3 (by decide) ?_
  obtain ⟨r_3, σ_1, hc_2, hf⟩ := gx_bde hf
  refine gx_go (va_runV (As := [.int p0, .int ((1 : Int32)), .int ((1000 : Int32))]) (rest := []) G.1 (ct_Mo_out l D dA adr A hA N p0 ((1 : Int32)) ((1000 : Int32)) σ r_3 σ_1 hc_2) (cwV 3 ht gi_Mo_80 rfl rfl rfl (by decide +kernel) ⟨Nat.le_of_ble_eq_true rfl, Nat.le_of_ble_eq_true rfl⟩) (gx_preV G hI cl_Mo (by decide)) rfl rfl hl.1 rfl (lv_room (Nat.le_of_ble_eq_true rfl)) d_Mo_tick_6 ⟨Nat.zero_le _, Nat.zero_le _⟩) hI (st1 := [.int r_3]) rfl (fun H locs hI => ?_)
  refine lv_if_eq (tgt := 14) hx hb d_Mo_tick_9 (by decide) (fun c_4 => ?_) (fun c_4 => ?_)
  · replace hf := (if_pos c_4).symm.trans hf
    refine lv_iconst (v := 0) hx hb d_Mo_tick_14 (by decide) ?_
    refine lv_istore_n (i := 2) (lv' := [(2, .int ((0 : Int32))), (0, .ref (adr 722)), (1, .int p0)]) hx hb d_Mo_tick_15 rfl hl (by decide) rfl (fun ls hl => ?_)
    exact wl_Mo_tick_L16 G hr hlocks hA N _ p0 N ((0 : Int32)) σ_1 _ _ ls hf hI (lv_sub hl [0, 1, 2] rfl)
  · replace hf := (if_neg c_4).symm.trans hf
    refine lv_iconst (v := (-1)) hx hb d_Mo_tick_12 (by decide) ?_
    cases hf
    exact W.iret hx hb hr (gx_F hI) hI.2.2.2 d_Mo_tick_13
def fn_Mo_revive (N : Nat) (p0 : Int32) (σ : gx_M) : Option (Int32 × gx_M) := gx_bd (fn_Mo_no N p0 σ) (fun r_3 σ_1 => if r_3 = 0 then (gx_bd (fn_Mo_of N p0 ((9 : Int32)) σ_1) (fun r_7 σ_5 => if r_7 = ((5 : Int32)) then (gx_bd (fn_Mo_of N p0 ((5 : Int32)) σ_5) (fun r_11 σ_9 => gx_bd (fn_Mo_keyTaken N r_11 σ_9) (fun r_14 σ_12 => if r_14 = 0 then (gx_bv (fn_Mo_set N p0 ((4 : Int32)) ((0 : Int32)) σ_12) (fun σ_16 => gx_bv (fn_Mo_ready N p0 σ_16) (fun σ_18 => gx_bv (fn_Mo_note N σ_18) (fun σ_20 => some ((0 : Int32), σ_20))))) else (some ((-3 : Int32), σ_12))))) else (some ((-1 : Int32), σ_5)))) else (some ((-1 : Int32), σ_1)))
set_option maxHeartbeats 4000000 in
set_option maxRecDepth 100000 in
theorem ct_Mo_revive (l : Launch) (D : va_G) (dA : Nat → ClassId) (adr : Nat → Nat) (A : Nat → Prop) (hA : gx_A A adr) (N : Nat) (p0 : Int32) (σ : gx_M) (r : Int32) (σ' : gx_M) (hf : fn_Mo_revive N p0 σ = some (r, σ')) : Met l y_Mo_revive w_Mo_revive rm_Mo_revive (gx_Pc D dA adr σ [.ref (adr 722), .int p0]) (gx_Q D dA adr A (some (.int r)) σ') 0 0 A := by
  refine Met.ofW (cc := b_Mo_revive) (maxL := 2) (ret := some .int) (by decide) rfl ?_
  intro p e s m args below meth c s₁ B hml hv
  obtain ⟨rfl, hP, hK⟩ := hv
  have hx := B.exec
  have hb := B.bytes
  have hr := B.returns
  have hlocks := B.notSynchronized
  have ht : ∀ w ∈ gx_tb, w.before _ s = true := fun w h => atoms_spec (ws := w_Mo_revive) B.pre w (List.mem_cons_of_mem _ h)
  have hown : s.vm.findClass R_Mo = some m.cls := findClass_of_methodNamed B.named
  have G : gx_G p m c b_Mo_revive 2 s _ gx_tb R_Mo D dA := ⟨⟨hx, hb, hml, hown, ht⟩, hK⟩
  have hI : gx_I D dA adr A s.heap σ s.heap [] := ⟨hP, va_S.rf⟩
  have hl := lv_entry ([.ref (adr 722), .int p0]) (n := 2) (Nat.le_of_ble_eq_true rfl)
  rw [lg_entry_eq]
  generalize (lg_sl ([.ref (adr 722), .int p0]) ++ List.replicate (2 - (lg_sl ([.ref (adr 722), .int p0])).length) Slot.unset).toArray = ls at hl ⊢
  have hl : lv_has ls 2 [(0, .ref (adr 722)), (1, .int p0)] := hl
  rw [fn_Mo_revive] at hf
  refine lv_aload_n hx hb d_Mo_revive_0 rfl (lv_at hl 0 rfl) ?_
  refine lv_iload_n hx hb d_Mo_revive_1 rfl (lv_at hl 1 rfl) ?_
  obtain ⟨r_3, σ_1, hc_2, hf⟩ := gx_bde hf
  refine gx_go (va_runV (As := [.int p0]) (rest := []) G.1 (ct_Mo_no l D dA adr A hA N p0 σ r_3 σ_1 hc_2) (cwV 1 ht gi_Mo_97 rfl rfl rfl (by decide +kernel) ⟨Nat.le_of_ble_eq_true rfl, Nat.le_of_ble_eq_true rfl⟩) (gx_preV G hI cl_Mo (by decide)) rfl rfl hl.1 rfl (lv_room (Nat.le_of_ble_eq_true rfl)) d_Mo_revive_2 ⟨Nat.zero_le _, Nat.zero_le _⟩) hI (st1 := [.int r_3]) rfl (fun H locs hI => ?_)
  refine lv_if_ne (tgt := 19) hx hb d_Mo_revive_5 (by decide) (fun c_4 => ?_) (fun c_4 => ?_)
  · replace hf := (if_neg c_4).symm.trans hf
    refine lv_iconst (v := (-1)) hx hb d_Mo_revive_19 (by decide) ?_
    cases hf
    exact W.iret hx hb hr (gx_F hI) hI.2.2.2 d_Mo_revive_20
  · replace hf := (if_pos c_4).symm.trans hf
    refine lv_aload_n hx hb d_Mo_revive_8 rfl (lv_at hl 0 rfl) ?_
    refine lv_iload_n hx hb d_Mo_revive_9 rfl (lv_at hl 1 rfl) ?_
    refine lv_bipush (v := 9) hx hb d_Mo_revive_10 (by decide) ?_
    obtain ⟨r_7, σ_5, hc_6, hf⟩ := gx_bde hf
    refine gx_go (va_runV (As := [.int p0, .int ((9 : Int32))]) (rest := []) G.1 (ct_Mo_of l D dA adr A hA N p0 ((9 : Int32)) σ_1 r_7 σ_5 hc_6) (cwV 2 ht gi_Mo_65 rfl rfl rfl (by decide +kernel) ⟨Nat.le_of_ble_eq_true rfl, Nat.le_of_ble_eq_true rfl⟩) (gx_preV G hI cl_Mo (by decide)) rfl rfl hl.1 rfl (lv_room (Nat.le_of_ble_eq_true rfl)) d_Mo_revive_12 ⟨Nat.zero_le _, Nat.zero_le _⟩) hI (st1 := [.int r_7]) rfl (fun H locs hI => ?_)
    refine lv_iconst (v := 5) hx hb d_Mo_revive_15 (by decide) ?_
    refine lv_icmp_eq (tgt := 21) hx hb d_Mo_revive_16 (by decide) (fun c_8 => ?_) (fun c_8 => ?_)
    · replace hf := (if_pos c_8).symm.trans hf
      refine lv_aload_n hx hb d_Mo_revive_21 rfl (lv_at hl 0 rfl) ?_
      refine lv_aload_n hx hb d_Mo_revive_22 rfl (lv_at hl 0 rfl) ?_
      refine lv_iload_n hx hb d_Mo_revive_23 rfl (lv_at hl 1 rfl) ?_
      refine lv_iconst (v := 5) hx hb d_Mo_revive_24 (by decide) ?_
      obtain ⟨r_11, σ_9, hc_10, hf⟩ := gx_bde hf
      refine gx_go (va_runV (As := [.int p0, .int ((5 : Int32))]) (rest := [.ref (adr 722)]) G.1 (ct_Mo_of l D dA adr A hA N p0 ((5 : Int32)) σ_5 r_11 σ_9 hc_10) (cwV 2 ht gi_Mo_65 rfl rfl rfl (by decide +kernel) ⟨Nat.le_of_ble_eq_true rfl, Nat.le_of_ble_eq_true rfl⟩) (gx_preV G hI cl_Mo (by decide)) rfl rfl hl.1 rfl (lv_room (Nat.le_of_ble_eq_true rfl)) d_Mo_revive_25 ⟨Nat.zero_le _, Nat.zero_le _⟩) hI (st1 := [.int r_11, .ref (adr 722)]) rfl (fun H locs hI => ?_)
      obtain ⟨r_14, σ_12, hc_13, hf⟩ := gx_bde hf
      refine gx_go (va_runV (As := [.int r_11]) (rest := []) G.1 (ct_Mo_keyTaken l D dA adr A hA N r_11 σ_9 r_14 σ_12 hc_13) (cwV 1 ht gi_Mo_84 rfl rfl rfl (by decide +kernel) ⟨Nat.le_of_ble_eq_true rfl, Nat.le_of_ble_eq_true rfl⟩) (gx_preV G hI cl_Mo (by decide)) rfl rfl hl.1 rfl (lv_room (Nat.le_of_ble_eq_true rfl)) d_Mo_revive_28 ⟨Nat.zero_le _, Nat.zero_le _⟩) hI (st1 := [.int r_14]) rfl (fun H locs hI => ?_)
      refine lv_if_eq (tgt := 37) hx hb d_Mo_revive_31 (by decide) (fun c_15 => ?_) (fun c_15 => ?_)
      · replace hf := (if_pos c_15).symm.trans hf
        refine lv_aload_n hx hb d_Mo_revive_37 rfl (lv_at hl 0 rfl) ?_
        refine lv_iload_n hx hb d_Mo_revive_38 rfl (lv_at hl 1 rfl) ?_
        refine lv_iconst (v := 4) hx hb d_Mo_revive_39 (by decide) ?_
        refine lv_iconst (v := 0) hx hb d_Mo_revive_40 (by decide) ?_
        obtain ⟨σ_16, hc_17, hf⟩ := gx_bve hf
        refine gx_go (va_runV (As := [.int p0, .int ((4 : Int32)), .int ((0 : Int32))]) (rest := []) G.1 (ct_Mo_set l D dA adr A hA N p0 ((4 : Int32)) ((0 : Int32)) σ_12 σ_16 hc_17) (cwV 3 ht gi_Mo_69 rfl rfl rfl (by decide +kernel) ⟨Nat.le_of_ble_eq_true rfl, Nat.le_of_ble_eq_true rfl⟩) (gx_preV G hI cl_Mo (by decide)) rfl rfl hl.1 rfl (lv_room (Nat.le_of_ble_eq_true rfl)) d_Mo_revive_41 ⟨Nat.zero_le _, Nat.zero_le _⟩) hI (st1 := []) rfl (fun H locs hI => ?_)
        refine lv_aload_n hx hb d_Mo_revive_44 rfl (lv_at hl 0 rfl) ?_
        refine lv_iload_n hx hb d_Mo_revive_45 rfl (lv_at hl 1 rfl) ?_
        obtain ⟨σ_18, hc_19, hf⟩ := gx_bve hf
        refine gx_go (va_runV (As := [.int p0]) (rest := []) G.1 (ct_Mo_ready l D dA adr A hA N p0 σ_16 σ_18 hc_19) (cwV 1 ht gi_Mo_91 rfl rfl rfl (by decide +kernel) ⟨Nat.le_of_ble_eq_true rfl, Nat.le_of_ble_eq_true rfl⟩) (gx_preV G hI cl_Mo (by decide)) rfl rfl hl.1 rfl (lv_room (Nat.le_of_ble_eq_true rfl)) d_Mo_revive_46 ⟨Nat.zero_le _, Nat.zero_le _⟩) hI (st1 := []) rfl (fun H locs hI => ?_)
        refine lv_aload_n hx hb d_Mo_revive_49 rfl (lv_at hl 0 rfl) ?_
        obtain ⟨σ_20, hc_21, hf⟩ := gx_bve hf
        refine gx_go (va_runV (As := []) (rest := []) G.1 (ct_Mo_note l D dA adr A hA N σ_18 σ_20 hc_21) (cwV 0 ht gi_Mo_94 rfl rfl rfl (by decide +kernel) ⟨Nat.le_of_ble_eq_true rfl, Nat.le_of_ble_eq_true rfl⟩) (gx_preV G hI cl_Mo (by decide)) rfl rfl hl.1 rfl (lv_room (Nat.le_of_ble_eq_true rfl)) d_Mo_revive_50 ⟨Nat.zero_le _, Nat.zero_le _⟩) hI (st1 := []) rfl (fun H locs hI => ?_)
        refine lv_iconst (v := 0) hx hb d_Mo_revive_53 (by decide) ?_
        cases hf
        exact W.iret hx hb hr (gx_F hI) hI.2.2.2 d_Mo_revive_54
      · replace hf := (if_neg c_15).symm.trans hf
        refine lv_bipush (v := (-3)) hx hb d_Mo_revive_34 (by decide) ?_
        cases hf
        exact W.iret hx hb hr (gx_F hI) hI.2.2.2 d_Mo_revive_36
    · replace hf := (if_neg c_8).symm.trans hf
      refine lv_iconst (v := (-1)) hx hb d_Mo_revive_19 (by decide) ?_
      cases hf
      exact W.iret hx hb hr (gx_F hI) hI.2.2.2 d_Mo_revive_20
def fn_Mo_kill (N : Nat) (p0 : Int32) (σ : gx_M) : Option (Int32 × gx_M) := gx_bd (fn_Mo_no N p0 σ) (fun r_3 σ_1 => if r_3 = 0 then (gx_bd (fn_Mo_of N p0 ((9 : Int32)) σ_1) (fun r_7 σ_5 => if r_7 = 0 then (gx_bv (fn_Mo_die N p0 σ_5) (fun σ_9 => gx_bv (fn_Mo_note N σ_9) (fun σ_11 => some ((0 : Int32), σ_11)))) else (if r_7 = ((1 : Int32)) then (gx_bv (fn_Mo_die N p0 σ_5) (fun σ_14 => gx_bv (fn_Mo_note N σ_14) (fun σ_16 => some ((0 : Int32), σ_16)))) else (if r_7 = ((3 : Int32)) then (gx_bv (fn_Mo_die N p0 σ_5) (fun σ_19 => gx_bv (fn_Mo_note N σ_19) (fun σ_21 => some ((0 : Int32), σ_21)))) else (if r_7 = ((6 : Int32)) then (gx_bv (fn_Mo_die N p0 σ_5) (fun σ_24 => gx_bv (fn_Mo_note N σ_24) (fun σ_26 => some ((0 : Int32), σ_26)))) else (some ((-1 : Int32), σ_5))))))) else (some ((-1 : Int32), σ_1)))
set_option maxHeartbeats 4000000 in
set_option maxRecDepth 100000 in
theorem ct_Mo_kill (l : Launch) (D : va_G) (dA : Nat → ClassId) (adr : Nat → Nat) (A : Nat → Prop) (hA : gx_A A adr) (N : Nat) (p0 : Int32) (σ : gx_M) (r : Int32) (σ' : gx_M) (hf : fn_Mo_kill N p0 σ = some (r, σ')) : Met l y_Mo_kill w_Mo_kill rm_Mo_kill (gx_Pc D dA adr σ [.ref (adr 722), .int p0]) (gx_Q D dA adr A (some (.int r)) σ') 0 0 A := by
  refine Met.ofW (cc := b_Mo_kill) (maxL := 3) (ret := some .int) (by decide) rfl ?_
  intro p e s m args below meth c s₁ B hml hv
  obtain ⟨rfl, hP, hK⟩ := hv
  have hx := B.exec
  have hb := B.bytes
  have hr := B.returns
  have hlocks := B.notSynchronized
  have ht : ∀ w ∈ gx_tb, w.before _ s = true := fun w h => atoms_spec (ws := w_Mo_kill) B.pre w (List.mem_cons_of_mem _ h)
  have hown : s.vm.findClass R_Mo = some m.cls := findClass_of_methodNamed B.named
  have G : gx_G p m c b_Mo_kill 3 s _ gx_tb R_Mo D dA := ⟨⟨hx, hb, hml, hown, ht⟩, hK⟩
  have hI : gx_I D dA adr A s.heap σ s.heap [] := ⟨hP, va_S.rf⟩
  have hl := lv_entry ([.ref (adr 722), .int p0]) (n := 3) (Nat.le_of_ble_eq_true rfl)
  rw [lg_entry_eq]
  generalize (lg_sl ([.ref (adr 722), .int p0]) ++ List.replicate (3 - (lg_sl ([.ref (adr 722), .int p0])).length) Slot.unset).toArray = ls at hl ⊢
  have hl : lv_has ls 3 [(0, .ref (adr 722)), (1, .int p0)] := hl
  rw [fn_Mo_kill] at hf
  refine lv_aload_n hx hb d_Mo_kill_0 rfl (lv_at hl 0 rfl) ?_
  refine lv_iload_n hx hb d_Mo_kill_1 rfl (lv_at hl 1 rfl) ?_
  obtain ⟨r_3, σ_1, hc_2, hf⟩ := gx_bde hf
  refine gx_go (va_runV (As := [.int p0]) (rest := []) G.1 (ct_Mo_no l D dA adr A hA N p0 σ r_3 σ_1 hc_2) (cwV 1 ht gi_Mo_97 rfl rfl rfl (by decide +kernel) ⟨Nat.le_of_ble_eq_true rfl, Nat.le_of_ble_eq_true rfl⟩) (gx_preV G hI cl_Mo (by decide)) rfl rfl hl.1 rfl (lv_room (Nat.le_of_ble_eq_true rfl)) d_Mo_kill_2 ⟨Nat.zero_le _, Nat.zero_le _⟩) hI (st1 := [.int r_3]) rfl (fun H locs hI => ?_)
  refine lv_if_eq (tgt := 10) hx hb d_Mo_kill_5 (by decide) (fun c_4 => ?_) (fun c_4 => ?_)
  · replace hf := (if_pos c_4).symm.trans hf
    refine lv_aload_n hx hb d_Mo_kill_10 rfl (lv_at hl 0 rfl) ?_
    refine lv_iload_n hx hb d_Mo_kill_11 rfl (lv_at hl 1 rfl) ?_
    refine lv_bipush (v := 9) hx hb d_Mo_kill_12 (by decide) ?_
    obtain ⟨r_7, σ_5, hc_6, hf⟩ := gx_bde hf
    refine gx_go (va_runV (As := [.int p0, .int ((9 : Int32))]) (rest := []) G.1 (ct_Mo_of l D dA adr A hA N p0 ((9 : Int32)) σ_1 r_7 σ_5 hc_6) (cwV 2 ht gi_Mo_65 rfl rfl rfl (by decide +kernel) ⟨Nat.le_of_ble_eq_true rfl, Nat.le_of_ble_eq_true rfl⟩) (gx_preV G hI cl_Mo (by decide)) rfl rfl hl.1 rfl (lv_room (Nat.le_of_ble_eq_true rfl)) d_Mo_kill_14 ⟨Nat.zero_le _, Nat.zero_le _⟩) hI (st1 := [.int r_7]) rfl (fun H locs hI => ?_)
    refine lv_istore_n (i := 2) (lv' := [(2, .int r_7), (0, .ref (adr 722)), (1, .int p0)]) hx hb d_Mo_kill_17 rfl hl (by decide) rfl (fun ls hl => ?_)
    refine lv_iload_n hx hb d_Mo_kill_18 rfl (lv_at hl 0 rfl) ?_
    refine lv_if_eq (tgt := 40) hx hb d_Mo_kill_19 (by decide) (fun c_8 => ?_) (fun c_8 => ?_)
    · replace hf := (if_pos c_8).symm.trans hf
      refine lv_aload_n hx hb d_Mo_kill_40 rfl (lv_at hl 1 rfl) ?_
      refine lv_iload_n hx hb d_Mo_kill_41 rfl (lv_at hl 2 rfl) ?_
      obtain ⟨σ_9, hc_10, hf⟩ := gx_bve hf
      refine gx_go (va_runV (As := [.int p0]) (rest := []) G.1 (ct_Mo_die l D dA adr A hA N p0 σ_5 σ_9 hc_10) (cwV 1 ht gi_Mo_73 rfl rfl rfl (by decide +kernel) ⟨Nat.le_of_ble_eq_true rfl, Nat.le_of_ble_eq_true rfl⟩) (gx_preV G hI cl_Mo (by decide)) rfl rfl hl.1 rfl (lv_room (Nat.le_of_ble_eq_true rfl)) d_Mo_kill_42 ⟨Nat.zero_le _, Nat.zero_le _⟩) hI (st1 := []) rfl (fun H locs hI => ?_)
      refine lv_aload_n hx hb d_Mo_kill_45 rfl (lv_at hl 1 rfl) ?_
      obtain ⟨σ_11, hc_12, hf⟩ := gx_bve hf
      refine gx_go (va_runV (As := []) (rest := []) G.1 (ct_Mo_note l D dA adr A hA N σ_9 σ_11 hc_12) (cwV 0 ht gi_Mo_94 rfl rfl rfl (by decide +kernel) ⟨Nat.le_of_ble_eq_true rfl, Nat.le_of_ble_eq_true rfl⟩) (gx_preV G hI cl_Mo (by decide)) rfl rfl hl.1 rfl (lv_room (Nat.le_of_ble_eq_true rfl)) d_Mo_kill_46 ⟨Nat.zero_le _, Nat.zero_le _⟩) hI (st1 := []) rfl (fun H locs hI => ?_)
      refine lv_iconst (v := 0) hx hb d_Mo_kill_49 (by decide) ?_
      cases hf
      exact W.iret hx hb hr (gx_F hI) hI.2.2.2 d_Mo_kill_50
    · replace hf := (if_neg c_8).symm.trans hf
      refine lv_iload_n hx hb d_Mo_kill_22 rfl (lv_at hl 0 rfl) ?_
      refine lv_iconst (v := 1) hx hb d_Mo_kill_23 (by decide) ?_
      refine lv_icmp_eq (tgt := 40) hx hb d_Mo_kill_24 (by decide) (fun c_13 => ?_) (fun c_13 => ?_)
      · replace hf := (if_pos c_13).symm.trans hf
        refine lv_aload_n hx hb d_Mo_kill_40 rfl (lv_at hl 1 rfl) ?_
        refine lv_iload_n hx hb d_Mo_kill_41 rfl (lv_at hl 2 rfl) ?_
        obtain ⟨σ_14, hc_15, hf⟩ := gx_bve hf
        refine gx_go (va_runV (As := [.int p0]) (rest := []) G.1 (ct_Mo_die l D dA adr A hA N p0 σ_5 σ_14 hc_15) (cwV 1 ht gi_Mo_73 rfl rfl rfl (by decide +kernel) ⟨Nat.le_of_ble_eq_true rfl, Nat.le_of_ble_eq_true rfl⟩) (gx_preV G hI cl_Mo (by decide)) rfl rfl hl.1 rfl (lv_room (Nat.le_of_ble_eq_true rfl)) d_Mo_kill_42 ⟨Nat.zero_le _, Nat.zero_le _⟩) hI (st1 := []) rfl (fun H locs hI => ?_)
        refine lv_aload_n hx hb d_Mo_kill_45 rfl (lv_at hl 1 rfl) ?_
        obtain ⟨σ_16, hc_17, hf⟩ := gx_bve hf
        refine gx_go (va_runV (As := []) (rest := []) G.1 (ct_Mo_note l D dA adr A hA N σ_14 σ_16 hc_17) (cwV 0 ht gi_Mo_94 rfl rfl rfl (by decide +kernel) ⟨Nat.le_of_ble_eq_true rfl, Nat.le_of_ble_eq_true rfl⟩) (gx_preV G hI cl_Mo (by decide)) rfl rfl hl.1 rfl (lv_room (Nat.le_of_ble_eq_true rfl)) d_Mo_kill_46 ⟨Nat.zero_le _, Nat.zero_le _⟩) hI (st1 := []) rfl (fun H locs hI => ?_)
        refine lv_iconst (v := 0) hx hb d_Mo_kill_49 (by decide) ?_
        cases hf
        exact W.iret hx hb hr (gx_F hI) hI.2.2.2 d_Mo_kill_50
      · replace hf := (if_neg c_13).symm.trans hf
        refine lv_iload_n hx hb d_Mo_kill_27 rfl (lv_at hl 0 rfl) ?_
        refine lv_iconst (v := 3) hx hb d_Mo_kill_28 (by decide) ?_
        refine lv_icmp_eq (tgt := 40) hx hb d_Mo_kill_29 (by decide) (fun c_18 => ?_) (fun c_18 => ?_)
        · replace hf := (if_pos c_18).symm.trans hf
          refine lv_aload_n hx hb d_Mo_kill_40 rfl (lv_at hl 1 rfl) ?_
          refine lv_iload_n hx hb d_Mo_kill_41 rfl (lv_at hl 2 rfl) ?_
          obtain ⟨σ_19, hc_20, hf⟩ := gx_bve hf
          refine gx_go (va_runV (As := [.int p0]) (rest := []) G.1 (ct_Mo_die l D dA adr A hA N p0 σ_5 σ_19 hc_20) (cwV 1 ht gi_Mo_73 rfl rfl rfl (by decide +kernel) ⟨Nat.le_of_ble_eq_true rfl, Nat.le_of_ble_eq_true rfl⟩) (gx_preV G hI cl_Mo (by decide)) rfl rfl hl.1 rfl (lv_room (Nat.le_of_ble_eq_true rfl)) d_Mo_kill_42 ⟨Nat.zero_le _, Nat.zero_le _⟩) hI (st1 := []) rfl (fun H locs hI => ?_)
          refine lv_aload_n hx hb d_Mo_kill_45 rfl (lv_at hl 1 rfl) ?_
          obtain ⟨σ_21, hc_22, hf⟩ := gx_bve hf
          refine gx_go (va_runV (As := []) (rest := []) G.1 (ct_Mo_note l D dA adr A hA N σ_19 σ_21 hc_22) (cwV 0 ht gi_Mo_94 rfl rfl rfl (by decide +kernel) ⟨Nat.le_of_ble_eq_true rfl, Nat.le_of_ble_eq_true rfl⟩) (gx_preV G hI cl_Mo (by decide)) rfl rfl hl.1 rfl (lv_room (Nat.le_of_ble_eq_true rfl)) d_Mo_kill_46 ⟨Nat.zero_le _, Nat.zero_le _⟩) hI (st1 := []) rfl (fun H locs hI => ?_)
          refine lv_iconst (v := 0) hx hb d_Mo_kill_49 (by decide) ?_
          cases hf
          exact W.iret hx hb hr (gx_F hI) hI.2.2.2 d_Mo_kill_50
        · replace hf := (if_neg c_18).symm.trans hf
          refine lv_iload_n hx hb d_Mo_kill_32 rfl (lv_at hl 0 rfl) ?_
          refine lv_bipush (v := 6) hx hb d_Mo_kill_33 (by decide) ?_
          refine lv_icmp_eq (tgt := 40) hx hb d_Mo_kill_35 (by decide) (fun c_23 => ?_) (fun c_23 => ?_)
          · replace hf := (if_pos c_23).symm.trans hf
            refine lv_aload_n hx hb d_Mo_kill_40 rfl (lv_at hl 1 rfl) ?_
            refine lv_iload_n hx hb d_Mo_kill_41 rfl (lv_at hl 2 rfl) ?_
            obtain ⟨σ_24, hc_25, hf⟩ := gx_bve hf
            refine gx_go (va_runV (As := [.int p0]) (rest := []) G.1 (ct_Mo_die l D dA adr A hA N p0 σ_5 σ_24 hc_25) (cwV 1 ht gi_Mo_73 rfl rfl rfl (by decide +kernel) ⟨Nat.le_of_ble_eq_true rfl, Nat.le_of_ble_eq_true rfl⟩) (gx_preV G hI cl_Mo (by decide)) rfl rfl hl.1 rfl (lv_room (Nat.le_of_ble_eq_true rfl)) d_Mo_kill_42 ⟨Nat.zero_le _, Nat.zero_le _⟩) hI (st1 := []) rfl (fun H locs hI => ?_)
            refine lv_aload_n hx hb d_Mo_kill_45 rfl (lv_at hl 1 rfl) ?_
            obtain ⟨σ_26, hc_27, hf⟩ := gx_bve hf
            refine gx_go (va_runV (As := []) (rest := []) G.1 (ct_Mo_note l D dA adr A hA N σ_24 σ_26 hc_27) (cwV 0 ht gi_Mo_94 rfl rfl rfl (by decide +kernel) ⟨Nat.le_of_ble_eq_true rfl, Nat.le_of_ble_eq_true rfl⟩) (gx_preV G hI cl_Mo (by decide)) rfl rfl hl.1 rfl (lv_room (Nat.le_of_ble_eq_true rfl)) d_Mo_kill_46 ⟨Nat.zero_le _, Nat.zero_le _⟩) hI (st1 := []) rfl (fun H locs hI => ?_)
            refine lv_iconst (v := 0) hx hb d_Mo_kill_49 (by decide) ?_
            cases hf
            exact W.iret hx hb hr (gx_F hI) hI.2.2.2 d_Mo_kill_50
          · replace hf := (if_neg c_23).symm.trans hf
            refine lv_iconst (v := (-1)) hx hb d_Mo_kill_38 (by decide) ?_
            cases hf
            exact W.iret hx hb hr (gx_F hI) hI.2.2.2 d_Mo_kill_39
  · replace hf := (if_neg c_4).symm.trans hf
    refine lv_iconst (v := (-1)) hx hb d_Mo_kill_8 (by decide) ?_
    cases hf
    exact W.iret hx hb hr (gx_F hI) hI.2.2.2 d_Mo_kill_9
def fn_Mo_crash_L137 (N : Nat) (u3 : Int32) : Nat → Int32 → gx_M → Option (Int32 × gx_M)
  | 0, _, _ => none
  | n + 1, v4, σ => if ((4 : Int32)) ≤ v4 then (gx_lt (gx_up σ 722 8 ((-1 : Int32))) (fun σ_9 => gx_lt (gx_up σ_9 722 11 ((0 : Int32))) (fun σ_10 => gx_bv (fn_Mo_store N ((0 : Int32)) σ_10) (fun σ_11 => some (u3, σ_11))))) else (if 0 ≤ v4 ∧ v4 < 4 then (gx_lt (gx_up σ 724 v4.toNatClampNeg ((0 : Int32))) (fun σ_14 => if 0 ≤ v4 ∧ v4 < 4 then (if 0 ≤ v4 ∧ v4 < 4 then (gx_lt (gx_up σ_14 726 v4.toNatClampNeg (σ_14 725 v4.toNatClampNeg)) (fun σ_17 => fn_Mo_crash_L137 N u3 n (v4 + 1) σ_17)) else none) else none)) else none)
def fn_Mo_crash_L86 (N : Nat) (u3 : Int32) : Nat → Int32 → gx_M → Option (Int32 × gx_M)
  | 0, _, _ => none
  | n + 1, v4, σ => if (σ 722 9) ≤ v4 then (gx_bd (fn_Mo_wake N ((1 : Int32)) σ) (fun r_7 σ_5 => fn_Mo_crash_L137 N u3 N ((0 : Int32)) σ_5)) else (gx_bv (fn_Mo_set N v4 ((11 : Int32)) ((-1 : Int32)) σ) (fun σ_18 => gx_bd (fn_Mo_of N v4 ((9 : Int32)) σ_18) (fun r_22 σ_20 => if r_22 = ((2 : Int32)) then (gx_bv (fn_Mo_ready N v4 σ_20) (fun σ_24 => fn_Mo_crash_L86 N u3 n (v4 + 1) σ_24)) else (fn_Mo_crash_L86 N u3 n (v4 + 1) σ_20))))
def fn_Mo_crash_L39 (N : Nat) (u3 : Int32) (u2 : Int32) : Nat → Int32 → gx_M → Option (Int32 × gx_M)
  | 0, _, _ => none
  | n + 1, v4, σ => if ((520 : Int32)) ≤ v4 then (if 0 ≤ u2 ∧ u2 < 16 then (gx_lt (gx_up σ 722 9 (σ 731 u2.toNatClampNeg)) (fun σ_28 => fn_Mo_crash_L86 N u3 N ((0 : Int32)) σ_28)) else none) else (if 0 ≤ ((u2 * ((520 : Int32))) + v4) ∧ ((u2 * ((520 : Int32))) + v4) < 8320 then (if 0 ≤ v4 ∧ v4 < 520 then (gx_lt (gx_up σ 729 v4.toNatClampNeg (σ 730 ((u2 * ((520 : Int32))) + v4).toNatClampNeg)) (fun σ_31 => fn_Mo_crash_L39 N u3 u2 n (v4 + 1) σ_31)) else none) else none)
def fn_Mo_crash (N : Nat) (p0 : Int32) (σ : gx_M) : Option (Int32 × gx_M) := if 0 ≤ p0 then (if (σ 722 11) ≤ p0 then (if ((σ 722 11) - (σ 722 11)) ≤ 0 then (fn_Mo_crash_L86 N ((σ 722 11) - (σ 722 11)) N ((0 : Int32)) σ) else (fn_Mo_crash_L39 N ((σ 722 11) - (σ 722 11)) (σ 722 11) N ((0 : Int32)) σ)) else (if ((σ 722 11) - p0) ≤ 0 then (fn_Mo_crash_L86 N ((σ 722 11) - p0) N ((0 : Int32)) σ) else (fn_Mo_crash_L39 N ((σ 722 11) - p0) p0 N ((0 : Int32)) σ))) else (if ((σ 722 11) - ((0 : Int32))) ≤ 0 then (fn_Mo_crash_L86 N ((σ 722 11) - ((0 : Int32))) N ((0 : Int32)) σ) else (fn_Mo_crash_L39 N ((σ 722 11) - ((0 : Int32))) ((0 : Int32)) N ((0 : Int32)) σ))
set_option maxHeartbeats 4000000 in
set_option maxRecDepth 100000 in
theorem wl_Mo_crash_L137 {p : Program} {l : Launch} {e : Env} {s : State} {m : MethodId} {args : Array Value} {below : List Frame} {meth : Method} {c : Code} {D : va_G} {dA : Nat → ClassId} {adr : Nat → Nat} {A : Nat → Prop} (G : gx_G p m c b_Mo_crash 5 s args gx_tb R_Mo D dA) (hr : meth.sig.returnType = some .int) (hlocks : meth.locks = false) (hA : gx_A A adr) (N : Nat) (res : Int32 × gx_M) (u3 : Int32) : ∀ (n : Nat) (v4 : Int32) (σ : gx_M) (H : Heap) (locs : List Loc) (ls : Array Slot), fn_Mo_crash_L137 N u3 n v4 σ = some res → gx_I D dA adr A s.heap σ H locs → lv_has ls 5 [(4, .int v4), (3, .int u3), (0, .ref (adr 722))] → W p l e (headSpec w_Mo_crash rm_Mo_crash).room s m args below meth c H locs 0 0 (MQ below (gx_Q D dA adr A (some (.int res.1)) res.2) args s 0 0 A) (F0 m 137 ls []) := by
  obtain ⟨⟨hx, hb, hml, hown, ht⟩, hK⟩ := id G
  intro n
  induction n with
  | zero =>
    intro v4 σ H locs ls hf
    cases hf
  | succ n ih =>
    intro v4 σ H locs ls hf hI hl
    rw [fn_Mo_crash_L137] at hf
    refine lv_iload hx hb d_Mo_crash_137 (lv_at hl 0 rfl) ?_
    refine lv_iconst (v := 4) hx hb d_Mo_crash_139 (by decide) ?_
    refine lv_icmp_ge (tgt := 171) hx hb d_Mo_crash_140 (by decide) (fun c_8 => ?_) (fun c_8 => ?_)
    · replace hf := (if_pos c_8).symm.trans hf
      refine lv_aload_n hx hb d_Mo_crash_171 rfl (lv_at hl 2 rfl) ?_
      refine lv_iconst (v := (-1)) hx hb d_Mo_crash_172 (by decide) ?_
      obtain ⟨σ_9, eσ_9, hf⟩ := gx_lte hf
      refine gx_put G hI hA cl_Mo (by decide) 8 (by decide) (by decide) fl_Mo_32 rfl rfl rfl eσ_9 d_Mo_crash_173 (fun H locs hI => ?_)
      refine lv_aload_n hx hb d_Mo_crash_176 rfl (lv_at hl 2 rfl) ?_
      refine lv_iconst (v := 0) hx hb d_Mo_crash_177 (by decide) ?_
      obtain ⟨σ_10, eσ_10, hf⟩ := gx_lte hf
      refine gx_put G hI hA cl_Mo (by decide) 11 (by decide) (by decide) fl_Mo_41 rfl rfl rfl eσ_10 d_Mo_crash_178 (fun H locs hI => ?_)
      refine lv_aload_n hx hb d_Mo_crash_181 rfl (lv_at hl 2 rfl) ?_
      refine lv_iconst (v := 0) hx hb d_Mo_crash_182 (by decide) ?_
      obtain ⟨σ_11, hc_12, hf⟩ := gx_bve hf
      refine gx_go (va_runV (As := [.int ((0 : Int32))]) (rest := []) G.1 (ct_Mo_store l D dA adr A hA N ((0 : Int32)) σ_10 σ_11 hc_12) (cwV 1 ht gi_Mo_61 rfl rfl rfl (by decide +kernel) ⟨Nat.le_of_ble_eq_true rfl, Nat.le_of_ble_eq_true rfl⟩) (gx_preV G hI cl_Mo (by decide)) rfl rfl hl.1 rfl (lv_room (Nat.le_of_ble_eq_true rfl)) d_Mo_crash_183 ⟨Nat.zero_le _, Nat.zero_le _⟩) hI (st1 := []) rfl (fun H locs hI => ?_)
      refine lv_iload_n hx hb d_Mo_crash_186 rfl (lv_at hl 1 rfl) ?_
      cases hf
      exact W.iret hx hb hr (gx_F hI) hI.2.2.2 d_Mo_crash_187
    · replace hf := (if_neg c_8).symm.trans hf
      refine lv_aload_n hx hb d_Mo_crash_143 rfl (lv_at hl 2 rfl) ?_
      refine gx_getR (o' := 724) G hI cl_Mo (by decide) 3 (by decide) (by decide) fl_Mo_17 d_Mo_crash_144 ?_
      refine lv_iload hx hb d_Mo_crash_147 (lv_at hl 0 rfl) ?_
      refine lv_iconst (v := 0) hx hb d_Mo_crash_149 (by decide) ?_
      obtain ⟨hi_13, hf⟩ := gx_gd hf
      obtain ⟨σ_14, eσ_14, hf⟩ := gx_lte hf
      refine gx_ist G hI hA (by decide) (gx_in hi_13 (by decide)) eσ_14 d_Mo_crash_150 (fun H locs hI => ?_)
      refine lv_aload_n hx hb d_Mo_crash_151 rfl (lv_at hl 2 rfl) ?_
      refine gx_getR (o' := 726) G hI cl_Mo (by decide) 5 (by decide) (by decide) fl_Mo_23 d_Mo_crash_152 ?_
      refine lv_iload hx hb d_Mo_crash_155 (lv_at hl 0 rfl) ?_
      refine lv_aload_n hx hb d_Mo_crash_157 rfl (lv_at hl 2 rfl) ?_
      refine gx_getR (o' := 725) G hI cl_Mo (by decide) 4 (by decide) (by decide) fl_Mo_20 d_Mo_crash_158 ?_
      refine lv_iload hx hb d_Mo_crash_161 (lv_at hl 0 rfl) ?_
      obtain ⟨hi_15, hf⟩ := gx_gd hf
      refine gx_ild G hI (by decide) (gx_in hi_15 (by decide)) d_Mo_crash_163 ?_
      obtain ⟨hi_16, hf⟩ := gx_gd hf
      obtain ⟨σ_17, eσ_17, hf⟩ := gx_lte hf
      refine gx_ist G hI hA (by decide) (gx_in hi_16 (by decide)) eσ_17 d_Mo_crash_164 (fun H locs hI => ?_)
      refine lv_iinc (v := v4 + 1) (lv' := [(4, .int (v4 + 1)), (3, .int u3), (0, .ref (adr 722))]) hx hb d_Mo_crash_165 hl (k := 0) rfl rfl (by decide) rfl (fun ls hl => ?_)
      refine lv_goto (tgt := 137) hx hb d_Mo_crash_168 (by decide) ?_
      exact ih (v4 + 1) σ_17 H locs ls hf hI (lv_sub hl [0, 1, 2] rfl)
set_option maxHeartbeats 4000000 in
set_option maxRecDepth 100000 in
theorem wl_Mo_crash_L86 {p : Program} {l : Launch} {e : Env} {s : State} {m : MethodId} {args : Array Value} {below : List Frame} {meth : Method} {c : Code} {D : va_G} {dA : Nat → ClassId} {adr : Nat → Nat} {A : Nat → Prop} (G : gx_G p m c b_Mo_crash 5 s args gx_tb R_Mo D dA) (hr : meth.sig.returnType = some .int) (hlocks : meth.locks = false) (hA : gx_A A adr) (N : Nat) (res : Int32 × gx_M) (u3 : Int32) : ∀ (n : Nat) (v4 : Int32) (σ : gx_M) (H : Heap) (locs : List Loc) (ls : Array Slot), fn_Mo_crash_L86 N u3 n v4 σ = some res → gx_I D dA adr A s.heap σ H locs → lv_has ls 5 [(4, .int v4), (3, .int u3), (0, .ref (adr 722))] → W p l e (headSpec w_Mo_crash rm_Mo_crash).room s m args below meth c H locs 0 0 (MQ below (gx_Q D dA adr A (some (.int res.1)) res.2) args s 0 0 A) (F0 m 86 ls []) := by
  obtain ⟨⟨hx, hb, hml, hown, ht⟩, hK⟩ := id G
  intro n
  induction n with
  | zero =>
    intro v4 σ H locs ls hf
    cases hf
  | succ n ih =>
    intro v4 σ H locs ls hf hI hl
    rw [fn_Mo_crash_L86] at hf
    refine lv_iload hx hb d_Mo_crash_86 (lv_at hl 0 rfl) ?_
    refine lv_aload_n hx hb d_Mo_crash_88 rfl (lv_at hl 2 rfl) ?_
    refine gx_getI G hI cl_Mo (by decide) 9 (by decide) (by decide) fl_Mo_35 d_Mo_crash_89 ?_
    refine lv_icmp_ge (tgt := 128) hx hb d_Mo_crash_92 (by decide) (fun c_4 => ?_) (fun c_4 => ?_)
    · replace hf := (if_pos c_4).symm.trans hf
      refine lv_aload_n hx hb d_Mo_crash_128 rfl (lv_at hl 2 rfl) ?_
      refine lv_iconst (v := 1) hx hb d_Mo_crash_129 (by decide) ?_
      obtain ⟨r_7, σ_5, hc_6, hf⟩ := gx_bde hf
      refine gx_go (va_runV (As := [.int ((1 : Int32))]) (rest := []) G.1 (ct_Mo_wake l D dA adr A hA N ((1 : Int32)) σ r_7 σ_5 hc_6) (cwV 1 ht gi_Mo_121 rfl rfl rfl (by decide +kernel) ⟨Nat.le_of_ble_eq_true rfl, Nat.le_of_ble_eq_true rfl⟩) (gx_preV G hI cl_Mo (by decide)) rfl rfl hl.1 rfl (lv_room (Nat.le_of_ble_eq_true rfl)) d_Mo_crash_130 ⟨Nat.zero_le _, Nat.zero_le _⟩) hI (st1 := [.int r_7]) rfl (fun H locs hI => ?_)
      refine lv_pop hx hb d_Mo_crash_133 rfl ?_
      refine lv_iconst (v := 0) hx hb d_Mo_crash_134 (by decide) ?_
      refine lv_istore (i := 4) (lv' := [(4, .int ((0 : Int32))), (3, .int u3), (0, .ref (adr 722))]) hx hb d_Mo_crash_135 hl (by decide) rfl (fun ls hl => ?_)
      exact wl_Mo_crash_L137 G hr hlocks hA N _ u3 N ((0 : Int32)) σ_5 H locs ls hf hI (lv_sub hl [0, 1, 2] rfl)
    · replace hf := (if_neg c_4).symm.trans hf
      refine lv_aload_n hx hb d_Mo_crash_95 rfl (lv_at hl 2 rfl) ?_
      refine lv_iload hx hb d_Mo_crash_96 (lv_at hl 0 rfl) ?_
      refine lv_bipush (v := 11) hx hb d_Mo_crash_98 (by decide) ?_
      refine lv_iconst (v := (-1)) hx hb d_Mo_crash_100 (by decide) ?_
      obtain ⟨σ_18, hc_19, hf⟩ := gx_bve hf
      refine gx_go (va_runV (As := [.int v4, .int ((11 : Int32)), .int ((-1 : Int32))]) (rest := []) G.1 (ct_Mo_set l D dA adr A hA N v4 ((11 : Int32)) ((-1 : Int32)) σ σ_18 hc_19) (cwV 3 ht gi_Mo_69 rfl rfl rfl (by decide +kernel) ⟨Nat.le_of_ble_eq_true rfl, Nat.le_of_ble_eq_true rfl⟩) (gx_preV G hI cl_Mo (by decide)) rfl rfl hl.1 rfl (lv_room (Nat.le_of_ble_eq_true rfl)) d_Mo_crash_101 ⟨Nat.zero_le _, Nat.zero_le _⟩) hI (st1 := []) rfl (fun H locs hI => ?_)
      refine lv_aload_n hx hb d_Mo_crash_104 rfl (lv_at hl 2 rfl) ?_
      refine lv_iload hx hb d_Mo_crash_105 (lv_at hl 0 rfl) ?_
      refine lv_bipush (v := 9) hx hb d_Mo_crash_107 (by decide) ?_
      obtain ⟨r_22, σ_20, hc_21, hf⟩ := gx_bde hf
      refine gx_go (va_runV (As := [.int v4, .int ((9 : Int32))]) (rest := []) G.1 (ct_Mo_of l D dA adr A hA N v4 ((9 : Int32)) σ_18 r_22 σ_20 hc_21) (cwV 2 ht gi_Mo_65 rfl rfl rfl (by decide +kernel) ⟨Nat.le_of_ble_eq_true rfl, Nat.le_of_ble_eq_true rfl⟩) (gx_preV G hI cl_Mo (by decide)) rfl rfl hl.1 rfl (lv_room (Nat.le_of_ble_eq_true rfl)) d_Mo_crash_109 ⟨Nat.zero_le _, Nat.zero_le _⟩) hI (st1 := [.int r_22]) rfl (fun H locs hI => ?_)
      refine lv_iconst (v := 2) hx hb d_Mo_crash_112 (by decide) ?_
      refine lv_icmp_ne (tgt := 122) hx hb d_Mo_crash_113 (by decide) (fun c_23 => ?_) (fun c_23 => ?_)
      · replace hf := (if_neg c_23).symm.trans hf
        refine lv_iinc (v := v4 + 1) (lv' := [(4, .int (v4 + 1)), (3, .int u3), (0, .ref (adr 722))]) hx hb d_Mo_crash_122 hl (k := 0) rfl rfl (by decide) rfl (fun ls hl => ?_)
        refine lv_goto (tgt := 86) hx hb d_Mo_crash_125 (by decide) ?_
        exact ih (v4 + 1) σ_20 H locs ls hf hI (lv_sub hl [0, 1, 2] rfl)
      · replace hf := (if_pos c_23).symm.trans hf
        refine lv_aload_n hx hb d_Mo_crash_116 rfl (lv_at hl 2 rfl) ?_
        refine lv_iload hx hb d_Mo_crash_117 (lv_at hl 0 rfl) ?_
        obtain ⟨σ_24, hc_25, hf⟩ := gx_bve hf
        refine gx_go (va_runV (As := [.int v4]) (rest := []) G.1 (ct_Mo_ready l D dA adr A hA N v4 σ_20 σ_24 hc_25) (cwV 1 ht gi_Mo_91 rfl rfl rfl (by decide +kernel) ⟨Nat.le_of_ble_eq_true rfl, Nat.le_of_ble_eq_true rfl⟩) (gx_preV G hI cl_Mo (by decide)) rfl rfl hl.1 rfl (lv_room (Nat.le_of_ble_eq_true rfl)) d_Mo_crash_119 ⟨Nat.zero_le _, Nat.zero_le _⟩) hI (st1 := []) rfl (fun H locs hI => ?_)
        refine lv_iinc (v := v4 + 1) (lv' := [(4, .int (v4 + 1)), (3, .int u3), (0, .ref (adr 722))]) hx hb d_Mo_crash_122 hl (k := 0) rfl rfl (by decide) rfl (fun ls hl => ?_)
        refine lv_goto (tgt := 86) hx hb d_Mo_crash_125 (by decide) ?_
        exact ih (v4 + 1) σ_24 H locs ls hf hI (lv_sub hl [0, 1, 2] rfl)
set_option maxHeartbeats 4000000 in
set_option maxRecDepth 100000 in
theorem wl_Mo_crash_L39 {p : Program} {l : Launch} {e : Env} {s : State} {m : MethodId} {args : Array Value} {below : List Frame} {meth : Method} {c : Code} {D : va_G} {dA : Nat → ClassId} {adr : Nat → Nat} {A : Nat → Prop} (G : gx_G p m c b_Mo_crash 5 s args gx_tb R_Mo D dA) (hr : meth.sig.returnType = some .int) (hlocks : meth.locks = false) (hA : gx_A A adr) (N : Nat) (res : Int32 × gx_M) (u3 : Int32) (u2 : Int32) : ∀ (n : Nat) (v4 : Int32) (σ : gx_M) (H : Heap) (locs : List Loc) (ls : Array Slot), fn_Mo_crash_L39 N u3 u2 n v4 σ = some res → gx_I D dA adr A s.heap σ H locs → lv_has ls 5 [(4, .int v4), (3, .int u3), (2, .int u2), (0, .ref (adr 722))] → W p l e (headSpec w_Mo_crash rm_Mo_crash).room s m args below meth c H locs 0 0 (MQ below (gx_Q D dA adr A (some (.int res.1)) res.2) args s 0 0 A) (F0 m 39 ls []) := by
  obtain ⟨⟨hx, hb, hml, hown, ht⟩, hK⟩ := id G
  intro n
  induction n with
  | zero =>
    intro v4 σ H locs ls hf
    cases hf
  | succ n ih =>
    intro v4 σ H locs ls hf hI hl
    rw [fn_Mo_crash_L39] at hf
    refine lv_iload hx hb d_Mo_crash_39 (lv_at hl 0 rfl) ?_
    refine lv_sipush (v := 520) hx hb d_Mo_crash_41 (by decide) ?_
    refine lv_icmp_ge (tgt := 73) hx hb d_Mo_crash_44 (by decide) (fun c_26 => ?_) (fun c_26 => ?_)
    · replace hf := (if_pos c_26).symm.trans hf
      refine lv_aload_n hx hb d_Mo_crash_73 rfl (lv_at hl 3 rfl) ?_
      refine lv_aload_n hx hb d_Mo_crash_74 rfl (lv_at hl 3 rfl) ?_
      refine gx_getR (o' := 731) G hI cl_Mo (by decide) 14 (by decide) (by decide) fl_Mo_50 d_Mo_crash_75 ?_
      refine lv_iload_n hx hb d_Mo_crash_78 rfl (lv_at hl 2 rfl) ?_
      obtain ⟨hi_27, hf⟩ := gx_gd hf
      refine gx_ild G hI (by decide) (gx_in hi_27 (by decide)) d_Mo_crash_79 ?_
      obtain ⟨σ_28, eσ_28, hf⟩ := gx_lte hf
      refine gx_put G hI hA cl_Mo (by decide) 9 (by decide) (by decide) fl_Mo_35 rfl rfl rfl eσ_28 d_Mo_crash_80 (fun H locs hI => ?_)
      refine lv_iconst (v := 0) hx hb d_Mo_crash_83 (by decide) ?_
      refine lv_istore (i := 4) (lv' := [(4, .int ((0 : Int32))), (3, .int u3), (2, .int u2), (0, .ref (adr 722))]) hx hb d_Mo_crash_84 hl (by decide) rfl (fun ls hl => ?_)
      exact wl_Mo_crash_L86 G hr hlocks hA N _ u3 N ((0 : Int32)) σ_28 H locs ls hf hI (lv_sub hl [0, 1, 3] rfl)
    · replace hf := (if_neg c_26).symm.trans hf
      refine lv_aload_n hx hb d_Mo_crash_47 rfl (lv_at hl 3 rfl) ?_
      refine gx_getR (o' := 729) G hI cl_Mo (by decide) 12 (by decide) (by decide) fl_Mo_44 d_Mo_crash_48 ?_
      refine lv_iload hx hb d_Mo_crash_51 (lv_at hl 0 rfl) ?_
      refine lv_aload_n hx hb d_Mo_crash_53 rfl (lv_at hl 3 rfl) ?_
      refine gx_getR (o' := 730) G hI cl_Mo (by decide) 13 (by decide) (by decide) fl_Mo_47 d_Mo_crash_54 ?_
      refine lv_iload_n hx hb d_Mo_crash_57 rfl (lv_at hl 2 rfl) ?_
      refine lv_sipush (v := 520) hx hb d_Mo_crash_58 (by decide) ?_
      refine lv_imul hx hb d_Mo_crash_61 ?_
      refine lv_iload hx hb d_Mo_crash_62 (lv_at hl 0 rfl) ?_
      refine lv_iadd hx hb d_Mo_crash_64 ?_
      obtain ⟨hi_29, hf⟩ := gx_gd hf
      refine gx_ild G hI (by decide) (gx_in hi_29 (by decide)) d_Mo_crash_65 ?_
      obtain ⟨hi_30, hf⟩ := gx_gd hf
      obtain ⟨σ_31, eσ_31, hf⟩ := gx_lte hf
      refine gx_ist G hI hA (by decide) (gx_in hi_30 (by decide)) eσ_31 d_Mo_crash_66 (fun H locs hI => ?_)
      refine lv_iinc (v := v4 + 1) (lv' := [(4, .int (v4 + 1)), (3, .int u3), (2, .int u2), (0, .ref (adr 722))]) hx hb d_Mo_crash_67 hl (k := 0) rfl rfl (by decide) rfl (fun ls hl => ?_)
      refine lv_goto (tgt := 39) hx hb d_Mo_crash_70 (by decide) ?_
      exact ih (v4 + 1) σ_31 H locs ls hf hI (lv_sub hl [0, 1, 2, 3] rfl)
set_option maxHeartbeats 4000000 in
set_option maxRecDepth 100000 in
theorem ct_Mo_crash (l : Launch) (D : va_G) (dA : Nat → ClassId) (adr : Nat → Nat) (A : Nat → Prop) (hA : gx_A A adr) (N : Nat) (p0 : Int32) (σ : gx_M) (r : Int32) (σ' : gx_M) (hf : fn_Mo_crash N p0 σ = some (r, σ')) : Met l y_Mo_crash w_Mo_crash rm_Mo_crash (gx_Pc D dA adr σ [.ref (adr 722), .int p0]) (gx_Q D dA adr A (some (.int r)) σ') 0 0 A := by
  refine Met.ofW (cc := b_Mo_crash) (maxL := 5) (ret := some .int) (by decide) rfl ?_
  intro p e s m args below meth c s₁ B hml hv
  obtain ⟨rfl, hP, hK⟩ := hv
  have hx := B.exec
  have hb := B.bytes
  have hr := B.returns
  have hlocks := B.notSynchronized
  have ht : ∀ w ∈ gx_tb, w.before _ s = true := fun w h => atoms_spec (ws := w_Mo_crash) B.pre w (List.mem_cons_of_mem _ h)
  have hown : s.vm.findClass R_Mo = some m.cls := findClass_of_methodNamed B.named
  have G : gx_G p m c b_Mo_crash 5 s _ gx_tb R_Mo D dA := ⟨⟨hx, hb, hml, hown, ht⟩, hK⟩
  have hI : gx_I D dA adr A s.heap σ s.heap [] := ⟨hP, va_S.rf⟩
  have hl := lv_entry ([.ref (adr 722), .int p0]) (n := 5) (Nat.le_of_ble_eq_true rfl)
  rw [lg_entry_eq]
  generalize (lg_sl ([.ref (adr 722), .int p0]) ++ List.replicate (5 - (lg_sl ([.ref (adr 722), .int p0])).length) Slot.unset).toArray = ls at hl ⊢
  have hl : lv_has ls 5 [(0, .ref (adr 722)), (1, .int p0)] := hl
  rw [fn_Mo_crash] at hf
  refine lv_iload_n hx hb d_Mo_crash_0 rfl (lv_at hl 1 rfl) ?_
  refine lv_if_ge (tgt := 8) hx hb d_Mo_crash_1 (by decide) (fun c_1 => ?_) (fun c_1 => ?_)
  · replace hf := (if_pos c_1).symm.trans hf
    refine lv_iload_n hx hb d_Mo_crash_8 rfl (lv_at hl 1 rfl) ?_
    refine lv_aload_n hx hb d_Mo_crash_9 rfl (lv_at hl 0 rfl) ?_
    refine gx_getI G hI cl_Mo (by decide) 11 (by decide) (by decide) fl_Mo_41 d_Mo_crash_10 ?_
    refine lv_icmp_ge (tgt := 20) hx hb d_Mo_crash_13 (by decide) (fun c_2 => ?_) (fun c_2 => ?_)
    · replace hf := (if_pos c_2).symm.trans hf
      refine lv_aload_n hx hb d_Mo_crash_20 rfl (lv_at hl 0 rfl) ?_
      refine gx_getI G hI cl_Mo (by decide) 11 (by decide) (by decide) fl_Mo_41 d_Mo_crash_21 ?_
      refine lv_istore_n (i := 2) (lv' := [(2, .int (σ 722 11)), (0, .ref (adr 722)), (1, .int p0)]) hx hb d_Mo_crash_24 rfl hl (by decide) rfl (fun ls hl => ?_)
      refine lv_aload_n hx hb d_Mo_crash_25 rfl (lv_at hl 1 rfl) ?_
      refine gx_getI G hI cl_Mo (by decide) 11 (by decide) (by decide) fl_Mo_41 d_Mo_crash_26 ?_
      refine lv_iload_n hx hb d_Mo_crash_29 rfl (lv_at hl 0 rfl) ?_
      refine lv_isub hx hb d_Mo_crash_30 ?_
      refine lv_istore_n (i := 3) (lv' := [(3, .int ((σ 722 11) - (σ 722 11))), (2, .int (σ 722 11)), (0, .ref (adr 722)), (1, .int p0)]) hx hb d_Mo_crash_31 rfl hl (by decide) rfl (fun ls hl => ?_)
      refine lv_iload_n hx hb d_Mo_crash_32 rfl (lv_at hl 0 rfl) ?_
      refine lv_if_le (tgt := 83) hx hb d_Mo_crash_33 (by decide) (fun c_3 => ?_) (fun c_3 => ?_)
      · replace hf := (if_pos c_3).symm.trans hf
        refine lv_iconst (v := 0) hx hb d_Mo_crash_83 (by decide) ?_
        refine lv_istore (i := 4) (lv' := [(4, .int ((0 : Int32))), (3, .int ((σ 722 11) - (σ 722 11))), (2, .int (σ 722 11)), (0, .ref (adr 722)), (1, .int p0)]) hx hb d_Mo_crash_84 hl (by decide) rfl (fun ls hl => ?_)
        exact wl_Mo_crash_L86 G hr hlocks hA N _ ((σ 722 11) - (σ 722 11)) N ((0 : Int32)) σ _ _ ls hf hI (lv_sub hl [0, 1, 3] rfl)
      · replace hf := (if_neg c_3).symm.trans hf
        refine lv_iconst (v := 0) hx hb d_Mo_crash_36 (by decide) ?_
        refine lv_istore (i := 4) (lv' := [(4, .int ((0 : Int32))), (3, .int ((σ 722 11) - (σ 722 11))), (2, .int (σ 722 11)), (0, .ref (adr 722)), (1, .int p0)]) hx hb d_Mo_crash_37 hl (by decide) rfl (fun ls hl => ?_)
        exact wl_Mo_crash_L39 G hr hlocks hA N _ ((σ 722 11) - (σ 722 11)) (σ 722 11) N ((0 : Int32)) σ _ _ ls hf hI (lv_sub hl [0, 1, 2, 3] rfl)
    · replace hf := (if_neg c_2).symm.trans hf
      refine lv_iload_n hx hb d_Mo_crash_16 rfl (lv_at hl 1 rfl) ?_
      refine lv_goto (tgt := 24) hx hb d_Mo_crash_17 (by decide) ?_
      refine lv_istore_n (i := 2) (lv' := [(2, .int p0), (0, .ref (adr 722)), (1, .int p0)]) hx hb d_Mo_crash_24 rfl hl (by decide) rfl (fun ls hl => ?_)
      refine lv_aload_n hx hb d_Mo_crash_25 rfl (lv_at hl 1 rfl) ?_
      refine gx_getI G hI cl_Mo (by decide) 11 (by decide) (by decide) fl_Mo_41 d_Mo_crash_26 ?_
      refine lv_iload_n hx hb d_Mo_crash_29 rfl (lv_at hl 0 rfl) ?_
      refine lv_isub hx hb d_Mo_crash_30 ?_
      refine lv_istore_n (i := 3) (lv' := [(3, .int ((σ 722 11) - p0)), (2, .int p0), (0, .ref (adr 722)), (1, .int p0)]) hx hb d_Mo_crash_31 rfl hl (by decide) rfl (fun ls hl => ?_)
      refine lv_iload_n hx hb d_Mo_crash_32 rfl (lv_at hl 0 rfl) ?_
      refine lv_if_le (tgt := 83) hx hb d_Mo_crash_33 (by decide) (fun c_32 => ?_) (fun c_32 => ?_)
      · replace hf := (if_pos c_32).symm.trans hf
        refine lv_iconst (v := 0) hx hb d_Mo_crash_83 (by decide) ?_
        refine lv_istore (i := 4) (lv' := [(4, .int ((0 : Int32))), (3, .int ((σ 722 11) - p0)), (2, .int p0), (0, .ref (adr 722)), (1, .int p0)]) hx hb d_Mo_crash_84 hl (by decide) rfl (fun ls hl => ?_)
        exact wl_Mo_crash_L86 G hr hlocks hA N _ ((σ 722 11) - p0) N ((0 : Int32)) σ _ _ ls hf hI (lv_sub hl [0, 1, 3] rfl)
      · replace hf := (if_neg c_32).symm.trans hf
        refine lv_iconst (v := 0) hx hb d_Mo_crash_36 (by decide) ?_
        refine lv_istore (i := 4) (lv' := [(4, .int ((0 : Int32))), (3, .int ((σ 722 11) - p0)), (2, .int p0), (0, .ref (adr 722)), (1, .int p0)]) hx hb d_Mo_crash_37 hl (by decide) rfl (fun ls hl => ?_)
        exact wl_Mo_crash_L39 G hr hlocks hA N _ ((σ 722 11) - p0) p0 N ((0 : Int32)) σ _ _ ls hf hI (lv_sub hl [0, 1, 2, 3] rfl)
  · replace hf := (if_neg c_1).symm.trans hf
    refine lv_iconst (v := 0) hx hb d_Mo_crash_4 (by decide) ?_
    refine lv_goto (tgt := 24) hx hb d_Mo_crash_5 (by decide) ?_
    refine lv_istore_n (i := 2) (lv' := [(2, .int ((0 : Int32))), (0, .ref (adr 722)), (1, .int p0)]) hx hb d_Mo_crash_24 rfl hl (by decide) rfl (fun ls hl => ?_)
    refine lv_aload_n hx hb d_Mo_crash_25 rfl (lv_at hl 1 rfl) ?_
    refine gx_getI G hI cl_Mo (by decide) 11 (by decide) (by decide) fl_Mo_41 d_Mo_crash_26 ?_
    refine lv_iload_n hx hb d_Mo_crash_29 rfl (lv_at hl 0 rfl) ?_
    refine lv_isub hx hb d_Mo_crash_30 ?_
    refine lv_istore_n (i := 3) (lv' := [(3, .int ((σ 722 11) - ((0 : Int32)))), (2, .int ((0 : Int32))), (0, .ref (adr 722)), (1, .int p0)]) hx hb d_Mo_crash_31 rfl hl (by decide) rfl (fun ls hl => ?_)
    refine lv_iload_n hx hb d_Mo_crash_32 rfl (lv_at hl 0 rfl) ?_
    refine lv_if_le (tgt := 83) hx hb d_Mo_crash_33 (by decide) (fun c_33 => ?_) (fun c_33 => ?_)
    · replace hf := (if_pos c_33).symm.trans hf
      refine lv_iconst (v := 0) hx hb d_Mo_crash_83 (by decide) ?_
      refine lv_istore (i := 4) (lv' := [(4, .int ((0 : Int32))), (3, .int ((σ 722 11) - ((0 : Int32)))), (2, .int ((0 : Int32))), (0, .ref (adr 722)), (1, .int p0)]) hx hb d_Mo_crash_84 hl (by decide) rfl (fun ls hl => ?_)
      exact wl_Mo_crash_L86 G hr hlocks hA N _ ((σ 722 11) - ((0 : Int32))) N ((0 : Int32)) σ _ _ ls hf hI (lv_sub hl [0, 1, 3] rfl)
    · replace hf := (if_neg c_33).symm.trans hf
      refine lv_iconst (v := 0) hx hb d_Mo_crash_36 (by decide) ?_
      refine lv_istore (i := 4) (lv' := [(4, .int ((0 : Int32))), (3, .int ((σ 722 11) - ((0 : Int32)))), (2, .int ((0 : Int32))), (0, .ref (adr 722)), (1, .int p0)]) hx hb d_Mo_crash_37 hl (by decide) rfl (fun ls hl => ?_)
      exact wl_Mo_crash_L39 G hr hlocks hA N _ ((σ 722 11) - ((0 : Int32))) ((0 : Int32)) N ((0 : Int32)) σ _ _ ls hf hI (lv_sub hl [0, 1, 2, 3] rfl)
def fn_Mo_state (N : Nat) (p0 : Int32) (σ : gx_M) : Option (Int32 × gx_M) := gx_bd (fn_Mo_no N p0 σ) (fun r_3 σ_1 => if r_3 = 0 then (gx_bd (fn_Mo_of N p0 ((9 : Int32)) σ_1) (fun r_7 σ_5 => some (r_7, σ_5))) else (some ((-1 : Int32), σ_1)))
set_option maxHeartbeats 4000000 in
set_option maxRecDepth 100000 in
theorem ct_Mo_state (l : Launch) (D : va_G) (dA : Nat → ClassId) (adr : Nat → Nat) (A : Nat → Prop) (hA : gx_A A adr) (N : Nat) (p0 : Int32) (σ : gx_M) (r : Int32) (σ' : gx_M) (hf : fn_Mo_state N p0 σ = some (r, σ')) : Met l y_Mo_state w_Mo_state rm_Mo_state (gx_Pc D dA adr σ [.ref (adr 722), .int p0]) (gx_Q D dA adr A (some (.int r)) σ') 0 0 A := by
  refine Met.ofW (cc := b_Mo_state) (maxL := 2) (ret := some .int) (by decide) rfl ?_
  intro p e s m args below meth c s₁ B hml hv
  obtain ⟨rfl, hP, hK⟩ := hv
  have hx := B.exec
  have hb := B.bytes
  have hr := B.returns
  have hlocks := B.notSynchronized
  have ht : ∀ w ∈ gx_tb, w.before _ s = true := fun w h => atoms_spec (ws := w_Mo_state) B.pre w (List.mem_cons_of_mem _ h)
  have hown : s.vm.findClass R_Mo = some m.cls := findClass_of_methodNamed B.named
  have G : gx_G p m c b_Mo_state 2 s _ gx_tb R_Mo D dA := ⟨⟨hx, hb, hml, hown, ht⟩, hK⟩
  have hI : gx_I D dA adr A s.heap σ s.heap [] := ⟨hP, va_S.rf⟩
  have hl := lv_entry ([.ref (adr 722), .int p0]) (n := 2) (Nat.le_of_ble_eq_true rfl)
  rw [lg_entry_eq]
  generalize (lg_sl ([.ref (adr 722), .int p0]) ++ List.replicate (2 - (lg_sl ([.ref (adr 722), .int p0])).length) Slot.unset).toArray = ls at hl ⊢
  have hl : lv_has ls 2 [(0, .ref (adr 722)), (1, .int p0)] := hl
  rw [fn_Mo_state] at hf
  refine lv_aload_n hx hb d_Mo_state_0 rfl (lv_at hl 0 rfl) ?_
  refine lv_iload_n hx hb d_Mo_state_1 rfl (lv_at hl 1 rfl) ?_
  obtain ⟨r_3, σ_1, hc_2, hf⟩ := gx_bde hf
  refine gx_go (va_runV (As := [.int p0]) (rest := []) G.1 (ct_Mo_no l D dA adr A hA N p0 σ r_3 σ_1 hc_2) (cwV 1 ht gi_Mo_97 rfl rfl rfl (by decide +kernel) ⟨Nat.le_of_ble_eq_true rfl, Nat.le_of_ble_eq_true rfl⟩) (gx_preV G hI cl_Mo (by decide)) rfl rfl hl.1 rfl (lv_room (Nat.le_of_ble_eq_true rfl)) d_Mo_state_2 ⟨Nat.zero_le _, Nat.zero_le _⟩) hI (st1 := [.int r_3]) rfl (fun H locs hI => ?_)
  refine lv_if_eq (tgt := 12) hx hb d_Mo_state_5 (by decide) (fun c_4 => ?_) (fun c_4 => ?_)
  · replace hf := (if_pos c_4).symm.trans hf
    refine lv_aload_n hx hb d_Mo_state_12 rfl (lv_at hl 0 rfl) ?_
    refine lv_iload_n hx hb d_Mo_state_13 rfl (lv_at hl 1 rfl) ?_
    refine lv_bipush (v := 9) hx hb d_Mo_state_14 (by decide) ?_
    obtain ⟨r_7, σ_5, hc_6, hf⟩ := gx_bde hf
    refine gx_go (va_runV (As := [.int p0, .int ((9 : Int32))]) (rest := []) G.1 (ct_Mo_of l D dA adr A hA N p0 ((9 : Int32)) σ_1 r_7 σ_5 hc_6) (cwV 2 ht gi_Mo_65 rfl rfl rfl (by decide +kernel) ⟨Nat.le_of_ble_eq_true rfl, Nat.le_of_ble_eq_true rfl⟩) (gx_preV G hI cl_Mo (by decide)) rfl rfl hl.1 rfl (lv_room (Nat.le_of_ble_eq_true rfl)) d_Mo_state_16 ⟨Nat.zero_le _, Nat.zero_le _⟩) hI (st1 := [.int r_7]) rfl (fun H locs hI => ?_)
    cases hf
    exact W.iret hx hb hr (gx_F hI) hI.2.2.2 d_Mo_state_19
  · replace hf := (if_neg c_4).symm.trans hf
    refine lv_iconst (v := (-1)) hx hb d_Mo_state_8 (by decide) ?_
    refine lv_goto (tgt := 19) hx hb d_Mo_state_9 (by decide) ?_
    cases hf
    exact W.iret hx hb hr (gx_F hI) hI.2.2.2 d_Mo_state_19
def fn_Mo_failures (N : Nat) (p0 : Int32) (σ : gx_M) : Option (Int32 × gx_M) := gx_bd (fn_Mo_no N p0 σ) (fun r_3 σ_1 => if r_3 = 0 then (gx_bd (fn_Mo_of N p0 ((4 : Int32)) σ_1) (fun r_7 σ_5 => some (r_7, σ_5))) else (some ((-1 : Int32), σ_1)))
set_option maxHeartbeats 4000000 in
set_option maxRecDepth 100000 in
theorem ct_Mo_failures (l : Launch) (D : va_G) (dA : Nat → ClassId) (adr : Nat → Nat) (A : Nat → Prop) (hA : gx_A A adr) (N : Nat) (p0 : Int32) (σ : gx_M) (r : Int32) (σ' : gx_M) (hf : fn_Mo_failures N p0 σ = some (r, σ')) : Met l y_Mo_failures w_Mo_failures rm_Mo_failures (gx_Pc D dA adr σ [.ref (adr 722), .int p0]) (gx_Q D dA adr A (some (.int r)) σ') 0 0 A := by
  refine Met.ofW (cc := b_Mo_failures) (maxL := 2) (ret := some .int) (by decide) rfl ?_
  intro p e s m args below meth c s₁ B hml hv
  obtain ⟨rfl, hP, hK⟩ := hv
  have hx := B.exec
  have hb := B.bytes
  have hr := B.returns
  have hlocks := B.notSynchronized
  have ht : ∀ w ∈ gx_tb, w.before _ s = true := fun w h => atoms_spec (ws := w_Mo_failures) B.pre w (List.mem_cons_of_mem _ h)
  have hown : s.vm.findClass R_Mo = some m.cls := findClass_of_methodNamed B.named
  have G : gx_G p m c b_Mo_failures 2 s _ gx_tb R_Mo D dA := ⟨⟨hx, hb, hml, hown, ht⟩, hK⟩
  have hI : gx_I D dA adr A s.heap σ s.heap [] := ⟨hP, va_S.rf⟩
  have hl := lv_entry ([.ref (adr 722), .int p0]) (n := 2) (Nat.le_of_ble_eq_true rfl)
  rw [lg_entry_eq]
  generalize (lg_sl ([.ref (adr 722), .int p0]) ++ List.replicate (2 - (lg_sl ([.ref (adr 722), .int p0])).length) Slot.unset).toArray = ls at hl ⊢
  have hl : lv_has ls 2 [(0, .ref (adr 722)), (1, .int p0)] := hl
  rw [fn_Mo_failures] at hf
  refine lv_aload_n hx hb d_Mo_failures_0 rfl (lv_at hl 0 rfl) ?_
  refine lv_iload_n hx hb d_Mo_failures_1 rfl (lv_at hl 1 rfl) ?_
  obtain ⟨r_3, σ_1, hc_2, hf⟩ := gx_bde hf
  refine gx_go (va_runV (As := [.int p0]) (rest := []) G.1 (ct_Mo_no l D dA adr A hA N p0 σ r_3 σ_1 hc_2) (cwV 1 ht gi_Mo_97 rfl rfl rfl (by decide +kernel) ⟨Nat.le_of_ble_eq_true rfl, Nat.le_of_ble_eq_true rfl⟩) (gx_preV G hI cl_Mo (by decide)) rfl rfl hl.1 rfl (lv_room (Nat.le_of_ble_eq_true rfl)) d_Mo_failures_2 ⟨Nat.zero_le _, Nat.zero_le _⟩) hI (st1 := [.int r_3]) rfl (fun H locs hI => ?_)
  refine lv_if_eq (tgt := 12) hx hb d_Mo_failures_5 (by decide) (fun c_4 => ?_) (fun c_4 => ?_)
  · replace hf := (if_pos c_4).symm.trans hf
    refine lv_aload_n hx hb d_Mo_failures_12 rfl (lv_at hl 0 rfl) ?_
    refine lv_iload_n hx hb d_Mo_failures_13 rfl (lv_at hl 1 rfl) ?_
    refine lv_iconst (v := 4) hx hb d_Mo_failures_14 (by decide) ?_
    obtain ⟨r_7, σ_5, hc_6, hf⟩ := gx_bde hf
    refine gx_go (va_runV (As := [.int p0, .int ((4 : Int32))]) (rest := []) G.1 (ct_Mo_of l D dA adr A hA N p0 ((4 : Int32)) σ_1 r_7 σ_5 hc_6) (cwV 2 ht gi_Mo_65 rfl rfl rfl (by decide +kernel) ⟨Nat.le_of_ble_eq_true rfl, Nat.le_of_ble_eq_true rfl⟩) (gx_preV G hI cl_Mo (by decide)) rfl rfl hl.1 rfl (lv_room (Nat.le_of_ble_eq_true rfl)) d_Mo_failures_15 ⟨Nat.zero_le _, Nat.zero_le _⟩) hI (st1 := [.int r_7]) rfl (fun H locs hI => ?_)
    cases hf
    exact W.iret hx hb hr (gx_F hI) hI.2.2.2 d_Mo_failures_18
  · replace hf := (if_neg c_4).symm.trans hf
    refine lv_iconst (v := (-1)) hx hb d_Mo_failures_8 (by decide) ?_
    refine lv_goto (tgt := 18) hx hb d_Mo_failures_9 (by decide) ?_
    cases hf
    exact W.iret hx hb hr (gx_F hI) hI.2.2.2 d_Mo_failures_18
def fn_Mo_due (N : Nat) (p0 : Int32) (σ : gx_M) : Option (Int32 × gx_M) := gx_bd (fn_Mo_no N p0 σ) (fun r_3 σ_1 => if r_3 = 0 then (gx_bd (fn_Mo_of N p0 ((9 : Int32)) σ_1) (fun r_7 σ_5 => if r_7 = 0 then (gx_bd (fn_Mo_of N p0 ((10 : Int32)) σ_5) (fun r_11 σ_9 => some (r_11, σ_9))) else (if r_7 = ((2 : Int32)) then (gx_bd (fn_Mo_of N p0 ((10 : Int32)) σ_5) (fun r_15 σ_13 => some (r_15, σ_13))) else (if r_7 = ((3 : Int32)) then (gx_bd (fn_Mo_of N p0 ((10 : Int32)) σ_5) (fun r_23 σ_21 => some (r_23, σ_21))) else (if r_7 = ((6 : Int32)) then (gx_bd (fn_Mo_of N p0 ((7 : Int32)) σ_5) (fun r_20 σ_18 => some (r_20, σ_18))) else (some ((-4 : Int32), σ_5))))))) else (some ((-1 : Int32), σ_1)))
set_option maxHeartbeats 4000000 in
set_option maxRecDepth 100000 in
theorem ct_Mo_due (l : Launch) (D : va_G) (dA : Nat → ClassId) (adr : Nat → Nat) (A : Nat → Prop) (hA : gx_A A adr) (N : Nat) (p0 : Int32) (σ : gx_M) (r : Int32) (σ' : gx_M) (hf : fn_Mo_due N p0 σ = some (r, σ')) : Met l y_Mo_due w_Mo_due rm_Mo_due (gx_Pc D dA adr σ [.ref (adr 722), .int p0]) (gx_Q D dA adr A (some (.int r)) σ') 0 0 A := by
  refine Met.ofW (cc := b_Mo_due) (maxL := 3) (ret := some .int) (by decide) rfl ?_
  intro p e s m args below meth c s₁ B hml hv
  obtain ⟨rfl, hP, hK⟩ := hv
  have hx := B.exec
  have hb := B.bytes
  have hr := B.returns
  have hlocks := B.notSynchronized
  have ht : ∀ w ∈ gx_tb, w.before _ s = true := fun w h => atoms_spec (ws := w_Mo_due) B.pre w (List.mem_cons_of_mem _ h)
  have hown : s.vm.findClass R_Mo = some m.cls := findClass_of_methodNamed B.named
  have G : gx_G p m c b_Mo_due 3 s _ gx_tb R_Mo D dA := ⟨⟨hx, hb, hml, hown, ht⟩, hK⟩
  have hI : gx_I D dA adr A s.heap σ s.heap [] := ⟨hP, va_S.rf⟩
  have hl := lv_entry ([.ref (adr 722), .int p0]) (n := 3) (Nat.le_of_ble_eq_true rfl)
  rw [lg_entry_eq]
  generalize (lg_sl ([.ref (adr 722), .int p0]) ++ List.replicate (3 - (lg_sl ([.ref (adr 722), .int p0])).length) Slot.unset).toArray = ls at hl ⊢
  have hl : lv_has ls 3 [(0, .ref (adr 722)), (1, .int p0)] := hl
  rw [fn_Mo_due] at hf
  refine lv_aload_n hx hb d_Mo_due_0 rfl (lv_at hl 0 rfl) ?_
  refine lv_iload_n hx hb d_Mo_due_1 rfl (lv_at hl 1 rfl) ?_
  obtain ⟨r_3, σ_1, hc_2, hf⟩ := gx_bde hf
  refine gx_go (va_runV (As := [.int p0]) (rest := []) G.1 (ct_Mo_no l D dA adr A hA N p0 σ r_3 σ_1 hc_2) (cwV 1 ht gi_Mo_97 rfl rfl rfl (by decide +kernel) ⟨Nat.le_of_ble_eq_true rfl, Nat.le_of_ble_eq_true rfl⟩) (gx_preV G hI cl_Mo (by decide)) rfl rfl hl.1 rfl (lv_room (Nat.le_of_ble_eq_true rfl)) d_Mo_due_2 ⟨Nat.zero_le _, Nat.zero_le _⟩) hI (st1 := [.int r_3]) rfl (fun H locs hI => ?_)
  refine lv_if_eq (tgt := 10) hx hb d_Mo_due_5 (by decide) (fun c_4 => ?_) (fun c_4 => ?_)
  · replace hf := (if_pos c_4).symm.trans hf
    refine lv_aload_n hx hb d_Mo_due_10 rfl (lv_at hl 0 rfl) ?_
    refine lv_iload_n hx hb d_Mo_due_11 rfl (lv_at hl 1 rfl) ?_
    refine lv_bipush (v := 9) hx hb d_Mo_due_12 (by decide) ?_
    obtain ⟨r_7, σ_5, hc_6, hf⟩ := gx_bde hf
    refine gx_go (va_runV (As := [.int p0, .int ((9 : Int32))]) (rest := []) G.1 (ct_Mo_of l D dA adr A hA N p0 ((9 : Int32)) σ_1 r_7 σ_5 hc_6) (cwV 2 ht gi_Mo_65 rfl rfl rfl (by decide +kernel) ⟨Nat.le_of_ble_eq_true rfl, Nat.le_of_ble_eq_true rfl⟩) (gx_preV G hI cl_Mo (by decide)) rfl rfl hl.1 rfl (lv_room (Nat.le_of_ble_eq_true rfl)) d_Mo_due_14 ⟨Nat.zero_le _, Nat.zero_le _⟩) hI (st1 := [.int r_7]) rfl (fun H locs hI => ?_)
    refine lv_istore_n (i := 2) (lv' := [(2, .int r_7), (0, .ref (adr 722)), (1, .int p0)]) hx hb d_Mo_due_17 rfl hl (by decide) rfl (fun ls hl => ?_)
    refine lv_iload_n hx hb d_Mo_due_18 rfl (lv_at hl 0 rfl) ?_
    refine lv_if_eq (tgt := 32) hx hb d_Mo_due_19 (by decide) (fun c_8 => ?_) (fun c_8 => ?_)
    · replace hf := (if_pos c_8).symm.trans hf
      refine lv_aload_n hx hb d_Mo_due_32 rfl (lv_at hl 1 rfl) ?_
      refine lv_iload_n hx hb d_Mo_due_33 rfl (lv_at hl 2 rfl) ?_
      refine lv_bipush (v := 10) hx hb d_Mo_due_34 (by decide) ?_
      obtain ⟨r_11, σ_9, hc_10, hf⟩ := gx_bde hf
      refine gx_go (va_runV (As := [.int p0, .int ((10 : Int32))]) (rest := []) G.1 (ct_Mo_of l D dA adr A hA N p0 ((10 : Int32)) σ_5 r_11 σ_9 hc_10) (cwV 2 ht gi_Mo_65 rfl rfl rfl (by decide +kernel) ⟨Nat.le_of_ble_eq_true rfl, Nat.le_of_ble_eq_true rfl⟩) (gx_preV G hI cl_Mo (by decide)) rfl rfl hl.1 rfl (lv_room (Nat.le_of_ble_eq_true rfl)) d_Mo_due_36 ⟨Nat.zero_le _, Nat.zero_le _⟩) hI (st1 := [.int r_11]) rfl (fun H locs hI => ?_)
      refine lv_goto (tgt := 60) hx hb d_Mo_due_39 (by decide) ?_
      cases hf
      exact W.iret hx hb hr (gx_F hI) hI.2.2.2 d_Mo_due_60
    · replace hf := (if_neg c_8).symm.trans hf
      refine lv_iload_n hx hb d_Mo_due_22 rfl (lv_at hl 0 rfl) ?_
      refine lv_iconst (v := 2) hx hb d_Mo_due_23 (by decide) ?_
      refine lv_icmp_eq (tgt := 32) hx hb d_Mo_due_24 (by decide) (fun c_12 => ?_) (fun c_12 => ?_)
      · replace hf := (if_pos c_12).symm.trans hf
        refine lv_aload_n hx hb d_Mo_due_32 rfl (lv_at hl 1 rfl) ?_
        refine lv_iload_n hx hb d_Mo_due_33 rfl (lv_at hl 2 rfl) ?_
        refine lv_bipush (v := 10) hx hb d_Mo_due_34 (by decide) ?_
        obtain ⟨r_15, σ_13, hc_14, hf⟩ := gx_bde hf
        refine gx_go (va_runV (As := [.int p0, .int ((10 : Int32))]) (rest := []) G.1 (ct_Mo_of l D dA adr A hA N p0 ((10 : Int32)) σ_5 r_15 σ_13 hc_14) (cwV 2 ht gi_Mo_65 rfl rfl rfl (by decide +kernel) ⟨Nat.le_of_ble_eq_true rfl, Nat.le_of_ble_eq_true rfl⟩) (gx_preV G hI cl_Mo (by decide)) rfl rfl hl.1 rfl (lv_room (Nat.le_of_ble_eq_true rfl)) d_Mo_due_36 ⟨Nat.zero_le _, Nat.zero_le _⟩) hI (st1 := [.int r_15]) rfl (fun H locs hI => ?_)
        refine lv_goto (tgt := 60) hx hb d_Mo_due_39 (by decide) ?_
        cases hf
        exact W.iret hx hb hr (gx_F hI) hI.2.2.2 d_Mo_due_60
      · replace hf := (if_neg c_12).symm.trans hf
        refine lv_iload_n hx hb d_Mo_due_27 rfl (lv_at hl 0 rfl) ?_
        refine lv_iconst (v := 3) hx hb d_Mo_due_28 (by decide) ?_
        refine lv_icmp_ne (tgt := 42) hx hb d_Mo_due_29 (by decide) (fun c_16 => ?_) (fun c_16 => ?_)
        · replace hf := (if_neg c_16).symm.trans hf
          refine lv_iload_n hx hb d_Mo_due_42 rfl (lv_at hl 0 rfl) ?_
          refine lv_bipush (v := 6) hx hb d_Mo_due_43 (by decide) ?_
          refine lv_icmp_ne (tgt := 58) hx hb d_Mo_due_45 (by decide) (fun c_17 => ?_) (fun c_17 => ?_)
          · replace hf := (if_neg c_17).symm.trans hf
            refine lv_bipush (v := (-4)) hx hb d_Mo_due_58 (by decide) ?_
            cases hf
            exact W.iret hx hb hr (gx_F hI) hI.2.2.2 d_Mo_due_60
          · replace hf := (if_pos c_17).symm.trans hf
            refine lv_aload_n hx hb d_Mo_due_48 rfl (lv_at hl 1 rfl) ?_
            refine lv_iload_n hx hb d_Mo_due_49 rfl (lv_at hl 2 rfl) ?_
            refine lv_bipush (v := 7) hx hb d_Mo_due_50 (by decide) ?_
            obtain ⟨r_20, σ_18, hc_19, hf⟩ := gx_bde hf
            refine gx_go (va_runV (As := [.int p0, .int ((7 : Int32))]) (rest := []) G.1 (ct_Mo_of l D dA adr A hA N p0 ((7 : Int32)) σ_5 r_20 σ_18 hc_19) (cwV 2 ht gi_Mo_65 rfl rfl rfl (by decide +kernel) ⟨Nat.le_of_ble_eq_true rfl, Nat.le_of_ble_eq_true rfl⟩) (gx_preV G hI cl_Mo (by decide)) rfl rfl hl.1 rfl (lv_room (Nat.le_of_ble_eq_true rfl)) d_Mo_due_52 ⟨Nat.zero_le _, Nat.zero_le _⟩) hI (st1 := [.int r_20]) rfl (fun H locs hI => ?_)
            refine lv_goto (tgt := 60) hx hb d_Mo_due_55 (by decide) ?_
            cases hf
            exact W.iret hx hb hr (gx_F hI) hI.2.2.2 d_Mo_due_60
        · replace hf := (if_pos c_16).symm.trans hf
          refine lv_aload_n hx hb d_Mo_due_32 rfl (lv_at hl 1 rfl) ?_
          refine lv_iload_n hx hb d_Mo_due_33 rfl (lv_at hl 2 rfl) ?_
          refine lv_bipush (v := 10) hx hb d_Mo_due_34 (by decide) ?_
          obtain ⟨r_23, σ_21, hc_22, hf⟩ := gx_bde hf
          refine gx_go (va_runV (As := [.int p0, .int ((10 : Int32))]) (rest := []) G.1 (ct_Mo_of l D dA adr A hA N p0 ((10 : Int32)) σ_5 r_23 σ_21 hc_22) (cwV 2 ht gi_Mo_65 rfl rfl rfl (by decide +kernel) ⟨Nat.le_of_ble_eq_true rfl, Nat.le_of_ble_eq_true rfl⟩) (gx_preV G hI cl_Mo (by decide)) rfl rfl hl.1 rfl (lv_room (Nat.le_of_ble_eq_true rfl)) d_Mo_due_36 ⟨Nat.zero_le _, Nat.zero_le _⟩) hI (st1 := [.int r_23]) rfl (fun H locs hI => ?_)
          refine lv_goto (tgt := 60) hx hb d_Mo_due_39 (by decide) ?_
          cases hf
          exact W.iret hx hb hr (gx_F hI) hI.2.2.2 d_Mo_due_60
  · replace hf := (if_neg c_4).symm.trans hf
    refine lv_iconst (v := (-1)) hx hb d_Mo_due_8 (by decide) ?_
    cases hf
    exact W.iret hx hb hr (gx_F hI) hI.2.2.2 d_Mo_due_9
def fn_Mo_line (N : Nat) (p0 : Int32) (p1 : Int32) (σ : gx_M) : Option (Int32 × gx_M) := gx_bd (fn_Mo_out N p0 ((0 : Int32)) ((3 : Int32)) σ) (fun r_3 σ_1 => if r_3 = 0 then (gx_bd (fn_Mo_inLine N p0 p1 σ_1) (fun r_7 σ_5 => if 0 ≤ r_7 then (some (r_7, σ_5)) else (some ((-4 : Int32), σ_5)))) else (some ((-1 : Int32), σ_1)))
set_option maxHeartbeats 4000000 in
set_option maxRecDepth 100000 in
theorem ct_Mo_line (l : Launch) (D : va_G) (dA : Nat → ClassId) (adr : Nat → Nat) (A : Nat → Prop) (hA : gx_A A adr) (N : Nat) (p0 : Int32) (p1 : Int32) (σ : gx_M) (r : Int32) (σ' : gx_M) (hf : fn_Mo_line N p0 p1 σ = some (r, σ')) : Met l y_Mo_line w_Mo_line rm_Mo_line (gx_Pc D dA adr σ [.ref (adr 722), .int p0, .int p1]) (gx_Q D dA adr A (some (.int r)) σ') 0 0 A := by
  refine Met.ofW (cc := b_Mo_line) (maxL := 4) (ret := some .int) (by decide) rfl ?_
  intro p e s m args below meth c s₁ B hml hv
  obtain ⟨rfl, hP, hK⟩ := hv
  have hx := B.exec
  have hb := B.bytes
  have hr := B.returns
  have hlocks := B.notSynchronized
  have ht : ∀ w ∈ gx_tb, w.before _ s = true := fun w h => atoms_spec (ws := w_Mo_line) B.pre w (List.mem_cons_of_mem _ h)
  have hown : s.vm.findClass R_Mo = some m.cls := findClass_of_methodNamed B.named
  have G : gx_G p m c b_Mo_line 4 s _ gx_tb R_Mo D dA := ⟨⟨hx, hb, hml, hown, ht⟩, hK⟩
  have hI : gx_I D dA adr A s.heap σ s.heap [] := ⟨hP, va_S.rf⟩
  have hl := lv_entry ([.ref (adr 722), .int p0, .int p1]) (n := 4) (Nat.le_of_ble_eq_true rfl)
  rw [lg_entry_eq]
  generalize (lg_sl ([.ref (adr 722), .int p0, .int p1]) ++ List.replicate (4 - (lg_sl ([.ref (adr 722), .int p0, .int p1])).length) Slot.unset).toArray = ls at hl ⊢
  have hl : lv_has ls 4 [(0, .ref (adr 722)), (1, .int p0), (2, .int p1)] := hl
  rw [fn_Mo_line] at hf
  refine lv_aload_n hx hb d_Mo_line_0 rfl (lv_at hl 0 rfl) ?_
  refine lv_iload_n hx hb d_Mo_line_1 rfl (lv_at hl 1 rfl) ?_
  refine lv_iconst (v := 0) hx hb d_Mo_line_2 (by decide) ?_
  refine lv_iconst (v := 3) hx hb d_Mo_line_3 (by decide) ?_
  obtain ⟨r_3, σ_1, hc_2, hf⟩ := gx_bde hf
  refine gx_go (va_runV (As := [.int p0, .int ((0 : Int32)), .int ((3 : Int32))]) (rest := []) G.1 (ct_Mo_out l D dA adr A hA N p0 ((0 : Int32)) ((3 : Int32)) σ r_3 σ_1 hc_2) (cwV 3 ht gi_Mo_80 rfl rfl rfl (by decide +kernel) ⟨Nat.le_of_ble_eq_true rfl, Nat.le_of_ble_eq_true rfl⟩) (gx_preV G hI cl_Mo (by decide)) rfl rfl hl.1 rfl (lv_room (Nat.le_of_ble_eq_true rfl)) d_Mo_line_4 ⟨Nat.zero_le _, Nat.zero_le _⟩) hI (st1 := [.int r_3]) rfl (fun H locs hI => ?_)
  refine lv_if_eq (tgt := 12) hx hb d_Mo_line_7 (by decide) (fun c_4 => ?_) (fun c_4 => ?_)
  · replace hf := (if_pos c_4).symm.trans hf
    refine lv_aload_n hx hb d_Mo_line_12 rfl (lv_at hl 0 rfl) ?_
    refine lv_iload_n hx hb d_Mo_line_13 rfl (lv_at hl 1 rfl) ?_
    refine lv_iload_n hx hb d_Mo_line_14 rfl (lv_at hl 2 rfl) ?_
    obtain ⟨r_7, σ_5, hc_6, hf⟩ := gx_bde hf
    refine gx_go (va_runV (As := [.int p0, .int p1]) (rest := []) G.1 (ct_Mo_inLine l D dA adr A hA N p0 p1 σ_1 r_7 σ_5 hc_6) (cwV 2 ht gi_Mo_104 rfl rfl rfl (by decide +kernel) ⟨Nat.le_of_ble_eq_true rfl, Nat.le_of_ble_eq_true rfl⟩) (gx_preV G hI cl_Mo (by decide)) rfl rfl hl.1 rfl (lv_room (Nat.le_of_ble_eq_true rfl)) d_Mo_line_15 ⟨Nat.zero_le _, Nat.zero_le _⟩) hI (st1 := [.int r_7]) rfl (fun H locs hI => ?_)
    refine lv_istore_n (i := 3) (lv' := [(3, .int r_7), (0, .ref (adr 722)), (1, .int p0), (2, .int p1)]) hx hb d_Mo_line_18 rfl hl (by decide) rfl (fun ls hl => ?_)
    refine lv_iload_n hx hb d_Mo_line_19 rfl (lv_at hl 0 rfl) ?_
    refine lv_if_ge (tgt := 28) hx hb d_Mo_line_20 (by decide) (fun c_8 => ?_) (fun c_8 => ?_)
    · replace hf := (if_pos c_8).symm.trans hf
      refine lv_iload_n hx hb d_Mo_line_28 rfl (lv_at hl 0 rfl) ?_
      cases hf
      exact W.iret hx hb hr (gx_F hI) hI.2.2.2 d_Mo_line_29
    · replace hf := (if_neg c_8).symm.trans hf
      refine lv_bipush (v := (-4)) hx hb d_Mo_line_23 (by decide) ?_
      refine lv_goto (tgt := 29) hx hb d_Mo_line_25 (by decide) ?_
      cases hf
      exact W.iret hx hb hr (gx_F hI) hI.2.2.2 d_Mo_line_29
  · replace hf := (if_neg c_4).symm.trans hf
    refine lv_iconst (v := (-1)) hx hb d_Mo_line_10 (by decide) ?_
    cases hf
    exact W.iret hx hb hr (gx_F hI) hI.2.2.2 d_Mo_line_11
def fn_Mo_count_L72 (N : Nat) (u1 : Int32) : Nat → Int32 → Int32 → gx_M → Option (Int32 × gx_M)
  | 0, _, _, _ => none
  | n + 1, v3, v2, σ => if (σ 722 9) ≤ v3 then (some (v2, σ)) else (gx_bd (fn_Mo_of N v3 ((9 : Int32)) σ) (fun r_12 σ_10 => if r_12 = u1 then (fn_Mo_count_L72 N u1 n (v3 + 1) (v2 + 1) σ_10) else (fn_Mo_count_L72 N u1 n (v3 + 1) v2 σ_10)))
def fn_Mo_count (N : Nat) (p0 : Int32) (σ : gx_M) : Option (Int32 × gx_M) := if p0 = ((8 : Int32)) then (some (σ 722 9, σ)) else (if p0 = ((9 : Int32)) then (some (σ 722 11, σ)) else (if p0 = ((10 : Int32)) then (some (σ 722 1, σ)) else (if p0 ≤ ((10 : Int32)) then (gx_bd (fn_Mo_out N p0 ((0 : Int32)) ((7 : Int32)) σ) (fun r_7 σ_5 => if r_7 = 0 then (fn_Mo_count_L72 N p0 N ((0 : Int32)) ((0 : Int32)) σ_5) else (some ((-1 : Int32), σ_5)))) else (if ((15 : Int32)) ≤ p0 then (gx_bd (fn_Mo_out N p0 ((0 : Int32)) ((7 : Int32)) σ) (fun r_17 σ_15 => if r_17 = 0 then (fn_Mo_count_L72 N p0 N ((0 : Int32)) ((0 : Int32)) σ_15) else (some ((-1 : Int32), σ_15)))) else (if 0 ≤ (p0 - ((11 : Int32))) ∧ (p0 - ((11 : Int32))) < 4 then (some (σ 726 (p0 - ((11 : Int32))).toNatClampNeg, σ)) else none)))))
set_option maxHeartbeats 4000000 in
set_option maxRecDepth 100000 in
theorem wl_Mo_count_L72 {p : Program} {l : Launch} {e : Env} {s : State} {m : MethodId} {args : Array Value} {below : List Frame} {meth : Method} {c : Code} {D : va_G} {dA : Nat → ClassId} {adr : Nat → Nat} {A : Nat → Prop} (G : gx_G p m c b_Mo_count 4 s args gx_tb R_Mo D dA) (hr : meth.sig.returnType = some .int) (hlocks : meth.locks = false) (hA : gx_A A adr) (N : Nat) (res : Int32 × gx_M) (u1 : Int32) : ∀ (n : Nat) (v3 : Int32) (v2 : Int32) (σ : gx_M) (H : Heap) (locs : List Loc) (ls : Array Slot), fn_Mo_count_L72 N u1 n v3 v2 σ = some res → gx_I D dA adr A s.heap σ H locs → lv_has ls 4 [(3, .int v3), (2, .int v2), (0, .ref (adr 722)), (1, .int u1)] → W p l e (headSpec w_Mo_count rm_Mo_count).room s m args below meth c H locs 0 0 (MQ below (gx_Q D dA adr A (some (.int res.1)) res.2) args s 0 0 A) (F0 m 72 ls []) := by
  obtain ⟨⟨hx, hb, hml, hown, ht⟩, hK⟩ := id G
  intro n
  induction n with
  | zero =>
    intro v3 v2 σ H locs ls hf
    cases hf
  | succ n ih =>
    intro v3 v2 σ H locs ls hf hI hl
    rw [fn_Mo_count_L72] at hf
    refine lv_iload_n hx hb d_Mo_count_72 rfl (lv_at hl 0 rfl) ?_
    refine lv_aload_n hx hb d_Mo_count_73 rfl (lv_at hl 2 rfl) ?_
    refine gx_getI G hI cl_Mo (by decide) 9 (by decide) (by decide) fl_Mo_35 d_Mo_count_74 ?_
    refine lv_icmp_ge (tgt := 100) hx hb d_Mo_count_77 (by decide) (fun c_9 => ?_) (fun c_9 => ?_)
    · replace hf := (if_pos c_9).symm.trans hf
      refine lv_iload_n hx hb d_Mo_count_100 rfl (lv_at hl 1 rfl) ?_
      cases hf
      exact W.iret hx hb hr (gx_F hI) hI.2.2.2 d_Mo_count_101
    · replace hf := (if_neg c_9).symm.trans hf
      refine lv_aload_n hx hb d_Mo_count_80 rfl (lv_at hl 2 rfl) ?_
      refine lv_iload_n hx hb d_Mo_count_81 rfl (lv_at hl 0 rfl) ?_
      refine lv_bipush (v := 9) hx hb d_Mo_count_82 (by decide) ?_
      obtain ⟨r_12, σ_10, hc_11, hf⟩ := gx_bde hf
      refine gx_go (va_runV (As := [.int v3, .int ((9 : Int32))]) (rest := []) G.1 (ct_Mo_of l D dA adr A hA N v3 ((9 : Int32)) σ r_12 σ_10 hc_11) (cwV 2 ht gi_Mo_65 rfl rfl rfl (by decide +kernel) ⟨Nat.le_of_ble_eq_true rfl, Nat.le_of_ble_eq_true rfl⟩) (gx_preV G hI cl_Mo (by decide)) rfl rfl hl.1 rfl (lv_room (Nat.le_of_ble_eq_true rfl)) d_Mo_count_84 ⟨Nat.zero_le _, Nat.zero_le _⟩) hI (st1 := [.int r_12]) rfl (fun H locs hI => ?_)
      refine lv_iload_n hx hb d_Mo_count_87 rfl (lv_at hl 3 rfl) ?_
      refine lv_icmp_ne (tgt := 94) hx hb d_Mo_count_88 (by decide) (fun c_13 => ?_) (fun c_13 => ?_)
      · replace hf := (if_neg c_13).symm.trans hf
        refine lv_iinc (v := v3 + 1) (lv' := [(3, .int (v3 + 1)), (2, .int v2), (0, .ref (adr 722)), (1, .int u1)]) hx hb d_Mo_count_94 hl (k := 0) rfl rfl (by decide) rfl (fun ls hl => ?_)
        refine lv_goto (tgt := 72) hx hb d_Mo_count_97 (by decide) ?_
        exact ih (v3 + 1) v2 σ_10 H locs ls hf hI (lv_sub hl [0, 1, 2, 3] rfl)
      · replace hf := (if_pos c_13).symm.trans hf
        refine lv_iinc (v := v2 + 1) (lv' := [(2, .int (v2 + 1)), (3, .int v3), (0, .ref (adr 722)), (1, .int u1)]) hx hb d_Mo_count_91 hl (k := 1) rfl rfl (by decide) rfl (fun ls hl => ?_)
        refine lv_iinc (v := v3 + 1) (lv' := [(3, .int (v3 + 1)), (2, .int (v2 + 1)), (0, .ref (adr 722)), (1, .int u1)]) hx hb d_Mo_count_94 hl (k := 1) rfl rfl (by decide) rfl (fun ls hl => ?_)
        refine lv_goto (tgt := 72) hx hb d_Mo_count_97 (by decide) ?_
        exact ih (v3 + 1) (v2 + 1) σ_10 H locs ls hf hI (lv_sub hl [0, 1, 2, 3] rfl)
set_option maxHeartbeats 4000000 in
set_option maxRecDepth 100000 in
theorem ct_Mo_count (l : Launch) (D : va_G) (dA : Nat → ClassId) (adr : Nat → Nat) (A : Nat → Prop) (hA : gx_A A adr) (N : Nat) (p0 : Int32) (σ : gx_M) (r : Int32) (σ' : gx_M) (hf : fn_Mo_count N p0 σ = some (r, σ')) : Met l y_Mo_count w_Mo_count rm_Mo_count (gx_Pc D dA adr σ [.ref (adr 722), .int p0]) (gx_Q D dA adr A (some (.int r)) σ') 0 0 A := by
  refine Met.ofW (cc := b_Mo_count) (maxL := 4) (ret := some .int) (by decide) rfl ?_
  intro p e s m args below meth c s₁ B hml hv
  obtain ⟨rfl, hP, hK⟩ := hv
  have hx := B.exec
  have hb := B.bytes
  have hr := B.returns
  have hlocks := B.notSynchronized
  have ht : ∀ w ∈ gx_tb, w.before _ s = true := fun w h => atoms_spec (ws := w_Mo_count) B.pre w (List.mem_cons_of_mem _ h)
  have hown : s.vm.findClass R_Mo = some m.cls := findClass_of_methodNamed B.named
  have G : gx_G p m c b_Mo_count 4 s _ gx_tb R_Mo D dA := ⟨⟨hx, hb, hml, hown, ht⟩, hK⟩
  have hI : gx_I D dA adr A s.heap σ s.heap [] := ⟨hP, va_S.rf⟩
  have hl := lv_entry ([.ref (adr 722), .int p0]) (n := 4) (Nat.le_of_ble_eq_true rfl)
  rw [lg_entry_eq]
  generalize (lg_sl ([.ref (adr 722), .int p0]) ++ List.replicate (4 - (lg_sl ([.ref (adr 722), .int p0])).length) Slot.unset).toArray = ls at hl ⊢
  have hl : lv_has ls 4 [(0, .ref (adr 722)), (1, .int p0)] := hl
  rw [fn_Mo_count] at hf
  refine lv_iload_n hx hb d_Mo_count_0 rfl (lv_at hl 1 rfl) ?_
  refine lv_bipush (v := 8) hx hb d_Mo_count_1 (by decide) ?_
  refine lv_icmp_ne (tgt := 11) hx hb d_Mo_count_3 (by decide) (fun c_1 => ?_) (fun c_1 => ?_)
  · replace hf := (if_neg c_1).symm.trans hf
    refine lv_iload_n hx hb d_Mo_count_11 rfl (lv_at hl 1 rfl) ?_
    refine lv_bipush (v := 9) hx hb d_Mo_count_12 (by decide) ?_
    refine lv_icmp_ne (tgt := 22) hx hb d_Mo_count_14 (by decide) (fun c_2 => ?_) (fun c_2 => ?_)
    · replace hf := (if_neg c_2).symm.trans hf
      refine lv_iload_n hx hb d_Mo_count_22 rfl (lv_at hl 1 rfl) ?_
      refine lv_bipush (v := 10) hx hb d_Mo_count_23 (by decide) ?_
      refine lv_icmp_ne (tgt := 33) hx hb d_Mo_count_25 (by decide) (fun c_3 => ?_) (fun c_3 => ?_)
      · replace hf := (if_neg c_3).symm.trans hf
        refine lv_iload_n hx hb d_Mo_count_33 rfl (lv_at hl 1 rfl) ?_
        refine lv_bipush (v := 10) hx hb d_Mo_count_34 (by decide) ?_
        refine lv_icmp_le (tgt := 55) hx hb d_Mo_count_36 (by decide) (fun c_4 => ?_) (fun c_4 => ?_)
        · replace hf := (if_pos c_4).symm.trans hf
          refine lv_aload_n hx hb d_Mo_count_55 rfl (lv_at hl 0 rfl) ?_
          refine lv_iload_n hx hb d_Mo_count_56 rfl (lv_at hl 1 rfl) ?_
          refine lv_iconst (v := 0) hx hb d_Mo_count_57 (by decide) ?_
          refine lv_bipush (v := 7) hx hb d_Mo_count_58 (by decide) ?_
          obtain ⟨r_7, σ_5, hc_6, hf⟩ := gx_bde hf
          refine gx_go (va_runV (As := [.int p0, .int ((0 : Int32)), .int ((7 : Int32))]) (rest := []) G.1 (ct_Mo_out l D dA adr A hA N p0 ((0 : Int32)) ((7 : Int32)) σ r_7 σ_5 hc_6) (cwV 3 ht gi_Mo_80 rfl rfl rfl (by decide +kernel) ⟨Nat.le_of_ble_eq_true rfl, Nat.le_of_ble_eq_true rfl⟩) (gx_preV G hI cl_Mo (by decide)) rfl rfl hl.1 rfl (lv_room (Nat.le_of_ble_eq_true rfl)) d_Mo_count_60 ⟨Nat.zero_le _, Nat.zero_le _⟩) hI (st1 := [.int r_7]) rfl (fun H locs hI => ?_)
          refine lv_if_eq (tgt := 68) hx hb d_Mo_count_63 (by decide) (fun c_8 => ?_) (fun c_8 => ?_)
          · replace hf := (if_pos c_8).symm.trans hf
            refine lv_iconst (v := 0) hx hb d_Mo_count_68 (by decide) ?_
            refine lv_istore_n (i := 2) (lv' := [(2, .int ((0 : Int32))), (0, .ref (adr 722)), (1, .int p0)]) hx hb d_Mo_count_69 rfl hl (by decide) rfl (fun ls hl => ?_)
            refine lv_iconst (v := 0) hx hb d_Mo_count_70 (by decide) ?_
            refine lv_istore_n (i := 3) (lv' := [(3, .int ((0 : Int32))), (2, .int ((0 : Int32))), (0, .ref (adr 722)), (1, .int p0)]) hx hb d_Mo_count_71 rfl hl (by decide) rfl (fun ls hl => ?_)
            exact wl_Mo_count_L72 G hr hlocks hA N _ p0 N ((0 : Int32)) ((0 : Int32)) σ_5 _ _ ls hf hI (lv_sub hl [0, 1, 2, 3] rfl)
          · replace hf := (if_neg c_8).symm.trans hf
            refine lv_iconst (v := (-1)) hx hb d_Mo_count_66 (by decide) ?_
            cases hf
            exact W.iret hx hb hr (gx_F hI) hI.2.2.2 d_Mo_count_67
        · replace hf := (if_neg c_4).symm.trans hf
          refine lv_iload_n hx hb d_Mo_count_39 rfl (lv_at hl 1 rfl) ?_
          refine lv_bipush (v := 15) hx hb d_Mo_count_40 (by decide) ?_
          refine lv_icmp_ge (tgt := 55) hx hb d_Mo_count_42 (by decide) (fun c_14 => ?_) (fun c_14 => ?_)
          · replace hf := (if_pos c_14).symm.trans hf
            refine lv_aload_n hx hb d_Mo_count_55 rfl (lv_at hl 0 rfl) ?_
            refine lv_iload_n hx hb d_Mo_count_56 rfl (lv_at hl 1 rfl) ?_
            refine lv_iconst (v := 0) hx hb d_Mo_count_57 (by decide) ?_
            refine lv_bipush (v := 7) hx hb d_Mo_count_58 (by decide) ?_
            obtain ⟨r_17, σ_15, hc_16, hf⟩ := gx_bde hf
            refine gx_go (va_runV (As := [.int p0, .int ((0 : Int32)), .int ((7 : Int32))]) (rest := []) G.1 (ct_Mo_out l D dA adr A hA N p0 ((0 : Int32)) ((7 : Int32)) σ r_17 σ_15 hc_16) (cwV 3 ht gi_Mo_80 rfl rfl rfl (by decide +kernel) ⟨Nat.le_of_ble_eq_true rfl, Nat.le_of_ble_eq_true rfl⟩) (gx_preV G hI cl_Mo (by decide)) rfl rfl hl.1 rfl (lv_room (Nat.le_of_ble_eq_true rfl)) d_Mo_count_60 ⟨Nat.zero_le _, Nat.zero_le _⟩) hI (st1 := [.int r_17]) rfl (fun H locs hI => ?_)
            refine lv_if_eq (tgt := 68) hx hb d_Mo_count_63 (by decide) (fun c_18 => ?_) (fun c_18 => ?_)
            · replace hf := (if_pos c_18).symm.trans hf
              refine lv_iconst (v := 0) hx hb d_Mo_count_68 (by decide) ?_
              refine lv_istore_n (i := 2) (lv' := [(2, .int ((0 : Int32))), (0, .ref (adr 722)), (1, .int p0)]) hx hb d_Mo_count_69 rfl hl (by decide) rfl (fun ls hl => ?_)
              refine lv_iconst (v := 0) hx hb d_Mo_count_70 (by decide) ?_
              refine lv_istore_n (i := 3) (lv' := [(3, .int ((0 : Int32))), (2, .int ((0 : Int32))), (0, .ref (adr 722)), (1, .int p0)]) hx hb d_Mo_count_71 rfl hl (by decide) rfl (fun ls hl => ?_)
              exact wl_Mo_count_L72 G hr hlocks hA N _ p0 N ((0 : Int32)) ((0 : Int32)) σ_15 _ _ ls hf hI (lv_sub hl [0, 1, 2, 3] rfl)
            · replace hf := (if_neg c_18).symm.trans hf
              refine lv_iconst (v := (-1)) hx hb d_Mo_count_66 (by decide) ?_
              cases hf
              exact W.iret hx hb hr (gx_F hI) hI.2.2.2 d_Mo_count_67
          · replace hf := (if_neg c_14).symm.trans hf
            refine lv_aload_n hx hb d_Mo_count_45 rfl (lv_at hl 0 rfl) ?_
            refine gx_getR (o' := 726) G hI cl_Mo (by decide) 5 (by decide) (by decide) fl_Mo_23 d_Mo_count_46 ?_
            refine lv_iload_n hx hb d_Mo_count_49 rfl (lv_at hl 1 rfl) ?_
            refine lv_bipush (v := 11) hx hb d_Mo_count_50 (by decide) ?_
            refine lv_isub hx hb d_Mo_count_52 ?_
            obtain ⟨hi_19, hf⟩ := gx_gd hf
            refine gx_ild G hI (by decide) (gx_in hi_19 (by decide)) d_Mo_count_53 ?_
            cases hf
            exact W.iret hx hb hr (gx_F hI) hI.2.2.2 d_Mo_count_54
      · replace hf := (if_pos c_3).symm.trans hf
        refine lv_aload_n hx hb d_Mo_count_28 rfl (lv_at hl 0 rfl) ?_
        refine gx_getI G hI cl_Mo (by decide) 1 (by decide) (by decide) fl_Mo_7 d_Mo_count_29 ?_
        cases hf
        exact W.iret hx hb hr (gx_F hI) hI.2.2.2 d_Mo_count_32
    · replace hf := (if_pos c_2).symm.trans hf
      refine lv_aload_n hx hb d_Mo_count_17 rfl (lv_at hl 0 rfl) ?_
      refine gx_getI G hI cl_Mo (by decide) 11 (by decide) (by decide) fl_Mo_41 d_Mo_count_18 ?_
      cases hf
      exact W.iret hx hb hr (gx_F hI) hI.2.2.2 d_Mo_count_21
  · replace hf := (if_pos c_1).symm.trans hf
    refine lv_aload_n hx hb d_Mo_count_6 rfl (lv_at hl 0 rfl) ?_
    refine gx_getI G hI cl_Mo (by decide) 9 (by decide) (by decide) fl_Mo_35 d_Mo_count_7 ?_
    cases hf
    exact W.iret hx hb hr (gx_F hI) hI.2.2.2 d_Mo_count_10
